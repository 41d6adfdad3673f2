theorem dX0_init_0 : decode cX0_init 0 = .ok (.aload_n 0, 1) := by decide +kernel
theorem dX0_init_1 : decode cX0_init 1 = .ok (.invokespecial 3, 3) := by decide +kernel
theorem dX0_init_4 : decode cX0_init 4 = .ok (.aload_n 0, 1) := by decide +kernel
theorem dX0_init_5 : decode cX0_init 5 = .ok (.bipush 20, 2) := by decide +kernel
theorem dX0_init_7 : decode cX0_init 7 = .ok (.newarray .int, 2) := by decide +kernel
theorem dX0_init_9 : decode cX0_init 9 = .ok (.putfield 9, 3) := by decide +kernel
theorem dX0_init_12 : decode cX0_init 12 = .ok (.aload_n 0, 1) := by decide +kernel
theorem dX0_init_13 : decode cX0_init 13 = .ok (.bipush 20, 2) := by decide +kernel
theorem dX0_init_15 : decode cX0_init 15 = .ok (.newarray .int, 2) := by decide +kernel
theorem dX0_init_17 : decode cX0_init 17 = .ok (.putfield 15, 3) := by decide +kernel
theorem dX0_init_20 : decode cX0_init 20 = .ok (.aload_n 0, 1) := by decide +kernel
theorem dX0_init_21 : decode cX0_init 21 = .ok (.bipush 96, 2) := by decide +kernel
theorem dX0_init_23 : decode cX0_init 23 = .ok (.newarray .boolean, 2) := by decide +kernel
theorem dX0_init_25 : decode cX0_init 25 = .ok (.putfield 18, 3) := by decide +kernel
theorem dX0_init_28 : decode cX0_init 28 = .ok (.aload_n 0, 1) := by decide +kernel
theorem dX0_init_29 : decode cX0_init 29 = .ok (.bipush 96, 2) := by decide +kernel
theorem dX0_init_31 : decode cX0_init 31 = .ok (.newarray .int, 2) := by decide +kernel
theorem dX0_init_33 : decode cX0_init 33 = .ok (.putfield 22, 3) := by decide +kernel
theorem dX0_init_36 : decode cX0_init 36 = .ok (.aload_n 0, 1) := by decide +kernel
theorem dX0_init_37 : decode cX0_init 37 = .ok (.bipush 96, 2) := by decide +kernel
theorem dX0_init_39 : decode cX0_init 39 = .ok (.newarray .int, 2) := by decide +kernel
theorem dX0_init_41 : decode cX0_init 41 = .ok (.putfield 25, 3) := by decide +kernel
theorem dX0_init_44 : decode cX0_init 44 = .ok (.return_, 1) := by decide +kernel
theorem dX0_forget_0 : decode cX0_forget 0 = .ok (.aload_n 0, 1) := by decide +kernel
theorem dX0_forget_1 : decode cX0_forget 1 = .ok (.getfield 9, 3) := by decide +kernel
theorem dX0_forget_4 : decode cX0_forget 4 = .ok (.iconst 0, 1) := by decide +kernel
theorem dX0_forget_5 : decode cX0_forget 5 = .ok (.invokestatic 28, 3) := by decide +kernel
theorem dX0_forget_8 : decode cX0_forget 8 = .ok (.aload_n 0, 1) := by decide +kernel
theorem dX0_forget_9 : decode cX0_forget 9 = .ok (.getfield 15, 3) := by decide +kernel
theorem dX0_forget_12 : decode cX0_forget 12 = .ok (.iconst 0, 1) := by decide +kernel
theorem dX0_forget_13 : decode cX0_forget 13 = .ok (.invokestatic 28, 3) := by decide +kernel
theorem dX0_forget_16 : decode cX0_forget 16 = .ok (.return_, 1) := by decide +kernel
theorem dX0_setDrift_0 : decode cX0_setDrift 0 = .ok (.iload_n 1, 1) := by decide +kernel
theorem dX0_setDrift_1 : decode cX0_setDrift 1 = .ok (.ifCond .lt 17, 3) := by decide +kernel
theorem dX0_setDrift_4 : decode cX0_setDrift 4 = .ok (.iload_n 1, 1) := by decide +kernel
theorem dX0_setDrift_5 : decode cX0_setDrift 5 = .ok (.iconst 4, 1) := by decide +kernel
theorem dX0_setDrift_6 : decode cX0_setDrift 6 = .ok (.if_icmp .ge 12, 3) := by decide +kernel
theorem dX0_setDrift_9 : decode cX0_setDrift 9 = .ok (.iload_n 2, 1) := by decide +kernel
theorem dX0_setDrift_10 : decode cX0_setDrift 10 = .ok (.ifCond .lt 8, 3) := by decide +kernel
theorem dX0_setDrift_13 : decode cX0_setDrift 13 = .ok (.iload_n 2, 1) := by decide +kernel
theorem dX0_setDrift_14 : decode cX0_setDrift 14 = .ok (.iconst 5, 1) := by decide +kernel
theorem dX0_setDrift_15 : decode cX0_setDrift 15 = .ok (.if_icmp .lt 4, 3) := by decide +kernel
theorem dX0_setDrift_18 : decode cX0_setDrift 18 = .ok (.return_, 1) := by decide +kernel
theorem dX0_setDrift_19 : decode cX0_setDrift 19 = .ok (.aload_n 0, 1) := by decide +kernel
theorem dX0_setDrift_20 : decode cX0_setDrift 20 = .ok (.getfield 9, 3) := by decide +kernel
theorem dX0_setDrift_23 : decode cX0_setDrift 23 = .ok (.iload_n 1, 1) := by decide +kernel
theorem dX0_setDrift_24 : decode cX0_setDrift 24 = .ok (.iconst 5, 1) := by decide +kernel
theorem dX0_setDrift_25 : decode cX0_setDrift 25 = .ok (.imul, 1) := by decide +kernel
theorem dX0_setDrift_26 : decode cX0_setDrift 26 = .ok (.iload_n 2, 1) := by decide +kernel
theorem dX0_setDrift_27 : decode cX0_setDrift 27 = .ok (.iadd, 1) := by decide +kernel
theorem dX0_setDrift_28 : decode cX0_setDrift 28 = .ok (.iload_n 3, 1) := by decide +kernel
theorem dX0_setDrift_29 : decode cX0_setDrift 29 = .ok (.iastore, 1) := by decide +kernel
theorem dX0_setDrift_30 : decode cX0_setDrift 30 = .ok (.aload_n 0, 1) := by decide +kernel
theorem dX0_setDrift_31 : decode cX0_setDrift 31 = .ok (.getfield 15, 3) := by decide +kernel
theorem dX0_setDrift_34 : decode cX0_setDrift 34 = .ok (.iload_n 1, 1) := by decide +kernel
theorem dX0_setDrift_35 : decode cX0_setDrift 35 = .ok (.iconst 5, 1) := by decide +kernel
theorem dX0_setDrift_36 : decode cX0_setDrift 36 = .ok (.imul, 1) := by decide +kernel
theorem dX0_setDrift_37 : decode cX0_setDrift 37 = .ok (.iload_n 2, 1) := by decide +kernel
theorem dX0_setDrift_38 : decode cX0_setDrift 38 = .ok (.iadd, 1) := by decide +kernel
theorem dX0_setDrift_39 : decode cX0_setDrift 39 = .ok (.iload 4, 2) := by decide +kernel
theorem dX0_setDrift_41 : decode cX0_setDrift 41 = .ok (.iastore, 1) := by decide +kernel
theorem dX0_setDrift_42 : decode cX0_setDrift 42 = .ok (.return_, 1) := by decide +kernel
theorem dX0_slot_0 : decode cX0_slot 0 = .ok (.iload_n 1, 1) := by decide +kernel
theorem dX0_slot_1 : decode cX0_slot 1 = .ok (.ifCond .lt 27, 3) := by decide +kernel
theorem dX0_slot_4 : decode cX0_slot 4 = .ok (.iload_n 1, 1) := by decide +kernel
theorem dX0_slot_5 : decode cX0_slot 5 = .ok (.bipush 12, 2) := by decide +kernel
theorem dX0_slot_7 : decode cX0_slot 7 = .ok (.if_icmp .ge 21, 3) := by decide +kernel
theorem dX0_slot_10 : decode cX0_slot 10 = .ok (.iload_n 2, 1) := by decide +kernel
theorem dX0_slot_11 : decode cX0_slot 11 = .ok (.ifCond .lt 17, 3) := by decide +kernel
theorem dX0_slot_14 : decode cX0_slot 14 = .ok (.iload_n 2, 1) := by decide +kernel
theorem dX0_slot_15 : decode cX0_slot 15 = .ok (.iconst 4, 1) := by decide +kernel
theorem dX0_slot_16 : decode cX0_slot 16 = .ok (.if_icmp .ge 12, 3) := by decide +kernel
theorem dX0_slot_19 : decode cX0_slot 19 = .ok (.iload_n 3, 1) := by decide +kernel
theorem dX0_slot_20 : decode cX0_slot 20 = .ok (.ifCond .lt 8, 3) := by decide +kernel
theorem dX0_slot_23 : decode cX0_slot 23 = .ok (.iload_n 3, 1) := by decide +kernel
theorem dX0_slot_24 : decode cX0_slot 24 = .ok (.iconst 1, 1) := by decide +kernel
theorem dX0_slot_25 : decode cX0_slot 25 = .ok (.if_icmp .le 5, 3) := by decide +kernel
theorem dX0_slot_28 : decode cX0_slot 28 = .ok (.iconst (-1), 1) := by decide +kernel
theorem dX0_slot_29 : decode cX0_slot 29 = .ok (.ireturn, 1) := by decide +kernel
theorem dX0_slot_30 : decode cX0_slot 30 = .ok (.iload_n 1, 1) := by decide +kernel
theorem dX0_slot_31 : decode cX0_slot 31 = .ok (.iconst 4, 1) := by decide +kernel
theorem dX0_slot_32 : decode cX0_slot 32 = .ok (.imul, 1) := by decide +kernel
theorem dX0_slot_33 : decode cX0_slot 33 = .ok (.iload_n 2, 1) := by decide +kernel
theorem dX0_slot_34 : decode cX0_slot 34 = .ok (.iadd, 1) := by decide +kernel
theorem dX0_slot_35 : decode cX0_slot 35 = .ok (.iconst 2, 1) := by decide +kernel
theorem dX0_slot_36 : decode cX0_slot 36 = .ok (.imul, 1) := by decide +kernel
theorem dX0_slot_37 : decode cX0_slot 37 = .ok (.iload_n 3, 1) := by decide +kernel
theorem dX0_slot_38 : decode cX0_slot 38 = .ok (.iadd, 1) := by decide +kernel
theorem dX0_slot_39 : decode cX0_slot 39 = .ok (.ireturn, 1) := by decide +kernel
theorem dX0_isHot_0 : decode cX0_isHot 0 = .ok (.iload_n 1, 1) := by decide +kernel
theorem dX0_isHot_1 : decode cX0_isHot 1 = .ok (.ifCond .lt 25, 3) := by decide +kernel
theorem dX0_isHot_4 : decode cX0_isHot 4 = .ok (.iload_n 1, 1) := by decide +kernel
theorem dX0_isHot_5 : decode cX0_isHot 5 = .ok (.aload_n 0, 1) := by decide +kernel
theorem dX0_isHot_6 : decode cX0_isHot 6 = .ok (.getfield 18, 3) := by decide +kernel
theorem dX0_isHot_9 : decode cX0_isHot 9 = .ok (.arraylength, 1) := by decide +kernel
theorem dX0_isHot_10 : decode cX0_isHot 10 = .ok (.if_icmp .ge 16, 3) := by decide +kernel
theorem dX0_isHot_13 : decode cX0_isHot 13 = .ok (.aload_n 0, 1) := by decide +kernel
theorem dX0_isHot_14 : decode cX0_isHot 14 = .ok (.getfield 18, 3) := by decide +kernel
theorem dX0_isHot_17 : decode cX0_isHot 17 = .ok (.iload_n 1, 1) := by decide +kernel
theorem dX0_isHot_18 : decode cX0_isHot 18 = .ok (.baload, 1) := by decide +kernel
theorem dX0_isHot_19 : decode cX0_isHot 19 = .ok (.ifCond .eq 7, 3) := by decide +kernel
theorem dX0_isHot_22 : decode cX0_isHot 22 = .ok (.iconst 1, 1) := by decide +kernel
theorem dX0_isHot_23 : decode cX0_isHot 23 = .ok (.goto 4, 3) := by decide +kernel
theorem dX0_isHot_26 : decode cX0_isHot 26 = .ok (.iconst 0, 1) := by decide +kernel
theorem dX0_isHot_27 : decode cX0_isHot 27 = .ok (.ireturn, 1) := by decide +kernel
theorem dX0_shiftXOf_0 : decode cX0_shiftXOf 0 = .ok (.iload_n 1, 1) := by decide +kernel
theorem dX0_shiftXOf_1 : decode cX0_shiftXOf 1 = .ok (.ifCond .lt 21, 3) := by decide +kernel
theorem dX0_shiftXOf_4 : decode cX0_shiftXOf 4 = .ok (.iload_n 1, 1) := by decide +kernel
theorem dX0_shiftXOf_5 : decode cX0_shiftXOf 5 = .ok (.aload_n 0, 1) := by decide +kernel
theorem dX0_shiftXOf_6 : decode cX0_shiftXOf 6 = .ok (.getfield 22, 3) := by decide +kernel
theorem dX0_shiftXOf_9 : decode cX0_shiftXOf 9 = .ok (.arraylength, 1) := by decide +kernel
theorem dX0_shiftXOf_10 : decode cX0_shiftXOf 10 = .ok (.if_icmp .ge 12, 3) := by decide +kernel
theorem dX0_shiftXOf_13 : decode cX0_shiftXOf 13 = .ok (.aload_n 0, 1) := by decide +kernel
theorem dX0_shiftXOf_14 : decode cX0_shiftXOf 14 = .ok (.getfield 22, 3) := by decide +kernel
theorem dX0_shiftXOf_17 : decode cX0_shiftXOf 17 = .ok (.iload_n 1, 1) := by decide +kernel
theorem dX0_shiftXOf_18 : decode cX0_shiftXOf 18 = .ok (.iaload, 1) := by decide +kernel
theorem dX0_shiftXOf_19 : decode cX0_shiftXOf 19 = .ok (.goto 4, 3) := by decide +kernel
theorem dX0_shiftXOf_22 : decode cX0_shiftXOf 22 = .ok (.iconst 0, 1) := by decide +kernel
theorem dX0_shiftXOf_23 : decode cX0_shiftXOf 23 = .ok (.ireturn, 1) := by decide +kernel
theorem dX0_shiftYOf_0 : decode cX0_shiftYOf 0 = .ok (.iload_n 1, 1) := by decide +kernel
theorem dX0_shiftYOf_1 : decode cX0_shiftYOf 1 = .ok (.ifCond .lt 21, 3) := by decide +kernel
theorem dX0_shiftYOf_4 : decode cX0_shiftYOf 4 = .ok (.iload_n 1, 1) := by decide +kernel
theorem dX0_shiftYOf_5 : decode cX0_shiftYOf 5 = .ok (.aload_n 0, 1) := by decide +kernel
theorem dX0_shiftYOf_6 : decode cX0_shiftYOf 6 = .ok (.getfield 25, 3) := by decide +kernel
theorem dX0_shiftYOf_9 : decode cX0_shiftYOf 9 = .ok (.arraylength, 1) := by decide +kernel
theorem dX0_shiftYOf_10 : decode cX0_shiftYOf 10 = .ok (.if_icmp .ge 12, 3) := by decide +kernel
theorem dX0_shiftYOf_13 : decode cX0_shiftYOf 13 = .ok (.aload_n 0, 1) := by decide +kernel
theorem dX0_shiftYOf_14 : decode cX0_shiftYOf 14 = .ok (.getfield 25, 3) := by decide +kernel
theorem dX0_shiftYOf_17 : decode cX0_shiftYOf 17 = .ok (.iload_n 1, 1) := by decide +kernel
theorem dX0_shiftYOf_18 : decode cX0_shiftYOf 18 = .ok (.iaload, 1) := by decide +kernel
theorem dX0_shiftYOf_19 : decode cX0_shiftYOf 19 = .ok (.goto 4, 3) := by decide +kernel
theorem dX0_shiftYOf_22 : decode cX0_shiftYOf 22 = .ok (.iconst 0, 1) := by decide +kernel
theorem dX0_shiftYOf_23 : decode cX0_shiftYOf 23 = .ok (.ireturn, 1) := by decide +kernel
theorem dX0_reckonKind_0 : decode cX0_reckonKind 0 = .ok (.iconst 0, 1) := by decide +kernel
theorem dX0_reckonKind_1 : decode cX0_reckonKind 1 = .ok (.istore_n 3, 1) := by decide +kernel
theorem dX0_reckonKind_2 : decode cX0_reckonKind 2 = .ok (.iload_n 3, 1) := by decide +kernel
theorem dX0_reckonKind_3 : decode cX0_reckonKind 3 = .ok (.iconst 4, 1) := by decide +kernel
theorem dX0_reckonKind_4 : decode cX0_reckonKind 4 = .ok (.if_icmp .ge 16, 3) := by decide +kernel
theorem dX0_reckonKind_7 : decode cX0_reckonKind 7 = .ok (.aload_n 0, 1) := by decide +kernel
theorem dX0_reckonKind_8 : decode cX0_reckonKind 8 = .ok (.aload_n 1, 1) := by decide +kernel
theorem dX0_reckonKind_9 : decode cX0_reckonKind 9 = .ok (.iload_n 2, 1) := by decide +kernel
theorem dX0_reckonKind_10 : decode cX0_reckonKind 10 = .ok (.iload_n 3, 1) := by decide +kernel
theorem dX0_reckonKind_11 : decode cX0_reckonKind 11 = .ok (.invokevirtual 34, 3) := by decide +kernel
theorem dX0_reckonKind_14 : decode cX0_reckonKind 14 = .ok (.iinc 3 1, 3) := by decide +kernel
theorem dX0_reckonKind_17 : decode cX0_reckonKind 17 = .ok (.goto (-15), 3) := by decide +kernel
theorem dX0_reckonKind_20 : decode cX0_reckonKind 20 = .ok (.return_, 1) := by decide +kernel
theorem dX0_reckonWind_0 : decode cX0_reckonWind 0 = .ok (.iconst 0, 1) := by decide +kernel
theorem dX0_reckonWind_1 : decode cX0_reckonWind 1 = .ok (.istore_n 3, 1) := by decide +kernel
theorem dX0_reckonWind_2 : decode cX0_reckonWind 2 = .ok (.iload_n 3, 1) := by decide +kernel
theorem dX0_reckonWind_3 : decode cX0_reckonWind 3 = .ok (.bipush 12, 2) := by decide +kernel
theorem dX0_reckonWind_5 : decode cX0_reckonWind 5 = .ok (.if_icmp .ge 16, 3) := by decide +kernel
theorem dX0_reckonWind_8 : decode cX0_reckonWind 8 = .ok (.aload_n 0, 1) := by decide +kernel
theorem dX0_reckonWind_9 : decode cX0_reckonWind 9 = .ok (.aload_n 1, 1) := by decide +kernel
theorem dX0_reckonWind_10 : decode cX0_reckonWind 10 = .ok (.iload_n 3, 1) := by decide +kernel
theorem dX0_reckonWind_11 : decode cX0_reckonWind 11 = .ok (.iload_n 2, 1) := by decide +kernel
theorem dX0_reckonWind_12 : decode cX0_reckonWind 12 = .ok (.invokevirtual 34, 3) := by decide +kernel
theorem dX0_reckonWind_15 : decode cX0_reckonWind 15 = .ok (.iinc 3 1, 3) := by decide +kernel
theorem dX0_reckonWind_18 : decode cX0_reckonWind 18 = .ok (.goto (-16), 3) := by decide +kernel
theorem dX0_reckonWind_21 : decode cX0_reckonWind 21 = .ok (.return_, 1) := by decide +kernel
theorem dX0_reckonFalls_0 : decode cX0_reckonFalls 0 = .ok (.aload_n 1, 1) := by decide +kernel
theorem dX0_reckonFalls_1 : decode cX0_reckonFalls 1 = .ok (.iload_n 2, 1) := by decide +kernel
theorem dX0_reckonFalls_2 : decode cX0_reckonFalls 2 = .ok (.invokevirtual 38, 3) := by decide +kernel
theorem dX0_reckonFalls_5 : decode cX0_reckonFalls 5 = .ok (.istore 4, 2) := by decide +kernel
theorem dX0_reckonFalls_7 : decode cX0_reckonFalls 7 = .ok (.aload_n 1, 1) := by decide +kernel
theorem dX0_reckonFalls_8 : decode cX0_reckonFalls 8 = .ok (.iload_n 2, 1) := by decide +kernel
theorem dX0_reckonFalls_9 : decode cX0_reckonFalls 9 = .ok (.invokevirtual 44, 3) := by decide +kernel
theorem dX0_reckonFalls_12 : decode cX0_reckonFalls 12 = .ok (.istore 5, 2) := by decide +kernel
theorem dX0_reckonFalls_14 : decode cX0_reckonFalls 14 = .ok (.aload_n 0, 1) := by decide +kernel
theorem dX0_reckonFalls_15 : decode cX0_reckonFalls 15 = .ok (.aload_n 0, 1) := by decide +kernel
theorem dX0_reckonFalls_16 : decode cX0_reckonFalls 16 = .ok (.iload_n 2, 1) := by decide +kernel
theorem dX0_reckonFalls_17 : decode cX0_reckonFalls 17 = .ok (.iload_n 3, 1) := by decide +kernel
theorem dX0_reckonFalls_18 : decode cX0_reckonFalls 18 = .ok (.iconst 0, 1) := by decide +kernel
theorem dX0_reckonFalls_19 : decode cX0_reckonFalls 19 = .ok (.invokevirtual 47, 3) := by decide +kernel
theorem dX0_reckonFalls_22 : decode cX0_reckonFalls 22 = .ok (.iload_n 3, 1) := by decide +kernel
theorem dX0_reckonFalls_23 : decode cX0_reckonFalls 23 = .ok (.bipush 10, 2) := by decide +kernel
theorem dX0_reckonFalls_25 : decode cX0_reckonFalls 25 = .ok (.iload 4, 2) := by decide +kernel
theorem dX0_reckonFalls_27 : decode cX0_reckonFalls 27 = .ok (.imul, 1) := by decide +kernel
theorem dX0_reckonFalls_28 : decode cX0_reckonFalls 28 = .ok (.iload 5, 2) := by decide +kernel
theorem dX0_reckonFalls_30 : decode cX0_reckonFalls 30 = .ok (.invokevirtual 51, 3) := by decide +kernel
theorem dX0_reckonFalls_33 : decode cX0_reckonFalls 33 = .ok (.aload_n 0, 1) := by decide +kernel
theorem dX0_reckonFalls_34 : decode cX0_reckonFalls 34 = .ok (.aload_n 0, 1) := by decide +kernel
theorem dX0_reckonFalls_35 : decode cX0_reckonFalls 35 = .ok (.iload_n 2, 1) := by decide +kernel
theorem dX0_reckonFalls_36 : decode cX0_reckonFalls 36 = .ok (.iload_n 3, 1) := by decide +kernel
theorem dX0_reckonFalls_37 : decode cX0_reckonFalls 37 = .ok (.iconst 1, 1) := by decide +kernel
theorem dX0_reckonFalls_38 : decode cX0_reckonFalls 38 = .ok (.invokevirtual 47, 3) := by decide +kernel
theorem dX0_reckonFalls_41 : decode cX0_reckonFalls 41 = .ok (.iload_n 3, 1) := by decide +kernel
theorem dX0_reckonFalls_42 : decode cX0_reckonFalls 42 = .ok (.iconst 5, 1) := by decide +kernel
theorem dX0_reckonFalls_43 : decode cX0_reckonFalls 43 = .ok (.iload 4, 2) := by decide +kernel
theorem dX0_reckonFalls_45 : decode cX0_reckonFalls 45 = .ok (.imul, 1) := by decide +kernel
theorem dX0_reckonFalls_46 : decode cX0_reckonFalls 46 = .ok (.iload 5, 2) := by decide +kernel
theorem dX0_reckonFalls_48 : decode cX0_reckonFalls 48 = .ok (.invokevirtual 51, 3) := by decide +kernel
theorem dX0_reckonFalls_51 : decode cX0_reckonFalls 51 = .ok (.return_, 1) := by decide +kernel
theorem dX0_reckonFall_0 : decode cX0_reckonFall 0 = .ok (.iload_n 1, 1) := by decide +kernel
theorem dX0_reckonFall_1 : decode cX0_reckonFall 1 = .ok (.ifCond .lt 21, 3) := by decide +kernel
theorem dX0_reckonFall_4 : decode cX0_reckonFall 4 = .ok (.iload_n 1, 1) := by decide +kernel
theorem dX0_reckonFall_5 : decode cX0_reckonFall 5 = .ok (.aload_n 0, 1) := by decide +kernel
theorem dX0_reckonFall_6 : decode cX0_reckonFall 6 = .ok (.getfield 18, 3) := by decide +kernel
theorem dX0_reckonFall_9 : decode cX0_reckonFall 9 = .ok (.arraylength, 1) := by decide +kernel
theorem dX0_reckonFall_10 : decode cX0_reckonFall 10 = .ok (.if_icmp .ge 12, 3) := by decide +kernel
theorem dX0_reckonFall_13 : decode cX0_reckonFall 13 = .ok (.iload_n 2, 1) := by decide +kernel
theorem dX0_reckonFall_14 : decode cX0_reckonFall 14 = .ok (.ifCond .lt 8, 3) := by decide +kernel
theorem dX0_reckonFall_17 : decode cX0_reckonFall 17 = .ok (.iload_n 2, 1) := by decide +kernel
theorem dX0_reckonFall_18 : decode cX0_reckonFall 18 = .ok (.iconst 4, 1) := by decide +kernel
theorem dX0_reckonFall_19 : decode cX0_reckonFall 19 = .ok (.if_icmp .lt 4, 3) := by decide +kernel
theorem dX0_reckonFall_22 : decode cX0_reckonFall 22 = .ok (.return_, 1) := by decide +kernel
theorem dX0_reckonFall_23 : decode cX0_reckonFall 23 = .ok (.iconst 0, 1) := by decide +kernel
theorem dX0_reckonFall_24 : decode cX0_reckonFall 24 = .ok (.istore 5, 2) := by decide +kernel
theorem dX0_reckonFall_26 : decode cX0_reckonFall 26 = .ok (.iconst 0, 1) := by decide +kernel
theorem dX0_reckonFall_27 : decode cX0_reckonFall 27 = .ok (.istore 6, 2) := by decide +kernel
theorem dX0_reckonFall_29 : decode cX0_reckonFall 29 = .ok (.iload_n 3, 1) := by decide +kernel
theorem dX0_reckonFall_30 : decode cX0_reckonFall 30 = .ok (.istore 7, 2) := by decide +kernel
theorem dX0_reckonFall_32 : decode cX0_reckonFall 32 = .ok (.iconst 0, 1) := by decide +kernel
theorem dX0_reckonFall_33 : decode cX0_reckonFall 33 = .ok (.istore 8, 2) := by decide +kernel
theorem dX0_reckonFall_35 : decode cX0_reckonFall 35 = .ok (.iconst 0, 1) := by decide +kernel
theorem dX0_reckonFall_36 : decode cX0_reckonFall 36 = .ok (.istore 9, 2) := by decide +kernel
theorem dX0_reckonFall_38 : decode cX0_reckonFall 38 = .ok (.iload 9, 2) := by decide +kernel
theorem dX0_reckonFall_40 : decode cX0_reckonFall 40 = .ok (.iload 4, 2) := by decide +kernel
theorem dX0_reckonFall_42 : decode cX0_reckonFall 42 = .ok (.if_icmp .ge 77, 3) := by decide +kernel
theorem dX0_reckonFall_45 : decode cX0_reckonFall 45 = .ok (.iload 8, 2) := by decide +kernel
theorem dX0_reckonFall_47 : decode cX0_reckonFall 47 = .ok (.ifCond .ne 72, 3) := by decide +kernel
theorem dX0_reckonFall_50 : decode cX0_reckonFall 50 = .ok (.iconst 0, 1) := by decide +kernel
theorem dX0_reckonFall_51 : decode cX0_reckonFall 51 = .ok (.iconst 4, 1) := by decide +kernel
theorem dX0_reckonFall_52 : decode cX0_reckonFall 52 = .ok (.iload 7, 2) := by decide +kernel
theorem dX0_reckonFall_54 : decode cX0_reckonFall 54 = .ok (.sipush 500, 3) := by decide +kernel
theorem dX0_reckonFall_57 : decode cX0_reckonFall 57 = .ok (.idiv, 1) := by decide +kernel
theorem dX0_reckonFall_58 : decode cX0_reckonFall 58 = .ok (.invokestatic 55, 3) := by decide +kernel
theorem dX0_reckonFall_61 : decode cX0_reckonFall 61 = .ok (.invokestatic 61, 3) := by decide +kernel
theorem dX0_reckonFall_64 : decode cX0_reckonFall 64 = .ok (.istore 10, 2) := by decide +kernel
theorem dX0_reckonFall_66 : decode cX0_reckonFall 66 = .ok (.iload 5, 2) := by decide +kernel
theorem dX0_reckonFall_68 : decode cX0_reckonFall 68 = .ok (.aload_n 0, 1) := by decide +kernel
theorem dX0_reckonFall_69 : decode cX0_reckonFall 69 = .ok (.getfield 9, 3) := by decide +kernel
theorem dX0_reckonFall_72 : decode cX0_reckonFall 72 = .ok (.iload_n 2, 1) := by decide +kernel
theorem dX0_reckonFall_73 : decode cX0_reckonFall 73 = .ok (.iconst 5, 1) := by decide +kernel
theorem dX0_reckonFall_74 : decode cX0_reckonFall 74 = .ok (.imul, 1) := by decide +kernel
theorem dX0_reckonFall_75 : decode cX0_reckonFall 75 = .ok (.iload 10, 2) := by decide +kernel
theorem dX0_reckonFall_77 : decode cX0_reckonFall 77 = .ok (.iadd, 1) := by decide +kernel
theorem dX0_reckonFall_78 : decode cX0_reckonFall 78 = .ok (.iaload, 1) := by decide +kernel
theorem dX0_reckonFall_79 : decode cX0_reckonFall 79 = .ok (.iadd, 1) := by decide +kernel
theorem dX0_reckonFall_80 : decode cX0_reckonFall 80 = .ok (.istore 5, 2) := by decide +kernel
theorem dX0_reckonFall_82 : decode cX0_reckonFall 82 = .ok (.iload 6, 2) := by decide +kernel
theorem dX0_reckonFall_84 : decode cX0_reckonFall 84 = .ok (.aload_n 0, 1) := by decide +kernel
theorem dX0_reckonFall_85 : decode cX0_reckonFall 85 = .ok (.getfield 15, 3) := by decide +kernel
theorem dX0_reckonFall_88 : decode cX0_reckonFall 88 = .ok (.iload_n 2, 1) := by decide +kernel
theorem dX0_reckonFall_89 : decode cX0_reckonFall 89 = .ok (.iconst 5, 1) := by decide +kernel
theorem dX0_reckonFall_90 : decode cX0_reckonFall 90 = .ok (.imul, 1) := by decide +kernel
theorem dX0_reckonFall_91 : decode cX0_reckonFall 91 = .ok (.iload 10, 2) := by decide +kernel
theorem dX0_reckonFall_93 : decode cX0_reckonFall 93 = .ok (.iadd, 1) := by decide +kernel
theorem dX0_reckonFall_94 : decode cX0_reckonFall 94 = .ok (.iaload, 1) := by decide +kernel
theorem dX0_reckonFall_95 : decode cX0_reckonFall 95 = .ok (.iadd, 1) := by decide +kernel
theorem dX0_reckonFall_96 : decode cX0_reckonFall 96 = .ok (.istore 6, 2) := by decide +kernel
theorem dX0_reckonFall_98 : decode cX0_reckonFall 98 = .ok (.iinc 7 (-25), 3) := by decide +kernel
theorem dX0_reckonFall_101 : decode cX0_reckonFall 101 = .ok (.iload 7, 2) := by decide +kernel
theorem dX0_reckonFall_103 : decode cX0_reckonFall 103 = .ok (.ifCond .gt 7, 3) := by decide +kernel
theorem dX0_reckonFall_106 : decode cX0_reckonFall 106 = .ok (.iconst 1, 1) := by decide +kernel
theorem dX0_reckonFall_107 : decode cX0_reckonFall 107 = .ok (.goto 4, 3) := by decide +kernel
theorem dX0_reckonFall_110 : decode cX0_reckonFall 110 = .ok (.iconst 0, 1) := by decide +kernel
theorem dX0_reckonFall_111 : decode cX0_reckonFall 111 = .ok (.istore 8, 2) := by decide +kernel
theorem dX0_reckonFall_113 : decode cX0_reckonFall 113 = .ok (.iinc 9 1, 3) := by decide +kernel
theorem dX0_reckonFall_116 : decode cX0_reckonFall 116 = .ok (.goto (-78), 3) := by decide +kernel
theorem dX0_reckonFall_119 : decode cX0_reckonFall 119 = .ok (.aload_n 0, 1) := by decide +kernel
theorem dX0_reckonFall_120 : decode cX0_reckonFall 120 = .ok (.getfield 18, 3) := by decide +kernel
theorem dX0_reckonFall_123 : decode cX0_reckonFall 123 = .ok (.iload_n 1, 1) := by decide +kernel
theorem dX0_reckonFall_124 : decode cX0_reckonFall 124 = .ok (.iload 8, 2) := by decide +kernel
theorem dX0_reckonFall_126 : decode cX0_reckonFall 126 = .ok (.bastore, 1) := by decide +kernel
theorem dX0_reckonFall_127 : decode cX0_reckonFall 127 = .ok (.aload_n 0, 1) := by decide +kernel
theorem dX0_reckonFall_128 : decode cX0_reckonFall 128 = .ok (.getfield 22, 3) := by decide +kernel
theorem dX0_reckonFall_131 : decode cX0_reckonFall 131 = .ok (.iload_n 1, 1) := by decide +kernel
theorem dX0_reckonFall_132 : decode cX0_reckonFall 132 = .ok (.iload 5, 2) := by decide +kernel
theorem dX0_reckonFall_134 : decode cX0_reckonFall 134 = .ok (.iastore, 1) := by decide +kernel
theorem dX0_reckonFall_135 : decode cX0_reckonFall 135 = .ok (.aload_n 0, 1) := by decide +kernel
theorem dX0_reckonFall_136 : decode cX0_reckonFall 136 = .ok (.getfield 25, 3) := by decide +kernel
theorem dX0_reckonFall_139 : decode cX0_reckonFall 139 = .ok (.iload_n 1, 1) := by decide +kernel
theorem dX0_reckonFall_140 : decode cX0_reckonFall 140 = .ok (.iload 6, 2) := by decide +kernel
theorem dX0_reckonFall_142 : decode cX0_reckonFall 142 = .ok (.iastore, 1) := by decide +kernel
theorem dX0_reckonFall_143 : decode cX0_reckonFall 143 = .ok (.return_, 1) := by decide +kernel
theorem dX1_init_0 : decode cX1_init 0 = .ok (.aload_n 0, 1) := by decide +kernel
theorem dX1_init_1 : decode cX1_init 1 = .ok (.invokespecial 3, 3) := by decide +kernel
theorem dX1_init_4 : decode cX1_init 4 = .ok (.aload_n 0, 1) := by decide +kernel
theorem dX1_init_5 : decode cX1_init 5 = .ok (.bipush 120, 2) := by decide +kernel
theorem dX1_init_7 : decode cX1_init 7 = .ok (.newarray .int, 2) := by decide +kernel
theorem dX1_init_9 : decode cX1_init 9 = .ok (.putfield 9, 3) := by decide +kernel
theorem dX1_init_12 : decode cX1_init 12 = .ok (.aload_n 0, 1) := by decide +kernel
theorem dX1_init_13 : decode cX1_init 13 = .ok (.bipush 120, 2) := by decide +kernel
theorem dX1_init_15 : decode cX1_init 15 = .ok (.newarray .int, 2) := by decide +kernel
theorem dX1_init_17 : decode cX1_init 17 = .ok (.putfield 15, 3) := by decide +kernel
theorem dX1_init_20 : decode cX1_init 20 = .ok (.aload_n 0, 1) := by decide +kernel
theorem dX1_init_21 : decode cX1_init 21 = .ok (.bipush 120, 2) := by decide +kernel
theorem dX1_init_23 : decode cX1_init 23 = .ok (.newarray .int, 2) := by decide +kernel
theorem dX1_init_25 : decode cX1_init 25 = .ok (.putfield 18, 3) := by decide +kernel
theorem dX1_init_28 : decode cX1_init 28 = .ok (.aload_n 0, 1) := by decide +kernel
theorem dX1_init_29 : decode cX1_init 29 = .ok (.bipush 120, 2) := by decide +kernel
theorem dX1_init_31 : decode cX1_init 31 = .ok (.newarray .int, 2) := by decide +kernel
theorem dX1_init_33 : decode cX1_init 33 = .ok (.putfield 21, 3) := by decide +kernel
theorem dX1_init_36 : decode cX1_init 36 = .ok (.return_, 1) := by decide +kernel
theorem dX1_isCue_0 : decode cX1_isCue 0 = .ok (.iload_n 1, 1) := by decide +kernel
theorem dX1_isCue_1 : decode cX1_isCue 1 = .ok (.ifCond .lt 21, 3) := by decide +kernel
theorem dX1_isCue_4 : decode cX1_isCue 4 = .ok (.iload_n 1, 1) := by decide +kernel
theorem dX1_isCue_5 : decode cX1_isCue 5 = .ok (.aload_n 0, 1) := by decide +kernel
theorem dX1_isCue_6 : decode cX1_isCue 6 = .ok (.getfield 24, 3) := by decide +kernel
theorem dX1_isCue_9 : decode cX1_isCue 9 = .ok (.if_icmp .ge 13, 3) := by decide +kernel
theorem dX1_isCue_12 : decode cX1_isCue 12 = .ok (.iload_n 1, 1) := by decide +kernel
theorem dX1_isCue_13 : decode cX1_isCue 13 = .ok (.bipush 120, 2) := by decide +kernel
theorem dX1_isCue_15 : decode cX1_isCue 15 = .ok (.if_icmp .ge 7, 3) := by decide +kernel
theorem dX1_isCue_18 : decode cX1_isCue 18 = .ok (.iconst 1, 1) := by decide +kernel
theorem dX1_isCue_19 : decode cX1_isCue 19 = .ok (.goto 4, 3) := by decide +kernel
theorem dX1_isCue_22 : decode cX1_isCue 22 = .ok (.iconst 0, 1) := by decide +kernel
theorem dX1_isCue_23 : decode cX1_isCue 23 = .ok (.ireturn, 1) := by decide +kernel
theorem dX1_burstOf_0 : decode cX1_burstOf 0 = .ok (.aload_n 0, 1) := by decide +kernel
theorem dX1_burstOf_1 : decode cX1_burstOf 1 = .ok (.iload_n 1, 1) := by decide +kernel
theorem dX1_burstOf_2 : decode cX1_burstOf 2 = .ok (.invokevirtual 28, 3) := by decide +kernel
theorem dX1_burstOf_5 : decode cX1_burstOf 5 = .ok (.ifCond .eq 12, 3) := by decide +kernel
theorem dX1_burstOf_8 : decode cX1_burstOf 8 = .ok (.aload_n 0, 1) := by decide +kernel
theorem dX1_burstOf_9 : decode cX1_burstOf 9 = .ok (.getfield 9, 3) := by decide +kernel
theorem dX1_burstOf_12 : decode cX1_burstOf 12 = .ok (.iload_n 1, 1) := by decide +kernel
theorem dX1_burstOf_13 : decode cX1_burstOf 13 = .ok (.iaload, 1) := by decide +kernel
theorem dX1_burstOf_14 : decode cX1_burstOf 14 = .ok (.goto 4, 3) := by decide +kernel
theorem dX1_burstOf_17 : decode cX1_burstOf 17 = .ok (.iconst 0, 1) := by decide +kernel
theorem dX1_burstOf_18 : decode cX1_burstOf 18 = .ok (.ireturn, 1) := by decide +kernel
theorem dX1_kindOf_0 : decode cX1_kindOf 0 = .ok (.aload_n 0, 1) := by decide +kernel
theorem dX1_kindOf_1 : decode cX1_kindOf 1 = .ok (.iload_n 1, 1) := by decide +kernel
theorem dX1_kindOf_2 : decode cX1_kindOf 2 = .ok (.invokevirtual 28, 3) := by decide +kernel
theorem dX1_kindOf_5 : decode cX1_kindOf 5 = .ok (.ifCond .eq 12, 3) := by decide +kernel
theorem dX1_kindOf_8 : decode cX1_kindOf 8 = .ok (.aload_n 0, 1) := by decide +kernel
theorem dX1_kindOf_9 : decode cX1_kindOf 9 = .ok (.getfield 15, 3) := by decide +kernel
theorem dX1_kindOf_12 : decode cX1_kindOf 12 = .ok (.iload_n 1, 1) := by decide +kernel
theorem dX1_kindOf_13 : decode cX1_kindOf 13 = .ok (.iaload, 1) := by decide +kernel
theorem dX1_kindOf_14 : decode cX1_kindOf 14 = .ok (.goto 4, 3) := by decide +kernel
theorem dX1_kindOf_17 : decode cX1_kindOf 17 = .ok (.iconst 0, 1) := by decide +kernel
theorem dX1_kindOf_18 : decode cX1_kindOf 18 = .ok (.ireturn, 1) := by decide +kernel
theorem dX1_bargeOf_0 : decode cX1_bargeOf 0 = .ok (.aload_n 0, 1) := by decide +kernel
theorem dX1_bargeOf_1 : decode cX1_bargeOf 1 = .ok (.iload_n 1, 1) := by decide +kernel
theorem dX1_bargeOf_2 : decode cX1_bargeOf 2 = .ok (.invokevirtual 28, 3) := by decide +kernel
theorem dX1_bargeOf_5 : decode cX1_bargeOf 5 = .ok (.ifCond .eq 12, 3) := by decide +kernel
theorem dX1_bargeOf_8 : decode cX1_bargeOf 8 = .ok (.aload_n 0, 1) := by decide +kernel
theorem dX1_bargeOf_9 : decode cX1_bargeOf 9 = .ok (.getfield 18, 3) := by decide +kernel
theorem dX1_bargeOf_12 : decode cX1_bargeOf 12 = .ok (.iload_n 1, 1) := by decide +kernel
theorem dX1_bargeOf_13 : decode cX1_bargeOf 13 = .ok (.iaload, 1) := by decide +kernel
theorem dX1_bargeOf_14 : decode cX1_bargeOf 14 = .ok (.goto 4, 3) := by decide +kernel
theorem dX1_bargeOf_17 : decode cX1_bargeOf 17 = .ok (.iconst (-1), 1) := by decide +kernel
theorem dX1_bargeOf_18 : decode cX1_bargeOf 18 = .ok (.ireturn, 1) := by decide +kernel
theorem dX1_angleOf_0 : decode cX1_angleOf 0 = .ok (.aload_n 0, 1) := by decide +kernel
theorem dX1_angleOf_1 : decode cX1_angleOf 1 = .ok (.iload_n 1, 1) := by decide +kernel
theorem dX1_angleOf_2 : decode cX1_angleOf 2 = .ok (.invokevirtual 28, 3) := by decide +kernel
theorem dX1_angleOf_5 : decode cX1_angleOf 5 = .ok (.ifCond .eq 12, 3) := by decide +kernel
theorem dX1_angleOf_8 : decode cX1_angleOf 8 = .ok (.aload_n 0, 1) := by decide +kernel
theorem dX1_angleOf_9 : decode cX1_angleOf 9 = .ok (.getfield 21, 3) := by decide +kernel
theorem dX1_angleOf_12 : decode cX1_angleOf 12 = .ok (.iload_n 1, 1) := by decide +kernel
theorem dX1_angleOf_13 : decode cX1_angleOf 13 = .ok (.iaload, 1) := by decide +kernel
theorem dX1_angleOf_14 : decode cX1_angleOf 14 = .ok (.goto 4, 3) := by decide +kernel
theorem dX1_angleOf_17 : decode cX1_angleOf 17 = .ok (.iconst 0, 1) := by decide +kernel
theorem dX1_angleOf_18 : decode cX1_angleOf 18 = .ok (.ireturn, 1) := by decide +kernel
theorem dX1_setBurst_0 : decode cX1_setBurst 0 = .ok (.aload_n 0, 1) := by decide +kernel
theorem dX1_setBurst_1 : decode cX1_setBurst 1 = .ok (.iload_n 1, 1) := by decide +kernel
theorem dX1_setBurst_2 : decode cX1_setBurst 2 = .ok (.invokevirtual 28, 3) := by decide +kernel
theorem dX1_setBurst_5 : decode cX1_setBurst 5 = .ok (.ifCond .eq 10, 3) := by decide +kernel
theorem dX1_setBurst_8 : decode cX1_setBurst 8 = .ok (.aload_n 0, 1) := by decide +kernel
theorem dX1_setBurst_9 : decode cX1_setBurst 9 = .ok (.getfield 9, 3) := by decide +kernel
theorem dX1_setBurst_12 : decode cX1_setBurst 12 = .ok (.iload_n 1, 1) := by decide +kernel
theorem dX1_setBurst_13 : decode cX1_setBurst 13 = .ok (.iload_n 2, 1) := by decide +kernel
theorem dX1_setBurst_14 : decode cX1_setBurst 14 = .ok (.iastore, 1) := by decide +kernel
theorem dX1_setBurst_15 : decode cX1_setBurst 15 = .ok (.return_, 1) := by decide +kernel
theorem dX1_setBarge_0 : decode cX1_setBarge 0 = .ok (.aload_n 0, 1) := by decide +kernel
theorem dX1_setBarge_1 : decode cX1_setBarge 1 = .ok (.iload_n 1, 1) := by decide +kernel
theorem dX1_setBarge_2 : decode cX1_setBarge 2 = .ok (.invokevirtual 28, 3) := by decide +kernel
theorem dX1_setBarge_5 : decode cX1_setBarge 5 = .ok (.ifCond .eq 10, 3) := by decide +kernel
theorem dX1_setBarge_8 : decode cX1_setBarge 8 = .ok (.aload_n 0, 1) := by decide +kernel
theorem dX1_setBarge_9 : decode cX1_setBarge 9 = .ok (.getfield 18, 3) := by decide +kernel
theorem dX1_setBarge_12 : decode cX1_setBarge 12 = .ok (.iload_n 1, 1) := by decide +kernel
theorem dX1_setBarge_13 : decode cX1_setBarge 13 = .ok (.iload_n 2, 1) := by decide +kernel
theorem dX1_setBarge_14 : decode cX1_setBarge 14 = .ok (.iastore, 1) := by decide +kernel
theorem dX1_setBarge_15 : decode cX1_setBarge 15 = .ok (.return_, 1) := by decide +kernel
theorem dX1_append_0 : decode cX1_append 0 = .ok (.aload_n 0, 1) := by decide +kernel
theorem dX1_append_1 : decode cX1_append 1 = .ok (.getfield 24, 3) := by decide +kernel
theorem dX1_append_4 : decode cX1_append 4 = .ok (.ifCond .lt 12, 3) := by decide +kernel
theorem dX1_append_7 : decode cX1_append 7 = .ok (.aload_n 0, 1) := by decide +kernel
theorem dX1_append_8 : decode cX1_append 8 = .ok (.getfield 24, 3) := by decide +kernel
theorem dX1_append_11 : decode cX1_append 11 = .ok (.bipush 120, 2) := by decide +kernel
theorem dX1_append_13 : decode cX1_append 13 = .ok (.if_icmp .lt 5, 3) := by decide +kernel
theorem dX1_append_16 : decode cX1_append 16 = .ok (.iconst 0, 1) := by decide +kernel
theorem dX1_append_17 : decode cX1_append 17 = .ok (.ireturn, 1) := by decide +kernel
theorem dX1_append_18 : decode cX1_append 18 = .ok (.aload_n 0, 1) := by decide +kernel
theorem dX1_append_19 : decode cX1_append 19 = .ok (.getfield 9, 3) := by decide +kernel
theorem dX1_append_22 : decode cX1_append 22 = .ok (.aload_n 0, 1) := by decide +kernel
theorem dX1_append_23 : decode cX1_append 23 = .ok (.getfield 24, 3) := by decide +kernel
theorem dX1_append_26 : decode cX1_append 26 = .ok (.iload_n 1, 1) := by decide +kernel
theorem dX1_append_27 : decode cX1_append 27 = .ok (.iastore, 1) := by decide +kernel
theorem dX1_append_28 : decode cX1_append 28 = .ok (.aload_n 0, 1) := by decide +kernel
theorem dX1_append_29 : decode cX1_append 29 = .ok (.getfield 15, 3) := by decide +kernel
theorem dX1_append_32 : decode cX1_append 32 = .ok (.aload_n 0, 1) := by decide +kernel
theorem dX1_append_33 : decode cX1_append 33 = .ok (.getfield 24, 3) := by decide +kernel
theorem dX1_append_36 : decode cX1_append 36 = .ok (.iload_n 2, 1) := by decide +kernel
theorem dX1_append_37 : decode cX1_append 37 = .ok (.iastore, 1) := by decide +kernel
theorem dX1_append_38 : decode cX1_append 38 = .ok (.aload_n 0, 1) := by decide +kernel
theorem dX1_append_39 : decode cX1_append 39 = .ok (.getfield 18, 3) := by decide +kernel
theorem dX1_append_42 : decode cX1_append 42 = .ok (.aload_n 0, 1) := by decide +kernel
theorem dX1_append_43 : decode cX1_append 43 = .ok (.getfield 24, 3) := by decide +kernel
theorem dX1_append_46 : decode cX1_append 46 = .ok (.iload_n 3, 1) := by decide +kernel
theorem dX1_append_47 : decode cX1_append 47 = .ok (.iastore, 1) := by decide +kernel
theorem dX1_append_48 : decode cX1_append 48 = .ok (.aload_n 0, 1) := by decide +kernel
theorem dX1_append_49 : decode cX1_append 49 = .ok (.getfield 21, 3) := by decide +kernel
theorem dX1_append_52 : decode cX1_append 52 = .ok (.aload_n 0, 1) := by decide +kernel
theorem dX1_append_53 : decode cX1_append 53 = .ok (.getfield 24, 3) := by decide +kernel
theorem dX1_append_56 : decode cX1_append 56 = .ok (.iload 4, 2) := by decide +kernel
theorem dX1_append_58 : decode cX1_append 58 = .ok (.iastore, 1) := by decide +kernel
theorem dX1_append_59 : decode cX1_append 59 = .ok (.aload_n 0, 1) := by decide +kernel
theorem dX1_append_60 : decode cX1_append 60 = .ok (.dup, 1) := by decide +kernel
theorem dX1_append_61 : decode cX1_append 61 = .ok (.getfield 24, 3) := by decide +kernel
theorem dX1_append_64 : decode cX1_append 64 = .ok (.iconst 1, 1) := by decide +kernel
theorem dX1_append_65 : decode cX1_append 65 = .ok (.iadd, 1) := by decide +kernel
theorem dX1_append_66 : decode cX1_append 66 = .ok (.putfield 24, 3) := by decide +kernel
theorem dX1_append_69 : decode cX1_append 69 = .ok (.iconst 1, 1) := by decide +kernel
theorem dX1_append_70 : decode cX1_append 70 = .ok (.ireturn, 1) := by decide +kernel
theorem dX1_become_0 : decode cX1_become 0 = .ok (.aload_n 1, 1) := by decide +kernel
theorem dX1_become_1 : decode cX1_become 1 = .ok (.getfield 9, 3) := by decide +kernel
theorem dX1_become_4 : decode cX1_become 4 = .ok (.iconst 0, 1) := by decide +kernel
theorem dX1_become_5 : decode cX1_become 5 = .ok (.aload_n 0, 1) := by decide +kernel
theorem dX1_become_6 : decode cX1_become 6 = .ok (.getfield 9, 3) := by decide +kernel
theorem dX1_become_9 : decode cX1_become 9 = .ok (.iconst 0, 1) := by decide +kernel
theorem dX1_become_10 : decode cX1_become 10 = .ok (.bipush 120, 2) := by decide +kernel
theorem dX1_become_12 : decode cX1_become 12 = .ok (.invokestatic 32, 3) := by decide +kernel
theorem dX1_become_15 : decode cX1_become 15 = .ok (.aload_n 1, 1) := by decide +kernel
theorem dX1_become_16 : decode cX1_become 16 = .ok (.getfield 15, 3) := by decide +kernel
theorem dX1_become_19 : decode cX1_become 19 = .ok (.iconst 0, 1) := by decide +kernel
theorem dX1_become_20 : decode cX1_become 20 = .ok (.aload_n 0, 1) := by decide +kernel
theorem dX1_become_21 : decode cX1_become 21 = .ok (.getfield 15, 3) := by decide +kernel
theorem dX1_become_24 : decode cX1_become 24 = .ok (.iconst 0, 1) := by decide +kernel
theorem dX1_become_25 : decode cX1_become 25 = .ok (.bipush 120, 2) := by decide +kernel
theorem dX1_become_27 : decode cX1_become 27 = .ok (.invokestatic 32, 3) := by decide +kernel
theorem dX1_become_30 : decode cX1_become 30 = .ok (.aload_n 1, 1) := by decide +kernel
theorem dX1_become_31 : decode cX1_become 31 = .ok (.getfield 18, 3) := by decide +kernel
theorem dX1_become_34 : decode cX1_become 34 = .ok (.iconst 0, 1) := by decide +kernel
theorem dX1_become_35 : decode cX1_become 35 = .ok (.aload_n 0, 1) := by decide +kernel
theorem dX1_become_36 : decode cX1_become 36 = .ok (.getfield 18, 3) := by decide +kernel
theorem dX1_become_39 : decode cX1_become 39 = .ok (.iconst 0, 1) := by decide +kernel
theorem dX1_become_40 : decode cX1_become 40 = .ok (.bipush 120, 2) := by decide +kernel
theorem dX1_become_42 : decode cX1_become 42 = .ok (.invokestatic 32, 3) := by decide +kernel
theorem dX1_become_45 : decode cX1_become 45 = .ok (.aload_n 1, 1) := by decide +kernel
theorem dX1_become_46 : decode cX1_become 46 = .ok (.getfield 21, 3) := by decide +kernel
theorem dX1_become_49 : decode cX1_become 49 = .ok (.iconst 0, 1) := by decide +kernel
theorem dX1_become_50 : decode cX1_become 50 = .ok (.aload_n 0, 1) := by decide +kernel
theorem dX1_become_51 : decode cX1_become 51 = .ok (.getfield 21, 3) := by decide +kernel
theorem dX1_become_54 : decode cX1_become 54 = .ok (.iconst 0, 1) := by decide +kernel
theorem dX1_become_55 : decode cX1_become 55 = .ok (.bipush 120, 2) := by decide +kernel
theorem dX1_become_57 : decode cX1_become 57 = .ok (.invokestatic 32, 3) := by decide +kernel
theorem dX1_become_60 : decode cX1_become 60 = .ok (.aload_n 0, 1) := by decide +kernel
theorem dX1_become_61 : decode cX1_become 61 = .ok (.aload_n 1, 1) := by decide +kernel
theorem dX1_become_62 : decode cX1_become 62 = .ok (.getfield 24, 3) := by decide +kernel
theorem dX1_become_65 : decode cX1_become 65 = .ok (.putfield 24, 3) := by decide +kernel
theorem dX1_become_68 : decode cX1_become 68 = .ok (.return_, 1) := by decide +kernel
theorem dX1_openOnes_0 : decode cX1_openOnes 0 = .ok (.iconst 0, 1) := by decide +kernel
theorem dX1_openOnes_1 : decode cX1_openOnes 1 = .ok (.istore_n 1, 1) := by decide +kernel
theorem dX1_openOnes_2 : decode cX1_openOnes 2 = .ok (.iconst 0, 1) := by decide +kernel
theorem dX1_openOnes_3 : decode cX1_openOnes 3 = .ok (.istore_n 2, 1) := by decide +kernel
theorem dX1_openOnes_4 : decode cX1_openOnes 4 = .ok (.iload_n 2, 1) := by decide +kernel
theorem dX1_openOnes_5 : decode cX1_openOnes 5 = .ok (.aload_n 0, 1) := by decide +kernel
theorem dX1_openOnes_6 : decode cX1_openOnes 6 = .ok (.getfield 24, 3) := by decide +kernel
theorem dX1_openOnes_9 : decode cX1_openOnes 9 = .ok (.if_icmp .ge 21, 3) := by decide +kernel
theorem dX1_openOnes_12 : decode cX1_openOnes 12 = .ok (.aload_n 0, 1) := by decide +kernel
theorem dX1_openOnes_13 : decode cX1_openOnes 13 = .ok (.iload_n 2, 1) := by decide +kernel
theorem dX1_openOnes_14 : decode cX1_openOnes 14 = .ok (.invokevirtual 38, 3) := by decide +kernel
theorem dX1_openOnes_17 : decode cX1_openOnes 17 = .ok (.iconst (-1), 1) := by decide +kernel
theorem dX1_openOnes_18 : decode cX1_openOnes 18 = .ok (.if_icmp .ne 6, 3) := by decide +kernel
theorem dX1_openOnes_21 : decode cX1_openOnes 21 = .ok (.iinc 1 1, 3) := by decide +kernel
theorem dX1_openOnes_24 : decode cX1_openOnes 24 = .ok (.iinc 2 1, 3) := by decide +kernel
theorem dX1_openOnes_27 : decode cX1_openOnes 27 = .ok (.goto (-23), 3) := by decide +kernel
theorem dX1_openOnes_30 : decode cX1_openOnes 30 = .ok (.iload_n 1, 1) := by decide +kernel
theorem dX1_openOnes_31 : decode cX1_openOnes 31 = .ok (.ireturn, 1) := by decide +kernel
theorem dX1_firstBurstOfKind_0 : decode cX1_firstBurstOfKind 0 = .ok (.sipush 20000, 3) := by decide +kernel
theorem dX1_firstBurstOfKind_3 : decode cX1_firstBurstOfKind 3 = .ok (.istore_n 2, 1) := by decide +kernel
theorem dX1_firstBurstOfKind_4 : decode cX1_firstBurstOfKind 4 = .ok (.iconst 0, 1) := by decide +kernel
theorem dX1_firstBurstOfKind_5 : decode cX1_firstBurstOfKind 5 = .ok (.istore_n 3, 1) := by decide +kernel
theorem dX1_firstBurstOfKind_6 : decode cX1_firstBurstOfKind 6 = .ok (.iload_n 3, 1) := by decide +kernel
theorem dX1_firstBurstOfKind_7 : decode cX1_firstBurstOfKind 7 = .ok (.aload_n 0, 1) := by decide +kernel
theorem dX1_firstBurstOfKind_8 : decode cX1_firstBurstOfKind 8 = .ok (.getfield 24, 3) := by decide +kernel
theorem dX1_firstBurstOfKind_11 : decode cX1_firstBurstOfKind 11 = .ok (.if_icmp .ge 28, 3) := by decide +kernel
theorem dX1_firstBurstOfKind_14 : decode cX1_firstBurstOfKind 14 = .ok (.aload_n 0, 1) := by decide +kernel
theorem dX1_firstBurstOfKind_15 : decode cX1_firstBurstOfKind 15 = .ok (.iload_n 3, 1) := by decide +kernel
theorem dX1_firstBurstOfKind_16 : decode cX1_firstBurstOfKind 16 = .ok (.invokevirtual 42, 3) := by decide +kernel
theorem dX1_firstBurstOfKind_19 : decode cX1_firstBurstOfKind 19 = .ok (.iload_n 1, 1) := by decide +kernel
theorem dX1_firstBurstOfKind_20 : decode cX1_firstBurstOfKind 20 = .ok (.if_icmp .ne 13, 3) := by decide +kernel
theorem dX1_firstBurstOfKind_23 : decode cX1_firstBurstOfKind 23 = .ok (.iload_n 2, 1) := by decide +kernel
theorem dX1_firstBurstOfKind_24 : decode cX1_firstBurstOfKind 24 = .ok (.aload_n 0, 1) := by decide +kernel
theorem dX1_firstBurstOfKind_25 : decode cX1_firstBurstOfKind 25 = .ok (.iload_n 3, 1) := by decide +kernel
theorem dX1_firstBurstOfKind_26 : decode cX1_firstBurstOfKind 26 = .ok (.invokevirtual 45, 3) := by decide +kernel
theorem dX1_firstBurstOfKind_29 : decode cX1_firstBurstOfKind 29 = .ok (.invokestatic 48, 3) := by decide +kernel
theorem dX1_firstBurstOfKind_32 : decode cX1_firstBurstOfKind 32 = .ok (.istore_n 2, 1) := by decide +kernel
theorem dX1_firstBurstOfKind_33 : decode cX1_firstBurstOfKind 33 = .ok (.iinc 3 1, 3) := by decide +kernel
theorem dX1_firstBurstOfKind_36 : decode cX1_firstBurstOfKind 36 = .ok (.goto (-30), 3) := by decide +kernel
theorem dX1_firstBurstOfKind_39 : decode cX1_firstBurstOfKind 39 = .ok (.iload_n 2, 1) := by decide +kernel
theorem dX1_firstBurstOfKind_40 : decode cX1_firstBurstOfKind 40 = .ok (.ireturn, 1) := by decide +kernel
theorem dX2_init_0 : decode cX2_init 0 = .ok (.aload_n 0, 1) := by decide +kernel
theorem dX2_init_1 : decode cX2_init 1 = .ok (.invokespecial 3, 3) := by decide +kernel
theorem dX2_init_4 : decode cX2_init 4 = .ok (.aload_n 0, 1) := by decide +kernel
theorem dX2_init_5 : decode cX2_init 5 = .ok (.bipush 12, 2) := by decide +kernel
theorem dX2_init_7 : decode cX2_init 7 = .ok (.newarray .int, 2) := by decide +kernel
theorem dX2_init_9 : decode cX2_init 9 = .ok (.putfield 9, 3) := by decide +kernel
theorem dX2_init_12 : decode cX2_init 12 = .ok (.aload_n 0, 1) := by decide +kernel
theorem dX2_init_13 : decode cX2_init 13 = .ok (.bipush 12, 2) := by decide +kernel
theorem dX2_init_15 : decode cX2_init 15 = .ok (.newarray .int, 2) := by decide +kernel
theorem dX2_init_17 : decode cX2_init 17 = .ok (.putfield 15, 3) := by decide +kernel
theorem dX2_init_20 : decode cX2_init 20 = .ok (.aload_n 0, 1) := by decide +kernel
theorem dX2_init_21 : decode cX2_init 21 = .ok (.bipush 12, 2) := by decide +kernel
theorem dX2_init_23 : decode cX2_init 23 = .ok (.newarray .int, 2) := by decide +kernel
theorem dX2_init_25 : decode cX2_init 25 = .ok (.putfield 18, 3) := by decide +kernel
theorem dX2_init_28 : decode cX2_init 28 = .ok (.aload_n 0, 1) := by decide +kernel
theorem dX2_init_29 : decode cX2_init 29 = .ok (.bipush 12, 2) := by decide +kernel
theorem dX2_init_31 : decode cX2_init 31 = .ok (.newarray .int, 2) := by decide +kernel
theorem dX2_init_33 : decode cX2_init 33 = .ok (.putfield 21, 3) := by decide +kernel
theorem dX2_init_36 : decode cX2_init 36 = .ok (.aload_n 0, 1) := by decide +kernel
theorem dX2_init_37 : decode cX2_init 37 = .ok (.bipush 12, 2) := by decide +kernel
theorem dX2_init_39 : decode cX2_init 39 = .ok (.newarray .int, 2) := by decide +kernel
theorem dX2_init_41 : decode cX2_init 41 = .ok (.putfield 24, 3) := by decide +kernel
theorem dX2_init_44 : decode cX2_init 44 = .ok (.aload_n 0, 1) := by decide +kernel
theorem dX2_init_45 : decode cX2_init 45 = .ok (.bipush 12, 2) := by decide +kernel
theorem dX2_init_47 : decode cX2_init 47 = .ok (.newarray .int, 2) := by decide +kernel
theorem dX2_init_49 : decode cX2_init 49 = .ok (.putfield 27, 3) := by decide +kernel
theorem dX2_init_52 : decode cX2_init 52 = .ok (.return_, 1) := by decide +kernel
theorem dX2_isAsSaid_0 : decode cX2_isAsSaid 0 = .ok (.iload_n 0, 1) := by decide +kernel
theorem dX2_isAsSaid_1 : decode cX2_isAsSaid 1 = .ok (.iconst 1, 1) := by decide +kernel
theorem dX2_isAsSaid_2 : decode cX2_isAsSaid 2 = .ok (.if_icmp .lt 22, 3) := by decide +kernel
theorem dX2_isAsSaid_5 : decode cX2_isAsSaid 5 = .ok (.iload_n 0, 1) := by decide +kernel
theorem dX2_isAsSaid_6 : decode cX2_isAsSaid 6 = .ok (.bipush 60, 2) := by decide +kernel
theorem dX2_isAsSaid_8 : decode cX2_isAsSaid 8 = .ok (.if_icmp .gt 16, 3) := by decide +kernel
theorem dX2_isAsSaid_11 : decode cX2_isAsSaid 11 = .ok (.iload_n 1, 1) := by decide +kernel
theorem dX2_isAsSaid_12 : decode cX2_isAsSaid 12 = .ok (.bipush 10, 2) := by decide +kernel
theorem dX2_isAsSaid_14 : decode cX2_isAsSaid 14 = .ok (.if_icmp .lt 10, 3) := by decide +kernel
theorem dX2_isAsSaid_17 : decode cX2_isAsSaid 17 = .ok (.iload_n 1, 1) := by decide +kernel
theorem dX2_isAsSaid_18 : decode cX2_isAsSaid 18 = .ok (.sipush 300, 3) := by decide +kernel
theorem dX2_isAsSaid_21 : decode cX2_isAsSaid 21 = .ok (.if_icmp .le 5, 3) := by decide +kernel
theorem dX2_isAsSaid_24 : decode cX2_isAsSaid 24 = .ok (.iconst 0, 1) := by decide +kernel
theorem dX2_isAsSaid_25 : decode cX2_isAsSaid 25 = .ok (.ireturn, 1) := by decide +kernel
theorem dX2_isAsSaid_26 : decode cX2_isAsSaid 26 = .ok (.iload_n 2, 1) := by decide +kernel
theorem dX2_isAsSaid_27 : decode cX2_isAsSaid 27 = .ok (.ifCond .lt 13, 3) := by decide +kernel
theorem dX2_isAsSaid_30 : decode cX2_isAsSaid 30 = .ok (.iload_n 2, 1) := by decide +kernel
theorem dX2_isAsSaid_31 : decode cX2_isAsSaid 31 = .ok (.bipush 60, 2) := by decide +kernel
theorem dX2_isAsSaid_33 : decode cX2_isAsSaid 33 = .ok (.if_icmp .gt 7, 3) := by decide +kernel
theorem dX2_isAsSaid_36 : decode cX2_isAsSaid 36 = .ok (.iload_n 3, 1) := by decide +kernel
theorem dX2_isAsSaid_37 : decode cX2_isAsSaid 37 = .ok (.ifCond .ge 5, 3) := by decide +kernel
theorem dX2_isAsSaid_40 : decode cX2_isAsSaid 40 = .ok (.iconst 0, 1) := by decide +kernel
theorem dX2_isAsSaid_41 : decode cX2_isAsSaid 41 = .ok (.ireturn, 1) := by decide +kernel
theorem dX2_isAsSaid_42 : decode cX2_isAsSaid 42 = .ok (.iload_n 3, 1) := by decide +kernel
theorem dX2_isAsSaid_43 : decode cX2_isAsSaid 43 = .ok (.sipush 1000, 3) := by decide +kernel
theorem dX2_isAsSaid_46 : decode cX2_isAsSaid 46 = .ok (.idiv, 1) := by decide +kernel
theorem dX2_isAsSaid_47 : decode cX2_isAsSaid 47 = .ok (.istore 4, 2) := by decide +kernel
theorem dX2_isAsSaid_49 : decode cX2_isAsSaid 49 = .ok (.iload_n 3, 1) := by decide +kernel
theorem dX2_isAsSaid_50 : decode cX2_isAsSaid 50 = .ok (.sipush 1000, 3) := by decide +kernel
theorem dX2_isAsSaid_53 : decode cX2_isAsSaid 53 = .ok (.irem, 1) := by decide +kernel
theorem dX2_isAsSaid_54 : decode cX2_isAsSaid 54 = .ok (.bipush 10, 2) := by decide +kernel
theorem dX2_isAsSaid_56 : decode cX2_isAsSaid 56 = .ok (.idiv, 1) := by decide +kernel
theorem dX2_isAsSaid_57 : decode cX2_isAsSaid 57 = .ok (.istore 5, 2) := by decide +kernel
theorem dX2_isAsSaid_59 : decode cX2_isAsSaid 59 = .ok (.iload 4, 2) := by decide +kernel
theorem dX2_isAsSaid_61 : decode cX2_isAsSaid 61 = .ok (.iconst 1, 1) := by decide +kernel
theorem dX2_isAsSaid_62 : decode cX2_isAsSaid 62 = .ok (.if_icmp .lt 35, 3) := by decide +kernel
theorem dX2_isAsSaid_65 : decode cX2_isAsSaid 65 = .ok (.iload 4, 2) := by decide +kernel
theorem dX2_isAsSaid_67 : decode cX2_isAsSaid 67 = .ok (.bipush 99, 2) := by decide +kernel
theorem dX2_isAsSaid_69 : decode cX2_isAsSaid 69 = .ok (.if_icmp .gt 28, 3) := by decide +kernel
theorem dX2_isAsSaid_72 : decode cX2_isAsSaid 72 = .ok (.iload 5, 2) := by decide +kernel
theorem dX2_isAsSaid_74 : decode cX2_isAsSaid 74 = .ok (.iconst 1, 1) := by decide +kernel
theorem dX2_isAsSaid_75 : decode cX2_isAsSaid 75 = .ok (.if_icmp .lt 22, 3) := by decide +kernel
theorem dX2_isAsSaid_78 : decode cX2_isAsSaid 78 = .ok (.iload 5, 2) := by decide +kernel
theorem dX2_isAsSaid_80 : decode cX2_isAsSaid 80 = .ok (.bipush 9, 2) := by decide +kernel
theorem dX2_isAsSaid_82 : decode cX2_isAsSaid 82 = .ok (.if_icmp .gt 15, 3) := by decide +kernel
theorem dX2_isAsSaid_85 : decode cX2_isAsSaid 85 = .ok (.iload_n 3, 1) := by decide +kernel
theorem dX2_isAsSaid_86 : decode cX2_isAsSaid 86 = .ok (.bipush 10, 2) := by decide +kernel
theorem dX2_isAsSaid_88 : decode cX2_isAsSaid 88 = .ok (.irem, 1) := by decide +kernel
theorem dX2_isAsSaid_89 : decode cX2_isAsSaid 89 = .ok (.iconst 5, 1) := by decide +kernel
theorem dX2_isAsSaid_90 : decode cX2_isAsSaid 90 = .ok (.if_icmp .gt 7, 3) := by decide +kernel
theorem dX2_isAsSaid_93 : decode cX2_isAsSaid 93 = .ok (.iconst 1, 1) := by decide +kernel
theorem dX2_isAsSaid_94 : decode cX2_isAsSaid 94 = .ok (.goto 4, 3) := by decide +kernel
theorem dX2_isAsSaid_97 : decode cX2_isAsSaid 97 = .ok (.iconst 0, 1) := by decide +kernel
theorem dX2_isAsSaid_98 : decode cX2_isAsSaid 98 = .ok (.ireturn, 1) := by decide +kernel
theorem dX2_tell_0 : decode cX2_tell 0 = .ok (.iload_n 1, 1) := by decide +kernel
theorem dX2_tell_1 : decode cX2_tell 1 = .ok (.ifCond .lt 9, 3) := by decide +kernel
theorem dX2_tell_4 : decode cX2_tell 4 = .ok (.iload_n 1, 1) := by decide +kernel
theorem dX2_tell_5 : decode cX2_tell 5 = .ok (.bipush 12, 2) := by decide +kernel
theorem dX2_tell_7 : decode cX2_tell 7 = .ok (.if_icmp .lt 4, 3) := by decide +kernel
theorem dX2_tell_10 : decode cX2_tell 10 = .ok (.return_, 1) := by decide +kernel
theorem dX2_tell_11 : decode cX2_tell 11 = .ok (.aload_n 0, 1) := by decide +kernel
theorem dX2_tell_12 : decode cX2_tell 12 = .ok (.getfield 9, 3) := by decide +kernel
theorem dX2_tell_15 : decode cX2_tell 15 = .ok (.iload_n 1, 1) := by decide +kernel
theorem dX2_tell_16 : decode cX2_tell 16 = .ok (.iload_n 2, 1) := by decide +kernel
theorem dX2_tell_17 : decode cX2_tell 17 = .ok (.iastore, 1) := by decide +kernel
theorem dX2_tell_18 : decode cX2_tell 18 = .ok (.aload_n 0, 1) := by decide +kernel
theorem dX2_tell_19 : decode cX2_tell 19 = .ok (.getfield 15, 3) := by decide +kernel
theorem dX2_tell_22 : decode cX2_tell 22 = .ok (.iload_n 1, 1) := by decide +kernel
theorem dX2_tell_23 : decode cX2_tell 23 = .ok (.iload_n 3, 1) := by decide +kernel
theorem dX2_tell_24 : decode cX2_tell 24 = .ok (.iastore, 1) := by decide +kernel
theorem dX2_tell_25 : decode cX2_tell 25 = .ok (.aload_n 0, 1) := by decide +kernel
theorem dX2_tell_26 : decode cX2_tell 26 = .ok (.getfield 18, 3) := by decide +kernel
theorem dX2_tell_29 : decode cX2_tell 29 = .ok (.iload_n 1, 1) := by decide +kernel
theorem dX2_tell_30 : decode cX2_tell 30 = .ok (.iload 4, 2) := by decide +kernel
theorem dX2_tell_32 : decode cX2_tell 32 = .ok (.iastore, 1) := by decide +kernel
theorem dX2_tell_33 : decode cX2_tell 33 = .ok (.aload_n 0, 1) := by decide +kernel
theorem dX2_tell_34 : decode cX2_tell 34 = .ok (.getfield 21, 3) := by decide +kernel
theorem dX2_tell_37 : decode cX2_tell 37 = .ok (.iload_n 1, 1) := by decide +kernel
theorem dX2_tell_38 : decode cX2_tell 38 = .ok (.iload 5, 2) := by decide +kernel
theorem dX2_tell_40 : decode cX2_tell 40 = .ok (.sipush 1000, 3) := by decide +kernel
theorem dX2_tell_43 : decode cX2_tell 43 = .ok (.idiv, 1) := by decide +kernel
theorem dX2_tell_44 : decode cX2_tell 44 = .ok (.iastore, 1) := by decide +kernel
theorem dX2_tell_45 : decode cX2_tell 45 = .ok (.aload_n 0, 1) := by decide +kernel
theorem dX2_tell_46 : decode cX2_tell 46 = .ok (.getfield 24, 3) := by decide +kernel
theorem dX2_tell_49 : decode cX2_tell 49 = .ok (.iload_n 1, 1) := by decide +kernel
theorem dX2_tell_50 : decode cX2_tell 50 = .ok (.iload 5, 2) := by decide +kernel
theorem dX2_tell_52 : decode cX2_tell 52 = .ok (.sipush 1000, 3) := by decide +kernel
theorem dX2_tell_55 : decode cX2_tell 55 = .ok (.irem, 1) := by decide +kernel
theorem dX2_tell_56 : decode cX2_tell 56 = .ok (.bipush 10, 2) := by decide +kernel
theorem dX2_tell_58 : decode cX2_tell 58 = .ok (.idiv, 1) := by decide +kernel
theorem dX2_tell_59 : decode cX2_tell 59 = .ok (.iastore, 1) := by decide +kernel
theorem dX2_tell_60 : decode cX2_tell 60 = .ok (.aload_n 0, 1) := by decide +kernel
theorem dX2_tell_61 : decode cX2_tell 61 = .ok (.getfield 27, 3) := by decide +kernel
theorem dX2_tell_64 : decode cX2_tell 64 = .ok (.iload_n 1, 1) := by decide +kernel
theorem dX2_tell_65 : decode cX2_tell 65 = .ok (.iload 5, 2) := by decide +kernel
theorem dX2_tell_67 : decode cX2_tell 67 = .ok (.bipush 10, 2) := by decide +kernel
theorem dX2_tell_69 : decode cX2_tell 69 = .ok (.irem, 1) := by decide +kernel
theorem dX2_tell_70 : decode cX2_tell 70 = .ok (.iastore, 1) := by decide +kernel
theorem dX2_tell_71 : decode cX2_tell 71 = .ok (.return_, 1) := by decide +kernel
theorem dX2_forget_0 : decode cX2_forget 0 = .ok (.aload_n 0, 1) := by decide +kernel
theorem dX2_forget_1 : decode cX2_forget 1 = .ok (.getfield 9, 3) := by decide +kernel
theorem dX2_forget_4 : decode cX2_forget 4 = .ok (.iconst 0, 1) := by decide +kernel
theorem dX2_forget_5 : decode cX2_forget 5 = .ok (.invokestatic 30, 3) := by decide +kernel
theorem dX2_forget_8 : decode cX2_forget 8 = .ok (.return_, 1) := by decide +kernel
theorem dX2_isTold_0 : decode cX2_isTold 0 = .ok (.iload_n 1, 1) := by decide +kernel
theorem dX2_isTold_1 : decode cX2_isTold 1 = .ok (.ifCond .lt 22, 3) := by decide +kernel
theorem dX2_isTold_4 : decode cX2_isTold 4 = .ok (.iload_n 1, 1) := by decide +kernel
theorem dX2_isTold_5 : decode cX2_isTold 5 = .ok (.bipush 12, 2) := by decide +kernel
theorem dX2_isTold_7 : decode cX2_isTold 7 = .ok (.if_icmp .ge 16, 3) := by decide +kernel
theorem dX2_isTold_10 : decode cX2_isTold 10 = .ok (.aload_n 0, 1) := by decide +kernel
theorem dX2_isTold_11 : decode cX2_isTold 11 = .ok (.getfield 9, 3) := by decide +kernel
theorem dX2_isTold_14 : decode cX2_isTold 14 = .ok (.iload_n 1, 1) := by decide +kernel
theorem dX2_isTold_15 : decode cX2_isTold 15 = .ok (.iaload, 1) := by decide +kernel
theorem dX2_isTold_16 : decode cX2_isTold 16 = .ok (.ifCond .le 7, 3) := by decide +kernel
theorem dX2_isTold_19 : decode cX2_isTold 19 = .ok (.iconst 1, 1) := by decide +kernel
theorem dX2_isTold_20 : decode cX2_isTold 20 = .ok (.goto 4, 3) := by decide +kernel
theorem dX2_isTold_23 : decode cX2_isTold 23 = .ok (.iconst 0, 1) := by decide +kernel
theorem dX2_isTold_24 : decode cX2_isTold 24 = .ok (.ireturn, 1) := by decide +kernel
theorem dX2_number_0 : decode cX2_number 0 = .ok (.iconst 0, 1) := by decide +kernel
theorem dX2_number_1 : decode cX2_number 1 = .ok (.istore_n 1, 1) := by decide +kernel
theorem dX2_number_2 : decode cX2_number 2 = .ok (.iconst 0, 1) := by decide +kernel
theorem dX2_number_3 : decode cX2_number 3 = .ok (.istore_n 2, 1) := by decide +kernel
theorem dX2_number_4 : decode cX2_number 4 = .ok (.iload_n 2, 1) := by decide +kernel
theorem dX2_number_5 : decode cX2_number 5 = .ok (.bipush 12, 2) := by decide +kernel
theorem dX2_number_7 : decode cX2_number 7 = .ok (.if_icmp .ge 21, 3) := by decide +kernel
theorem dX2_number_10 : decode cX2_number 10 = .ok (.aload_n 0, 1) := by decide +kernel
theorem dX2_number_11 : decode cX2_number 11 = .ok (.getfield 9, 3) := by decide +kernel
theorem dX2_number_14 : decode cX2_number 14 = .ok (.iload_n 2, 1) := by decide +kernel
theorem dX2_number_15 : decode cX2_number 15 = .ok (.iaload, 1) := by decide +kernel
theorem dX2_number_16 : decode cX2_number 16 = .ok (.ifCond .le 6, 3) := by decide +kernel
theorem dX2_number_19 : decode cX2_number 19 = .ok (.iinc 1 1, 3) := by decide +kernel
theorem dX2_number_22 : decode cX2_number 22 = .ok (.iinc 2 1, 3) := by decide +kernel
theorem dX2_number_25 : decode cX2_number 25 = .ok (.goto (-21), 3) := by decide +kernel
theorem dX2_number_28 : decode cX2_number 28 = .ok (.iload_n 1, 1) := by decide +kernel
theorem dX2_number_29 : decode cX2_number 29 = .ok (.ireturn, 1) := by decide +kernel
theorem dX2_liftOf_0 : decode cX2_liftOf 0 = .ok (.aload_n 0, 1) := by decide +kernel
theorem dX2_liftOf_1 : decode cX2_liftOf 1 = .ok (.iload_n 1, 1) := by decide +kernel
theorem dX2_liftOf_2 : decode cX2_liftOf 2 = .ok (.invokevirtual 36, 3) := by decide +kernel
theorem dX2_liftOf_5 : decode cX2_liftOf 5 = .ok (.ifCond .eq 12, 3) := by decide +kernel
theorem dX2_liftOf_8 : decode cX2_liftOf 8 = .ok (.aload_n 0, 1) := by decide +kernel
theorem dX2_liftOf_9 : decode cX2_liftOf 9 = .ok (.getfield 9, 3) := by decide +kernel
theorem dX2_liftOf_12 : decode cX2_liftOf 12 = .ok (.iload_n 1, 1) := by decide +kernel
theorem dX2_liftOf_13 : decode cX2_liftOf 13 = .ok (.iaload, 1) := by decide +kernel
theorem dX2_liftOf_14 : decode cX2_liftOf 14 = .ok (.goto 4, 3) := by decide +kernel
theorem dX2_liftOf_17 : decode cX2_liftOf 17 = .ok (.iconst 0, 1) := by decide +kernel
theorem dX2_liftOf_18 : decode cX2_liftOf 18 = .ok (.ireturn, 1) := by decide +kernel
theorem dX2_heightOf_0 : decode cX2_heightOf 0 = .ok (.aload_n 0, 1) := by decide +kernel
theorem dX2_heightOf_1 : decode cX2_heightOf 1 = .ok (.iload_n 1, 1) := by decide +kernel
theorem dX2_heightOf_2 : decode cX2_heightOf 2 = .ok (.invokevirtual 36, 3) := by decide +kernel
theorem dX2_heightOf_5 : decode cX2_heightOf 5 = .ok (.ifCond .eq 12, 3) := by decide +kernel
theorem dX2_heightOf_8 : decode cX2_heightOf 8 = .ok (.aload_n 0, 1) := by decide +kernel
theorem dX2_heightOf_9 : decode cX2_heightOf 9 = .ok (.getfield 15, 3) := by decide +kernel
theorem dX2_heightOf_12 : decode cX2_heightOf 12 = .ok (.iload_n 1, 1) := by decide +kernel
theorem dX2_heightOf_13 : decode cX2_heightOf 13 = .ok (.iaload, 1) := by decide +kernel
theorem dX2_heightOf_14 : decode cX2_heightOf 14 = .ok (.goto 4, 3) := by decide +kernel
theorem dX2_heightOf_17 : decode cX2_heightOf 17 = .ok (.iconst 0, 1) := by decide +kernel
theorem dX2_heightOf_18 : decode cX2_heightOf 18 = .ok (.ireturn, 1) := by decide +kernel
theorem dX2_spreadOf_0 : decode cX2_spreadOf 0 = .ok (.aload_n 0, 1) := by decide +kernel
theorem dX2_spreadOf_1 : decode cX2_spreadOf 1 = .ok (.iload_n 1, 1) := by decide +kernel
theorem dX2_spreadOf_2 : decode cX2_spreadOf 2 = .ok (.invokevirtual 36, 3) := by decide +kernel
theorem dX2_spreadOf_5 : decode cX2_spreadOf 5 = .ok (.ifCond .eq 12, 3) := by decide +kernel
theorem dX2_spreadOf_8 : decode cX2_spreadOf 8 = .ok (.aload_n 0, 1) := by decide +kernel
theorem dX2_spreadOf_9 : decode cX2_spreadOf 9 = .ok (.getfield 18, 3) := by decide +kernel
theorem dX2_spreadOf_12 : decode cX2_spreadOf 12 = .ok (.iload_n 1, 1) := by decide +kernel
theorem dX2_spreadOf_13 : decode cX2_spreadOf 13 = .ok (.iaload, 1) := by decide +kernel
theorem dX2_spreadOf_14 : decode cX2_spreadOf 14 = .ok (.goto 4, 3) := by decide +kernel
theorem dX2_spreadOf_17 : decode cX2_spreadOf 17 = .ok (.iconst 0, 1) := by decide +kernel
theorem dX2_spreadOf_18 : decode cX2_spreadOf 18 = .ok (.ireturn, 1) := by decide +kernel
theorem dX2_burnOf_0 : decode cX2_burnOf 0 = .ok (.aload_n 0, 1) := by decide +kernel
theorem dX2_burnOf_1 : decode cX2_burnOf 1 = .ok (.iload_n 1, 1) := by decide +kernel
theorem dX2_burnOf_2 : decode cX2_burnOf 2 = .ok (.invokevirtual 36, 3) := by decide +kernel
theorem dX2_burnOf_5 : decode cX2_burnOf 5 = .ok (.ifCond .eq 12, 3) := by decide +kernel
theorem dX2_burnOf_8 : decode cX2_burnOf 8 = .ok (.aload_n 0, 1) := by decide +kernel
theorem dX2_burnOf_9 : decode cX2_burnOf 9 = .ok (.getfield 21, 3) := by decide +kernel
theorem dX2_burnOf_12 : decode cX2_burnOf 12 = .ok (.iload_n 1, 1) := by decide +kernel
theorem dX2_burnOf_13 : decode cX2_burnOf 13 = .ok (.iaload, 1) := by decide +kernel
theorem dX2_burnOf_14 : decode cX2_burnOf 14 = .ok (.goto 4, 3) := by decide +kernel
theorem dX2_burnOf_17 : decode cX2_burnOf 17 = .ok (.iconst 0, 1) := by decide +kernel
theorem dX2_burnOf_18 : decode cX2_burnOf 18 = .ok (.ireturn, 1) := by decide +kernel
theorem dX2_colourOf_0 : decode cX2_colourOf 0 = .ok (.aload_n 0, 1) := by decide +kernel
theorem dX2_colourOf_1 : decode cX2_colourOf 1 = .ok (.iload_n 1, 1) := by decide +kernel
theorem dX2_colourOf_2 : decode cX2_colourOf 2 = .ok (.invokevirtual 36, 3) := by decide +kernel
theorem dX2_colourOf_5 : decode cX2_colourOf 5 = .ok (.ifCond .eq 12, 3) := by decide +kernel
theorem dX2_colourOf_8 : decode cX2_colourOf 8 = .ok (.aload_n 0, 1) := by decide +kernel
theorem dX2_colourOf_9 : decode cX2_colourOf 9 = .ok (.getfield 24, 3) := by decide +kernel
theorem dX2_colourOf_12 : decode cX2_colourOf 12 = .ok (.iload_n 1, 1) := by decide +kernel
theorem dX2_colourOf_13 : decode cX2_colourOf 13 = .ok (.iaload, 1) := by decide +kernel
theorem dX2_colourOf_14 : decode cX2_colourOf 14 = .ok (.goto 4, 3) := by decide +kernel
theorem dX2_colourOf_17 : decode cX2_colourOf 17 = .ok (.iconst 0, 1) := by decide +kernel
theorem dX2_colourOf_18 : decode cX2_colourOf 18 = .ok (.ireturn, 1) := by decide +kernel
theorem dX2_lateOf_0 : decode cX2_lateOf 0 = .ok (.aload_n 0, 1) := by decide +kernel
theorem dX2_lateOf_1 : decode cX2_lateOf 1 = .ok (.iload_n 1, 1) := by decide +kernel
theorem dX2_lateOf_2 : decode cX2_lateOf 2 = .ok (.invokevirtual 36, 3) := by decide +kernel
theorem dX2_lateOf_5 : decode cX2_lateOf 5 = .ok (.ifCond .eq 12, 3) := by decide +kernel
theorem dX2_lateOf_8 : decode cX2_lateOf 8 = .ok (.aload_n 0, 1) := by decide +kernel
theorem dX2_lateOf_9 : decode cX2_lateOf 9 = .ok (.getfield 27, 3) := by decide +kernel
theorem dX2_lateOf_12 : decode cX2_lateOf 12 = .ok (.iload_n 1, 1) := by decide +kernel
theorem dX2_lateOf_13 : decode cX2_lateOf 13 = .ok (.iaload, 1) := by decide +kernel
theorem dX2_lateOf_14 : decode cX2_lateOf 14 = .ok (.goto 4, 3) := by decide +kernel
theorem dX2_lateOf_17 : decode cX2_lateOf 17 = .ok (.iconst 0, 1) := by decide +kernel
theorem dX2_lateOf_18 : decode cX2_lateOf 18 = .ok (.ireturn, 1) := by decide +kernel
theorem dX3_init_0 : decode cX3_init 0 = .ok (.aload_n 0, 1) := by decide +kernel
theorem dX3_init_1 : decode cX3_init 1 = .ok (.invokespecial 3, 3) := by decide +kernel
theorem dX3_init_4 : decode cX3_init 4 = .ok (.aload_n 0, 1) := by decide +kernel
theorem dX3_init_5 : decode cX3_init 5 = .ok (.bipush 8, 2) := by decide +kernel
theorem dX3_init_7 : decode cX3_init 7 = .ok (.newarray .int, 2) := by decide +kernel
theorem dX3_init_9 : decode cX3_init 9 = .ok (.putfield 9, 3) := by decide +kernel
theorem dX3_init_12 : decode cX3_init 12 = .ok (.aload_n 0, 1) := by decide +kernel
theorem dX3_init_13 : decode cX3_init 13 = .ok (.bipush 48, 2) := by decide +kernel
theorem dX3_init_15 : decode cX3_init 15 = .ok (.newarray .boolean, 2) := by decide +kernel
theorem dX3_init_17 : decode cX3_init 17 = .ok (.putfield 15, 3) := by decide +kernel
theorem dX3_init_20 : decode cX3_init 20 = .ok (.aload_n 0, 1) := by decide +kernel
theorem dX3_init_21 : decode cX3_init 21 = .ok (.bipush 8, 2) := by decide +kernel
theorem dX3_init_23 : decode cX3_init 23 = .ok (.newarray .int, 2) := by decide +kernel
theorem dX3_init_25 : decode cX3_init 25 = .ok (.putfield 19, 3) := by decide +kernel
theorem dX3_init_28 : decode cX3_init 28 = .ok (.aload_n 0, 1) := by decide +kernel
theorem dX3_init_29 : decode cX3_init 29 = .ok (.bipush 6, 2) := by decide +kernel
theorem dX3_init_31 : decode cX3_init 31 = .ok (.newarray .int, 2) := by decide +kernel
theorem dX3_init_33 : decode cX3_init 33 = .ok (.putfield 22, 3) := by decide +kernel
theorem dX3_init_36 : decode cX3_init 36 = .ok (.aload_n 0, 1) := by decide +kernel
theorem dX3_init_37 : decode cX3_init 37 = .ok (.bipush 6, 2) := by decide +kernel
theorem dX3_init_39 : decode cX3_init 39 = .ok (.newarray .int, 2) := by decide +kernel
theorem dX3_init_41 : decode cX3_init 41 = .ok (.putfield 25, 3) := by decide +kernel
theorem dX3_init_44 : decode cX3_init 44 = .ok (.aload_n 0, 1) := by decide +kernel
theorem dX3_init_45 : decode cX3_init 45 = .ok (.bipush 8, 2) := by decide +kernel
theorem dX3_init_47 : decode cX3_init 47 = .ok (.newarray .int, 2) := by decide +kernel
theorem dX3_init_49 : decode cX3_init 49 = .ok (.putfield 28, 3) := by decide +kernel
theorem dX3_init_52 : decode cX3_init 52 = .ok (.aload_n 0, 1) := by decide +kernel
theorem dX3_init_53 : decode cX3_init 53 = .ok (.bipush 8, 2) := by decide +kernel
theorem dX3_init_55 : decode cX3_init 55 = .ok (.newarray .int, 2) := by decide +kernel
theorem dX3_init_57 : decode cX3_init 57 = .ok (.putfield 31, 3) := by decide +kernel
theorem dX3_init_60 : decode cX3_init 60 = .ok (.aload_n 0, 1) := by decide +kernel
theorem dX3_init_61 : decode cX3_init 61 = .ok (.aload_n 1, 1) := by decide +kernel
theorem dX3_init_62 : decode cX3_init 62 = .ok (.putfield 34, 3) := by decide +kernel
theorem dX3_init_65 : decode cX3_init 65 = .ok (.aload_n 0, 1) := by decide +kernel
theorem dX3_init_66 : decode cX3_init 66 = .ok (.aload_n 2, 1) := by decide +kernel
theorem dX3_init_67 : decode cX3_init 67 = .ok (.putfield 38, 3) := by decide +kernel
theorem dX3_init_70 : decode cX3_init 70 = .ok (.return_, 1) := by decide +kernel
theorem dX3_prepare_0 : decode cX3_prepare 0 = .ok (.aload_n 0, 1) := by decide +kernel
theorem dX3_prepare_1 : decode cX3_prepare 1 = .ok (.iload_n 1, 1) := by decide +kernel
theorem dX3_prepare_2 : decode cX3_prepare 2 = .ok (.putfield 42, 3) := by decide +kernel
theorem dX3_prepare_5 : decode cX3_prepare 5 = .ok (.aload_n 0, 1) := by decide +kernel
theorem dX3_prepare_6 : decode cX3_prepare 6 = .ok (.iconst 0, 1) := by decide +kernel
theorem dX3_prepare_7 : decode cX3_prepare 7 = .ok (.putfield 46, 3) := by decide +kernel
theorem dX3_prepare_10 : decode cX3_prepare 10 = .ok (.aload_n 0, 1) := by decide +kernel
theorem dX3_prepare_11 : decode cX3_prepare 11 = .ok (.getfield 22, 3) := by decide +kernel
theorem dX3_prepare_14 : decode cX3_prepare 14 = .ok (.iconst 0, 1) := by decide +kernel
theorem dX3_prepare_15 : decode cX3_prepare 15 = .ok (.invokestatic 49, 3) := by decide +kernel
theorem dX3_prepare_18 : decode cX3_prepare 18 = .ok (.aload_n 0, 1) := by decide +kernel
theorem dX3_prepare_19 : decode cX3_prepare 19 = .ok (.getfield 25, 3) := by decide +kernel
theorem dX3_prepare_22 : decode cX3_prepare 22 = .ok (.iconst 0, 1) := by decide +kernel
theorem dX3_prepare_23 : decode cX3_prepare 23 = .ok (.invokestatic 49, 3) := by decide +kernel
theorem dX3_prepare_26 : decode cX3_prepare 26 = .ok (.iconst 0, 1) := by decide +kernel
theorem dX3_prepare_27 : decode cX3_prepare 27 = .ok (.istore_n 3, 1) := by decide +kernel
theorem dX3_prepare_28 : decode cX3_prepare 28 = .ok (.iload_n 3, 1) := by decide +kernel
theorem dX3_prepare_29 : decode cX3_prepare 29 = .ok (.aload_n 0, 1) := by decide +kernel
theorem dX3_prepare_30 : decode cX3_prepare 30 = .ok (.getfield 38, 3) := by decide +kernel
theorem dX3_prepare_33 : decode cX3_prepare 33 = .ok (.getfield 55, 3) := by decide +kernel
theorem dX3_prepare_36 : decode cX3_prepare 36 = .ok (.if_icmp .ge 81, 3) := by decide +kernel
theorem dX3_prepare_39 : decode cX3_prepare 39 = .ok (.aload_n 0, 1) := by decide +kernel
theorem dX3_prepare_40 : decode cX3_prepare 40 = .ok (.getfield 38, 3) := by decide +kernel
theorem dX3_prepare_43 : decode cX3_prepare 43 = .ok (.iload_n 3, 1) := by decide +kernel
theorem dX3_prepare_44 : decode cX3_prepare 44 = .ok (.invokevirtual 60, 3) := by decide +kernel
theorem dX3_prepare_47 : decode cX3_prepare 47 = .ok (.istore 4, 2) := by decide +kernel
theorem dX3_prepare_49 : decode cX3_prepare 49 = .ok (.iload 4, 2) := by decide +kernel
theorem dX3_prepare_51 : decode cX3_prepare 51 = .ok (.ifCond .lt 24, 3) := by decide +kernel
theorem dX3_prepare_54 : decode cX3_prepare 54 = .ok (.iload 4, 2) := by decide +kernel
theorem dX3_prepare_56 : decode cX3_prepare 56 = .ok (.bipush 6, 2) := by decide +kernel
theorem dX3_prepare_58 : decode cX3_prepare 58 = .ok (.if_icmp .ge 17, 3) := by decide +kernel
theorem dX3_prepare_61 : decode cX3_prepare 61 = .ok (.aload_n 0, 1) := by decide +kernel
theorem dX3_prepare_62 : decode cX3_prepare 62 = .ok (.getfield 22, 3) := by decide +kernel
theorem dX3_prepare_65 : decode cX3_prepare 65 = .ok (.iload 4, 2) := by decide +kernel
theorem dX3_prepare_67 : decode cX3_prepare 67 = .ok (.dup2, 1) := by decide +kernel
theorem dX3_prepare_68 : decode cX3_prepare 68 = .ok (.iaload, 1) := by decide +kernel
theorem dX3_prepare_69 : decode cX3_prepare 69 = .ok (.iconst 1, 1) := by decide +kernel
theorem dX3_prepare_70 : decode cX3_prepare 70 = .ok (.iadd, 1) := by decide +kernel
theorem dX3_prepare_71 : decode cX3_prepare 71 = .ok (.iastore, 1) := by decide +kernel
theorem dX3_prepare_72 : decode cX3_prepare 72 = .ok (.goto 39, 3) := by decide +kernel
theorem dX3_prepare_75 : decode cX3_prepare 75 = .ok (.aload_n 0, 1) := by decide +kernel
theorem dX3_prepare_76 : decode cX3_prepare 76 = .ok (.getfield 46, 3) := by decide +kernel
theorem dX3_prepare_79 : decode cX3_prepare 79 = .ok (.ifCond .lt 32, 3) := by decide +kernel
theorem dX3_prepare_82 : decode cX3_prepare 82 = .ok (.aload_n 0, 1) := by decide +kernel
theorem dX3_prepare_83 : decode cX3_prepare 83 = .ok (.getfield 46, 3) := by decide +kernel
theorem dX3_prepare_86 : decode cX3_prepare 86 = .ok (.bipush 8, 2) := by decide +kernel
theorem dX3_prepare_88 : decode cX3_prepare 88 = .ok (.if_icmp .ge 23, 3) := by decide +kernel
theorem dX3_prepare_91 : decode cX3_prepare 91 = .ok (.aload_n 0, 1) := by decide +kernel
theorem dX3_prepare_92 : decode cX3_prepare 92 = .ok (.getfield 9, 3) := by decide +kernel
theorem dX3_prepare_95 : decode cX3_prepare 95 = .ok (.aload_n 0, 1) := by decide +kernel
theorem dX3_prepare_96 : decode cX3_prepare 96 = .ok (.getfield 46, 3) := by decide +kernel
theorem dX3_prepare_99 : decode cX3_prepare 99 = .ok (.iload_n 3, 1) := by decide +kernel
theorem dX3_prepare_100 : decode cX3_prepare 100 = .ok (.iastore, 1) := by decide +kernel
theorem dX3_prepare_101 : decode cX3_prepare 101 = .ok (.aload_n 0, 1) := by decide +kernel
theorem dX3_prepare_102 : decode cX3_prepare 102 = .ok (.dup, 1) := by decide +kernel
theorem dX3_prepare_103 : decode cX3_prepare 103 = .ok (.getfield 46, 3) := by decide +kernel
theorem dX3_prepare_106 : decode cX3_prepare 106 = .ok (.iconst 1, 1) := by decide +kernel
theorem dX3_prepare_107 : decode cX3_prepare 107 = .ok (.iadd, 1) := by decide +kernel
theorem dX3_prepare_108 : decode cX3_prepare 108 = .ok (.putfield 46, 3) := by decide +kernel
theorem dX3_prepare_111 : decode cX3_prepare 111 = .ok (.iinc 3 1, 3) := by decide +kernel
theorem dX3_prepare_114 : decode cX3_prepare 114 = .ok (.goto (-86), 3) := by decide +kernel
theorem dX3_prepare_117 : decode cX3_prepare 117 = .ok (.iconst 0, 1) := by decide +kernel
theorem dX3_prepare_118 : decode cX3_prepare 118 = .ok (.istore_n 3, 1) := by decide +kernel
theorem dX3_prepare_119 : decode cX3_prepare 119 = .ok (.iload_n 3, 1) := by decide +kernel
theorem dX3_prepare_120 : decode cX3_prepare 120 = .ok (.aload_n 0, 1) := by decide +kernel
theorem dX3_prepare_121 : decode cX3_prepare 121 = .ok (.getfield 46, 3) := by decide +kernel
theorem dX3_prepare_124 : decode cX3_prepare 124 = .ok (.if_icmp .ge 67, 3) := by decide +kernel
theorem dX3_prepare_127 : decode cX3_prepare 127 = .ok (.iload_n 3, 1) := by decide +kernel
theorem dX3_prepare_128 : decode cX3_prepare 128 = .ok (.bipush 8, 2) := by decide +kernel
theorem dX3_prepare_130 : decode cX3_prepare 130 = .ok (.if_icmp .ge 61, 3) := by decide +kernel
theorem dX3_prepare_133 : decode cX3_prepare 133 = .ok (.iconst 0, 1) := by decide +kernel
theorem dX3_prepare_134 : decode cX3_prepare 134 = .ok (.istore 4, 2) := by decide +kernel
theorem dX3_prepare_136 : decode cX3_prepare 136 = .ok (.iload 4, 2) := by decide +kernel
theorem dX3_prepare_138 : decode cX3_prepare 138 = .ok (.bipush 6, 2) := by decide +kernel
theorem dX3_prepare_140 : decode cX3_prepare 140 = .ok (.if_icmp .ge 34, 3) := by decide +kernel
theorem dX3_prepare_143 : decode cX3_prepare 143 = .ok (.aload_n 0, 1) := by decide +kernel
theorem dX3_prepare_144 : decode cX3_prepare 144 = .ok (.getfield 15, 3) := by decide +kernel
theorem dX3_prepare_147 : decode cX3_prepare 147 = .ok (.iload_n 3, 1) := by decide +kernel
theorem dX3_prepare_148 : decode cX3_prepare 148 = .ok (.bipush 6, 2) := by decide +kernel
theorem dX3_prepare_150 : decode cX3_prepare 150 = .ok (.imul, 1) := by decide +kernel
theorem dX3_prepare_151 : decode cX3_prepare 151 = .ok (.iload 4, 2) := by decide +kernel
theorem dX3_prepare_153 : decode cX3_prepare 153 = .ok (.iadd, 1) := by decide +kernel
theorem dX3_prepare_154 : decode cX3_prepare 154 = .ok (.aload_n 0, 1) := by decide +kernel
theorem dX3_prepare_155 : decode cX3_prepare 155 = .ok (.aload_n 0, 1) := by decide +kernel
theorem dX3_prepare_156 : decode cX3_prepare 156 = .ok (.getfield 9, 3) := by decide +kernel
theorem dX3_prepare_159 : decode cX3_prepare 159 = .ok (.iload_n 3, 1) := by decide +kernel
theorem dX3_prepare_160 : decode cX3_prepare 160 = .ok (.iaload, 1) := by decide +kernel
theorem dX3_prepare_161 : decode cX3_prepare 161 = .ok (.iload 4, 2) := by decide +kernel
theorem dX3_prepare_163 : decode cX3_prepare 163 = .ok (.iload_n 2, 1) := by decide +kernel
theorem dX3_prepare_164 : decode cX3_prepare 164 = .ok (.invokevirtual 64, 3) := by decide +kernel
theorem dX3_prepare_167 : decode cX3_prepare 167 = .ok (.bastore, 1) := by decide +kernel
theorem dX3_prepare_168 : decode cX3_prepare 168 = .ok (.iinc 4 1, 3) := by decide +kernel
theorem dX3_prepare_171 : decode cX3_prepare 171 = .ok (.goto (-35), 3) := by decide +kernel
theorem dX3_prepare_174 : decode cX3_prepare 174 = .ok (.aload_n 0, 1) := by decide +kernel
theorem dX3_prepare_175 : decode cX3_prepare 175 = .ok (.getfield 19, 3) := by decide +kernel
theorem dX3_prepare_178 : decode cX3_prepare 178 = .ok (.iload_n 3, 1) := by decide +kernel
theorem dX3_prepare_179 : decode cX3_prepare 179 = .ok (.aload_n 0, 1) := by decide +kernel
theorem dX3_prepare_180 : decode cX3_prepare 180 = .ok (.iload_n 3, 1) := by decide +kernel
theorem dX3_prepare_181 : decode cX3_prepare 181 = .ok (.invokevirtual 68, 3) := by decide +kernel
theorem dX3_prepare_184 : decode cX3_prepare 184 = .ok (.iastore, 1) := by decide +kernel
theorem dX3_prepare_185 : decode cX3_prepare 185 = .ok (.iinc 3 1, 3) := by decide +kernel
theorem dX3_prepare_188 : decode cX3_prepare 188 = .ok (.goto (-69), 3) := by decide +kernel
theorem dX3_prepare_191 : decode cX3_prepare 191 = .ok (.return_, 1) := by decide +kernel
theorem dX3_clashesOf_0 : decode cX3_clashesOf 0 = .ok (.iconst 0, 1) := by decide +kernel
theorem dX3_clashesOf_1 : decode cX3_clashesOf 1 = .ok (.istore_n 2, 1) := by decide +kernel
theorem dX3_clashesOf_2 : decode cX3_clashesOf 2 = .ok (.iconst 0, 1) := by decide +kernel
theorem dX3_clashesOf_3 : decode cX3_clashesOf 3 = .ok (.istore_n 3, 1) := by decide +kernel
theorem dX3_clashesOf_4 : decode cX3_clashesOf 4 = .ok (.iload_n 3, 1) := by decide +kernel
theorem dX3_clashesOf_5 : decode cX3_clashesOf 5 = .ok (.aload_n 0, 1) := by decide +kernel
theorem dX3_clashesOf_6 : decode cX3_clashesOf 6 = .ok (.getfield 46, 3) := by decide +kernel
theorem dX3_clashesOf_9 : decode cX3_clashesOf 9 = .ok (.if_icmp .ge 50, 3) := by decide +kernel
theorem dX3_clashesOf_12 : decode cX3_clashesOf 12 = .ok (.iload_n 3, 1) := by decide +kernel
theorem dX3_clashesOf_13 : decode cX3_clashesOf 13 = .ok (.bipush 8, 2) := by decide +kernel
theorem dX3_clashesOf_15 : decode cX3_clashesOf 15 = .ok (.if_icmp .ge 44, 3) := by decide +kernel
theorem dX3_clashesOf_18 : decode cX3_clashesOf 18 = .ok (.iload_n 1, 1) := by decide +kernel
theorem dX3_clashesOf_19 : decode cX3_clashesOf 19 = .ok (.ifCond .lt 34, 3) := by decide +kernel
theorem dX3_clashesOf_22 : decode cX3_clashesOf 22 = .ok (.iload_n 1, 1) := by decide +kernel
theorem dX3_clashesOf_23 : decode cX3_clashesOf 23 = .ok (.bipush 8, 2) := by decide +kernel
theorem dX3_clashesOf_25 : decode cX3_clashesOf 25 = .ok (.if_icmp .ge 28, 3) := by decide +kernel
theorem dX3_clashesOf_28 : decode cX3_clashesOf 28 = .ok (.aload_n 0, 1) := by decide +kernel
theorem dX3_clashesOf_29 : decode cX3_clashesOf 29 = .ok (.aload_n 0, 1) := by decide +kernel
theorem dX3_clashesOf_30 : decode cX3_clashesOf 30 = .ok (.getfield 9, 3) := by decide +kernel
theorem dX3_clashesOf_33 : decode cX3_clashesOf 33 = .ok (.iload_n 1, 1) := by decide +kernel
theorem dX3_clashesOf_34 : decode cX3_clashesOf 34 = .ok (.iaload, 1) := by decide +kernel
theorem dX3_clashesOf_35 : decode cX3_clashesOf 35 = .ok (.aload_n 0, 1) := by decide +kernel
theorem dX3_clashesOf_36 : decode cX3_clashesOf 36 = .ok (.getfield 9, 3) := by decide +kernel
theorem dX3_clashesOf_39 : decode cX3_clashesOf 39 = .ok (.iload_n 3, 1) := by decide +kernel
theorem dX3_clashesOf_40 : decode cX3_clashesOf 40 = .ok (.iaload, 1) := by decide +kernel
theorem dX3_clashesOf_41 : decode cX3_clashesOf 41 = .ok (.invokevirtual 71, 3) := by decide +kernel
theorem dX3_clashesOf_44 : decode cX3_clashesOf 44 = .ok (.ifCond .ne 9, 3) := by decide +kernel
theorem dX3_clashesOf_47 : decode cX3_clashesOf 47 = .ok (.iload_n 2, 1) := by decide +kernel
theorem dX3_clashesOf_48 : decode cX3_clashesOf 48 = .ok (.iconst 1, 1) := by decide +kernel
theorem dX3_clashesOf_49 : decode cX3_clashesOf 49 = .ok (.iload_n 3, 1) := by decide +kernel
theorem dX3_clashesOf_50 : decode cX3_clashesOf 50 = .ok (.ishl, 1) := by decide +kernel
theorem dX3_clashesOf_51 : decode cX3_clashesOf 51 = .ok (.ior, 1) := by decide +kernel
theorem dX3_clashesOf_52 : decode cX3_clashesOf 52 = .ok (.istore_n 2, 1) := by decide +kernel
theorem dX3_clashesOf_53 : decode cX3_clashesOf 53 = .ok (.iinc 3 1, 3) := by decide +kernel
theorem dX3_clashesOf_56 : decode cX3_clashesOf 56 = .ok (.goto (-52), 3) := by decide +kernel
theorem dX3_clashesOf_59 : decode cX3_clashesOf 59 = .ok (.iload_n 2, 1) := by decide +kernel
theorem dX3_clashesOf_60 : decode cX3_clashesOf 60 = .ok (.ireturn, 1) := by decide +kernel
theorem dX3_fitsAlone_0 : decode cX3_fitsAlone 0 = .ok (.aload_n 0, 1) := by decide +kernel
theorem dX3_fitsAlone_1 : decode cX3_fitsAlone 1 = .ok (.getfield 38, 3) := by decide +kernel
theorem dX3_fitsAlone_4 : decode cX3_fitsAlone 4 = .ok (.iload_n 1, 1) := by decide +kernel
theorem dX3_fitsAlone_5 : decode cX3_fitsAlone 5 = .ok (.invokevirtual 75, 3) := by decide +kernel
theorem dX3_fitsAlone_8 : decode cX3_fitsAlone 8 = .ok (.istore 4, 2) := by decide +kernel
theorem dX3_fitsAlone_10 : decode cX3_fitsAlone 10 = .ok (.aload_n 0, 1) := by decide +kernel
theorem dX3_fitsAlone_11 : decode cX3_fitsAlone 11 = .ok (.getfield 34, 3) := by decide +kernel
theorem dX3_fitsAlone_14 : decode cX3_fitsAlone 14 = .ok (.iload_n 2, 1) := by decide +kernel
theorem dX3_fitsAlone_15 : decode cX3_fitsAlone 15 = .ok (.iload 4, 2) := by decide +kernel
theorem dX3_fitsAlone_17 : decode cX3_fitsAlone 17 = .ok (.invokevirtual 78, 3) := by decide +kernel
theorem dX3_fitsAlone_20 : decode cX3_fitsAlone 20 = .ok (.ifCond .ne 5, 3) := by decide +kernel
theorem dX3_fitsAlone_23 : decode cX3_fitsAlone 23 = .ok (.iconst 0, 1) := by decide +kernel
theorem dX3_fitsAlone_24 : decode cX3_fitsAlone 24 = .ok (.ireturn, 1) := by decide +kernel
theorem dX3_fitsAlone_25 : decode cX3_fitsAlone 25 = .ok (.iconst 0, 1) := by decide +kernel
theorem dX3_fitsAlone_26 : decode cX3_fitsAlone 26 = .ok (.istore 5, 2) := by decide +kernel
theorem dX3_fitsAlone_28 : decode cX3_fitsAlone 28 = .ok (.iload 5, 2) := by decide +kernel
theorem dX3_fitsAlone_30 : decode cX3_fitsAlone 30 = .ok (.iload_n 3, 1) := by decide +kernel
theorem dX3_fitsAlone_31 : decode cX3_fitsAlone 31 = .ok (.if_icmp .ge 34, 3) := by decide +kernel
theorem dX3_fitsAlone_34 : decode cX3_fitsAlone 34 = .ok (.aload_n 0, 1) := by decide +kernel
theorem dX3_fitsAlone_35 : decode cX3_fitsAlone 35 = .ok (.getfield 34, 3) := by decide +kernel
theorem dX3_fitsAlone_38 : decode cX3_fitsAlone 38 = .ok (.iload 4, 2) := by decide +kernel
theorem dX3_fitsAlone_40 : decode cX3_fitsAlone 40 = .ok (.iload_n 2, 1) := by decide +kernel
theorem dX3_fitsAlone_41 : decode cX3_fitsAlone 41 = .ok (.aload_n 0, 1) := by decide +kernel
theorem dX3_fitsAlone_42 : decode cX3_fitsAlone 42 = .ok (.getfield 38, 3) := by decide +kernel
theorem dX3_fitsAlone_45 : decode cX3_fitsAlone 45 = .ok (.iload_n 1, 1) := by decide +kernel
theorem dX3_fitsAlone_46 : decode cX3_fitsAlone 46 = .ok (.invokevirtual 83, 3) := by decide +kernel
theorem dX3_fitsAlone_49 : decode cX3_fitsAlone 49 = .ok (.iload 5, 2) := by decide +kernel
theorem dX3_fitsAlone_51 : decode cX3_fitsAlone 51 = .ok (.invokevirtual 86, 3) := by decide +kernel
theorem dX3_fitsAlone_54 : decode cX3_fitsAlone 54 = .ok (.ifCond .ne 5, 3) := by decide +kernel
theorem dX3_fitsAlone_57 : decode cX3_fitsAlone 57 = .ok (.iconst 0, 1) := by decide +kernel
theorem dX3_fitsAlone_58 : decode cX3_fitsAlone 58 = .ok (.ireturn, 1) := by decide +kernel
theorem dX3_fitsAlone_59 : decode cX3_fitsAlone 59 = .ok (.iinc 5 1, 3) := by decide +kernel
theorem dX3_fitsAlone_62 : decode cX3_fitsAlone 62 = .ok (.goto (-34), 3) := by decide +kernel
theorem dX3_fitsAlone_65 : decode cX3_fitsAlone 65 = .ok (.iconst 0, 1) := by decide +kernel
theorem dX3_fitsAlone_66 : decode cX3_fitsAlone 66 = .ok (.istore 5, 2) := by decide +kernel
theorem dX3_fitsAlone_68 : decode cX3_fitsAlone 68 = .ok (.iload 5, 2) := by decide +kernel
theorem dX3_fitsAlone_70 : decode cX3_fitsAlone 70 = .ok (.aload_n 0, 1) := by decide +kernel
theorem dX3_fitsAlone_71 : decode cX3_fitsAlone 71 = .ok (.getfield 38, 3) := by decide +kernel
theorem dX3_fitsAlone_74 : decode cX3_fitsAlone 74 = .ok (.getfield 55, 3) := by decide +kernel
theorem dX3_fitsAlone_77 : decode cX3_fitsAlone 77 = .ok (.if_icmp .ge 34, 3) := by decide +kernel
theorem dX3_fitsAlone_80 : decode cX3_fitsAlone 80 = .ok (.aload_n 0, 1) := by decide +kernel
theorem dX3_fitsAlone_81 : decode cX3_fitsAlone 81 = .ok (.getfield 38, 3) := by decide +kernel
theorem dX3_fitsAlone_84 : decode cX3_fitsAlone 84 = .ok (.iload 5, 2) := by decide +kernel
theorem dX3_fitsAlone_86 : decode cX3_fitsAlone 86 = .ok (.invokevirtual 60, 3) := by decide +kernel
theorem dX3_fitsAlone_89 : decode cX3_fitsAlone 89 = .ok (.iload_n 2, 1) := by decide +kernel
theorem dX3_fitsAlone_90 : decode cX3_fitsAlone 90 = .ok (.if_icmp .ne 15, 3) := by decide +kernel
theorem dX3_fitsAlone_93 : decode cX3_fitsAlone 93 = .ok (.aload_n 0, 1) := by decide +kernel
theorem dX3_fitsAlone_94 : decode cX3_fitsAlone 94 = .ok (.iload_n 1, 1) := by decide +kernel
theorem dX3_fitsAlone_95 : decode cX3_fitsAlone 95 = .ok (.iload 5, 2) := by decide +kernel
theorem dX3_fitsAlone_97 : decode cX3_fitsAlone 97 = .ok (.invokevirtual 71, 3) := by decide +kernel
theorem dX3_fitsAlone_100 : decode cX3_fitsAlone 100 = .ok (.ifCond .ne 5, 3) := by decide +kernel
theorem dX3_fitsAlone_103 : decode cX3_fitsAlone 103 = .ok (.iconst 0, 1) := by decide +kernel
theorem dX3_fitsAlone_104 : decode cX3_fitsAlone 104 = .ok (.ireturn, 1) := by decide +kernel
theorem dX3_fitsAlone_105 : decode cX3_fitsAlone 105 = .ok (.iinc 5 1, 3) := by decide +kernel
theorem dX3_fitsAlone_108 : decode cX3_fitsAlone 108 = .ok (.goto (-40), 3) := by decide +kernel
theorem dX3_fitsAlone_111 : decode cX3_fitsAlone 111 = .ok (.iconst 1, 1) := by decide +kernel
theorem dX3_fitsAlone_112 : decode cX3_fitsAlone 112 = .ok (.ireturn, 1) := by decide +kernel
theorem dX3_areApart_0 : decode cX3_areApart 0 = .ok (.aload_n 0, 1) := by decide +kernel
theorem dX3_areApart_1 : decode cX3_areApart 1 = .ok (.getfield 34, 3) := by decide +kernel
theorem dX3_areApart_4 : decode cX3_areApart 4 = .ok (.aload_n 0, 1) := by decide +kernel
theorem dX3_areApart_5 : decode cX3_areApart 5 = .ok (.getfield 38, 3) := by decide +kernel
theorem dX3_areApart_8 : decode cX3_areApart 8 = .ok (.iload_n 1, 1) := by decide +kernel
theorem dX3_areApart_9 : decode cX3_areApart 9 = .ok (.invokevirtual 90, 3) := by decide +kernel
theorem dX3_areApart_12 : decode cX3_areApart 12 = .ok (.aload_n 0, 1) := by decide +kernel
theorem dX3_areApart_13 : decode cX3_areApart 13 = .ok (.getfield 34, 3) := by decide +kernel
theorem dX3_areApart_16 : decode cX3_areApart 16 = .ok (.aload_n 0, 1) := by decide +kernel
theorem dX3_areApart_17 : decode cX3_areApart 17 = .ok (.getfield 38, 3) := by decide +kernel
theorem dX3_areApart_20 : decode cX3_areApart 20 = .ok (.iload_n 2, 1) := by decide +kernel
theorem dX3_areApart_21 : decode cX3_areApart 21 = .ok (.invokevirtual 90, 3) := by decide +kernel
theorem dX3_areApart_24 : decode cX3_areApart 24 = .ok (.isub, 1) := by decide +kernel
theorem dX3_areApart_25 : decode cX3_areApart 25 = .ok (.invokestatic 94, 3) := by decide +kernel
theorem dX3_areApart_28 : decode cX3_areApart 28 = .ok (.aload_n 0, 1) := by decide +kernel
theorem dX3_areApart_29 : decode cX3_areApart 29 = .ok (.getfield 42, 3) := by decide +kernel
theorem dX3_areApart_32 : decode cX3_areApart 32 = .ok (.if_icmp .lt 7, 3) := by decide +kernel
theorem dX3_areApart_35 : decode cX3_areApart 35 = .ok (.iconst 1, 1) := by decide +kernel
theorem dX3_areApart_36 : decode cX3_areApart 36 = .ok (.goto 4, 3) := by decide +kernel
theorem dX3_areApart_39 : decode cX3_areApart 39 = .ok (.iconst 0, 1) := by decide +kernel
theorem dX3_areApart_40 : decode cX3_areApart 40 = .ok (.ireturn, 1) := by decide +kernel
theorem dX3_mayChoose_0 : decode cX3_mayChoose 0 = .ok (.iload_n 1, 1) := by decide +kernel
theorem dX3_mayChoose_1 : decode cX3_mayChoose 1 = .ok (.ifCond .lt 19, 3) := by decide +kernel
theorem dX3_mayChoose_4 : decode cX3_mayChoose 4 = .ok (.iload_n 1, 1) := by decide +kernel
theorem dX3_mayChoose_5 : decode cX3_mayChoose 5 = .ok (.bipush 8, 2) := by decide +kernel
theorem dX3_mayChoose_7 : decode cX3_mayChoose 7 = .ok (.if_icmp .ge 13, 3) := by decide +kernel
theorem dX3_mayChoose_10 : decode cX3_mayChoose 10 = .ok (.iload_n 2, 1) := by decide +kernel
theorem dX3_mayChoose_11 : decode cX3_mayChoose 11 = .ok (.ifCond .lt 9, 3) := by decide +kernel
theorem dX3_mayChoose_14 : decode cX3_mayChoose 14 = .ok (.iload_n 2, 1) := by decide +kernel
theorem dX3_mayChoose_15 : decode cX3_mayChoose 15 = .ok (.bipush 6, 2) := by decide +kernel
theorem dX3_mayChoose_17 : decode cX3_mayChoose 17 = .ok (.if_icmp .lt 5, 3) := by decide +kernel
theorem dX3_mayChoose_20 : decode cX3_mayChoose 20 = .ok (.iconst 0, 1) := by decide +kernel
theorem dX3_mayChoose_21 : decode cX3_mayChoose 21 = .ok (.ireturn, 1) := by decide +kernel
theorem dX3_mayChoose_22 : decode cX3_mayChoose 22 = .ok (.aload_n 0, 1) := by decide +kernel
theorem dX3_mayChoose_23 : decode cX3_mayChoose 23 = .ok (.getfield 15, 3) := by decide +kernel
theorem dX3_mayChoose_26 : decode cX3_mayChoose 26 = .ok (.iload_n 1, 1) := by decide +kernel
theorem dX3_mayChoose_27 : decode cX3_mayChoose 27 = .ok (.bipush 6, 2) := by decide +kernel
theorem dX3_mayChoose_29 : decode cX3_mayChoose 29 = .ok (.imul, 1) := by decide +kernel
theorem dX3_mayChoose_30 : decode cX3_mayChoose 30 = .ok (.iload_n 2, 1) := by decide +kernel
theorem dX3_mayChoose_31 : decode cX3_mayChoose 31 = .ok (.iadd, 1) := by decide +kernel
theorem dX3_mayChoose_32 : decode cX3_mayChoose 32 = .ok (.baload, 1) := by decide +kernel
theorem dX3_mayChoose_33 : decode cX3_mayChoose 33 = .ok (.ifCond .eq 40, 3) := by decide +kernel
theorem dX3_mayChoose_36 : decode cX3_mayChoose 36 = .ok (.aload_n 0, 1) := by decide +kernel
theorem dX3_mayChoose_37 : decode cX3_mayChoose 37 = .ok (.getfield 22, 3) := by decide +kernel
theorem dX3_mayChoose_40 : decode cX3_mayChoose 40 = .ok (.iload_n 2, 1) := by decide +kernel
theorem dX3_mayChoose_41 : decode cX3_mayChoose 41 = .ok (.iaload, 1) := by decide +kernel
theorem dX3_mayChoose_42 : decode cX3_mayChoose 42 = .ok (.aload_n 0, 1) := by decide +kernel
theorem dX3_mayChoose_43 : decode cX3_mayChoose 43 = .ok (.getfield 34, 3) := by decide +kernel
theorem dX3_mayChoose_46 : decode cX3_mayChoose 46 = .ok (.iload_n 2, 1) := by decide +kernel
theorem dX3_mayChoose_47 : decode cX3_mayChoose 47 = .ok (.invokevirtual 99, 3) := by decide +kernel
theorem dX3_mayChoose_50 : decode cX3_mayChoose 50 = .ok (.if_icmp .ge 23, 3) := by decide +kernel
theorem dX3_mayChoose_53 : decode cX3_mayChoose 53 = .ok (.aload_n 0, 1) := by decide +kernel
theorem dX3_mayChoose_54 : decode cX3_mayChoose 54 = .ok (.getfield 19, 3) := by decide +kernel
theorem dX3_mayChoose_57 : decode cX3_mayChoose 57 = .ok (.iload_n 1, 1) := by decide +kernel
theorem dX3_mayChoose_58 : decode cX3_mayChoose 58 = .ok (.iaload, 1) := by decide +kernel
theorem dX3_mayChoose_59 : decode cX3_mayChoose 59 = .ok (.aload_n 0, 1) := by decide +kernel
theorem dX3_mayChoose_60 : decode cX3_mayChoose 60 = .ok (.getfield 25, 3) := by decide +kernel
theorem dX3_mayChoose_63 : decode cX3_mayChoose 63 = .ok (.iload_n 2, 1) := by decide +kernel
theorem dX3_mayChoose_64 : decode cX3_mayChoose 64 = .ok (.iaload, 1) := by decide +kernel
theorem dX3_mayChoose_65 : decode cX3_mayChoose 65 = .ok (.iand, 1) := by decide +kernel
theorem dX3_mayChoose_66 : decode cX3_mayChoose 66 = .ok (.ifCond .ne 7, 3) := by decide +kernel
theorem dX3_mayChoose_69 : decode cX3_mayChoose 69 = .ok (.iconst 1, 1) := by decide +kernel
theorem dX3_mayChoose_70 : decode cX3_mayChoose 70 = .ok (.goto 4, 3) := by decide +kernel
theorem dX3_mayChoose_73 : decode cX3_mayChoose 73 = .ok (.iconst 0, 1) := by decide +kernel
theorem dX3_mayChoose_74 : decode cX3_mayChoose 74 = .ok (.ireturn, 1) := by decide +kernel
theorem dX3_choose_0 : decode cX3_choose 0 = .ok (.iload_n 1, 1) := by decide +kernel
theorem dX3_choose_1 : decode cX3_choose 1 = .ok (.ifCond .lt 48, 3) := by decide +kernel
theorem dX3_choose_4 : decode cX3_choose 4 = .ok (.iload_n 1, 1) := by decide +kernel
theorem dX3_choose_5 : decode cX3_choose 5 = .ok (.bipush 8, 2) := by decide +kernel
theorem dX3_choose_7 : decode cX3_choose 7 = .ok (.if_icmp .ge 42, 3) := by decide +kernel
theorem dX3_choose_10 : decode cX3_choose 10 = .ok (.iload_n 2, 1) := by decide +kernel
theorem dX3_choose_11 : decode cX3_choose 11 = .ok (.ifCond .lt 38, 3) := by decide +kernel
theorem dX3_choose_14 : decode cX3_choose 14 = .ok (.iload_n 2, 1) := by decide +kernel
theorem dX3_choose_15 : decode cX3_choose 15 = .ok (.bipush 6, 2) := by decide +kernel
theorem dX3_choose_17 : decode cX3_choose 17 = .ok (.if_icmp .ge 32, 3) := by decide +kernel
theorem dX3_choose_20 : decode cX3_choose 20 = .ok (.aload_n 0, 1) := by decide +kernel
theorem dX3_choose_21 : decode cX3_choose 21 = .ok (.getfield 28, 3) := by decide +kernel
theorem dX3_choose_24 : decode cX3_choose 24 = .ok (.iload_n 1, 1) := by decide +kernel
theorem dX3_choose_25 : decode cX3_choose 25 = .ok (.iload_n 2, 1) := by decide +kernel
theorem dX3_choose_26 : decode cX3_choose 26 = .ok (.iastore, 1) := by decide +kernel
theorem dX3_choose_27 : decode cX3_choose 27 = .ok (.aload_n 0, 1) := by decide +kernel
theorem dX3_choose_28 : decode cX3_choose 28 = .ok (.getfield 22, 3) := by decide +kernel
theorem dX3_choose_31 : decode cX3_choose 31 = .ok (.iload_n 2, 1) := by decide +kernel
theorem dX3_choose_32 : decode cX3_choose 32 = .ok (.dup2, 1) := by decide +kernel
theorem dX3_choose_33 : decode cX3_choose 33 = .ok (.iaload, 1) := by decide +kernel
theorem dX3_choose_34 : decode cX3_choose 34 = .ok (.iconst 1, 1) := by decide +kernel
theorem dX3_choose_35 : decode cX3_choose 35 = .ok (.iadd, 1) := by decide +kernel
theorem dX3_choose_36 : decode cX3_choose 36 = .ok (.iastore, 1) := by decide +kernel
theorem dX3_choose_37 : decode cX3_choose 37 = .ok (.aload_n 0, 1) := by decide +kernel
theorem dX3_choose_38 : decode cX3_choose 38 = .ok (.getfield 25, 3) := by decide +kernel
theorem dX3_choose_41 : decode cX3_choose 41 = .ok (.iload_n 2, 1) := by decide +kernel
theorem dX3_choose_42 : decode cX3_choose 42 = .ok (.dup2, 1) := by decide +kernel
theorem dX3_choose_43 : decode cX3_choose 43 = .ok (.iaload, 1) := by decide +kernel
theorem dX3_choose_44 : decode cX3_choose 44 = .ok (.iconst 1, 1) := by decide +kernel
theorem dX3_choose_45 : decode cX3_choose 45 = .ok (.iload_n 1, 1) := by decide +kernel
theorem dX3_choose_46 : decode cX3_choose 46 = .ok (.ishl, 1) := by decide +kernel
theorem dX3_choose_47 : decode cX3_choose 47 = .ok (.ior, 1) := by decide +kernel
theorem dX3_choose_48 : decode cX3_choose 48 = .ok (.iastore, 1) := by decide +kernel
theorem dX3_choose_49 : decode cX3_choose 49 = .ok (.return_, 1) := by decide +kernel
theorem dX3_unchoose_0 : decode cX3_unchoose 0 = .ok (.iload_n 1, 1) := by decide +kernel
theorem dX3_unchoose_1 : decode cX3_unchoose 1 = .ok (.ifCond .lt 43, 3) := by decide +kernel
theorem dX3_unchoose_4 : decode cX3_unchoose 4 = .ok (.iload_n 1, 1) := by decide +kernel
theorem dX3_unchoose_5 : decode cX3_unchoose 5 = .ok (.bipush 8, 2) := by decide +kernel
theorem dX3_unchoose_7 : decode cX3_unchoose 7 = .ok (.if_icmp .ge 37, 3) := by decide +kernel
theorem dX3_unchoose_10 : decode cX3_unchoose 10 = .ok (.iload_n 2, 1) := by decide +kernel
theorem dX3_unchoose_11 : decode cX3_unchoose 11 = .ok (.ifCond .lt 33, 3) := by decide +kernel
theorem dX3_unchoose_14 : decode cX3_unchoose 14 = .ok (.iload_n 2, 1) := by decide +kernel
theorem dX3_unchoose_15 : decode cX3_unchoose 15 = .ok (.bipush 6, 2) := by decide +kernel
theorem dX3_unchoose_17 : decode cX3_unchoose 17 = .ok (.if_icmp .ge 27, 3) := by decide +kernel
theorem dX3_unchoose_20 : decode cX3_unchoose 20 = .ok (.aload_n 0, 1) := by decide +kernel
theorem dX3_unchoose_21 : decode cX3_unchoose 21 = .ok (.getfield 22, 3) := by decide +kernel
theorem dX3_unchoose_24 : decode cX3_unchoose 24 = .ok (.iload_n 2, 1) := by decide +kernel
theorem dX3_unchoose_25 : decode cX3_unchoose 25 = .ok (.dup2, 1) := by decide +kernel
theorem dX3_unchoose_26 : decode cX3_unchoose 26 = .ok (.iaload, 1) := by decide +kernel
theorem dX3_unchoose_27 : decode cX3_unchoose 27 = .ok (.iconst 1, 1) := by decide +kernel
theorem dX3_unchoose_28 : decode cX3_unchoose 28 = .ok (.isub, 1) := by decide +kernel
theorem dX3_unchoose_29 : decode cX3_unchoose 29 = .ok (.iastore, 1) := by decide +kernel
theorem dX3_unchoose_30 : decode cX3_unchoose 30 = .ok (.aload_n 0, 1) := by decide +kernel
theorem dX3_unchoose_31 : decode cX3_unchoose 31 = .ok (.getfield 25, 3) := by decide +kernel
theorem dX3_unchoose_34 : decode cX3_unchoose 34 = .ok (.iload_n 2, 1) := by decide +kernel
theorem dX3_unchoose_35 : decode cX3_unchoose 35 = .ok (.dup2, 1) := by decide +kernel
theorem dX3_unchoose_36 : decode cX3_unchoose 36 = .ok (.iaload, 1) := by decide +kernel
theorem dX3_unchoose_37 : decode cX3_unchoose 37 = .ok (.iconst 1, 1) := by decide +kernel
theorem dX3_unchoose_38 : decode cX3_unchoose 38 = .ok (.iload_n 1, 1) := by decide +kernel
theorem dX3_unchoose_39 : decode cX3_unchoose 39 = .ok (.ishl, 1) := by decide +kernel
theorem dX3_unchoose_40 : decode cX3_unchoose 40 = .ok (.iconst (-1), 1) := by decide +kernel
theorem dX3_unchoose_41 : decode cX3_unchoose 41 = .ok (.ixor, 1) := by decide +kernel
theorem dX3_unchoose_42 : decode cX3_unchoose 42 = .ok (.iand, 1) := by decide +kernel
theorem dX3_unchoose_43 : decode cX3_unchoose 43 = .ok (.iastore, 1) := by decide +kernel
theorem dX3_unchoose_44 : decode cX3_unchoose 44 = .ok (.return_, 1) := by decide +kernel
theorem dX3_loadOf_0 : decode cX3_loadOf 0 = .ok (.iload_n 1, 1) := by decide +kernel
theorem dX3_loadOf_1 : decode cX3_loadOf 1 = .ok (.ifCond .lt 18, 3) := by decide +kernel
theorem dX3_loadOf_4 : decode cX3_loadOf 4 = .ok (.iload_n 1, 1) := by decide +kernel
theorem dX3_loadOf_5 : decode cX3_loadOf 5 = .ok (.bipush 6, 2) := by decide +kernel
theorem dX3_loadOf_7 : decode cX3_loadOf 7 = .ok (.if_icmp .ge 12, 3) := by decide +kernel
theorem dX3_loadOf_10 : decode cX3_loadOf 10 = .ok (.aload_n 0, 1) := by decide +kernel
theorem dX3_loadOf_11 : decode cX3_loadOf 11 = .ok (.getfield 22, 3) := by decide +kernel
theorem dX3_loadOf_14 : decode cX3_loadOf 14 = .ok (.iload_n 1, 1) := by decide +kernel
theorem dX3_loadOf_15 : decode cX3_loadOf 15 = .ok (.iaload, 1) := by decide +kernel
theorem dX3_loadOf_16 : decode cX3_loadOf 16 = .ok (.goto 4, 3) := by decide +kernel
theorem dX3_loadOf_19 : decode cX3_loadOf 19 = .ok (.iconst 0, 1) := by decide +kernel
theorem dX3_loadOf_20 : decode cX3_loadOf 20 = .ok (.ireturn, 1) := by decide +kernel
theorem dX3_mostLoad_0 : decode cX3_mostLoad 0 = .ok (.iconst 0, 1) := by decide +kernel
theorem dX3_mostLoad_1 : decode cX3_mostLoad 1 = .ok (.istore_n 1, 1) := by decide +kernel
theorem dX3_mostLoad_2 : decode cX3_mostLoad 2 = .ok (.iconst 0, 1) := by decide +kernel
theorem dX3_mostLoad_3 : decode cX3_mostLoad 3 = .ok (.istore_n 2, 1) := by decide +kernel
theorem dX3_mostLoad_4 : decode cX3_mostLoad 4 = .ok (.iload_n 2, 1) := by decide +kernel
theorem dX3_mostLoad_5 : decode cX3_mostLoad 5 = .ok (.bipush 6, 2) := by decide +kernel
theorem dX3_mostLoad_7 : decode cX3_mostLoad 7 = .ok (.if_icmp .ge 20, 3) := by decide +kernel
theorem dX3_mostLoad_10 : decode cX3_mostLoad 10 = .ok (.iload_n 1, 1) := by decide +kernel
theorem dX3_mostLoad_11 : decode cX3_mostLoad 11 = .ok (.aload_n 0, 1) := by decide +kernel
theorem dX3_mostLoad_12 : decode cX3_mostLoad 12 = .ok (.getfield 22, 3) := by decide +kernel
theorem dX3_mostLoad_15 : decode cX3_mostLoad 15 = .ok (.iload_n 2, 1) := by decide +kernel
theorem dX3_mostLoad_16 : decode cX3_mostLoad 16 = .ok (.iaload, 1) := by decide +kernel
theorem dX3_mostLoad_17 : decode cX3_mostLoad 17 = .ok (.invokestatic 102, 3) := by decide +kernel
theorem dX3_mostLoad_20 : decode cX3_mostLoad 20 = .ok (.istore_n 1, 1) := by decide +kernel
theorem dX3_mostLoad_21 : decode cX3_mostLoad 21 = .ok (.iinc 2 1, 3) := by decide +kernel
theorem dX3_mostLoad_24 : decode cX3_mostLoad 24 = .ok (.goto (-20), 3) := by decide +kernel
theorem dX3_mostLoad_27 : decode cX3_mostLoad 27 = .ok (.iload_n 1, 1) := by decide +kernel
theorem dX3_mostLoad_28 : decode cX3_mostLoad 28 = .ok (.ireturn, 1) := by decide +kernel
theorem dX3_firstBroken_0 : decode cX3_firstBroken 0 = .ok (.iconst 0, 1) := by decide +kernel
theorem dX3_firstBroken_1 : decode cX3_firstBroken 1 = .ok (.istore_n 2, 1) := by decide +kernel
theorem dX3_firstBroken_2 : decode cX3_firstBroken 2 = .ok (.iload_n 2, 1) := by decide +kernel
theorem dX3_firstBroken_3 : decode cX3_firstBroken 3 = .ok (.aload_n 0, 1) := by decide +kernel
theorem dX3_firstBroken_4 : decode cX3_firstBroken 4 = .ok (.getfield 46, 3) := by decide +kernel
theorem dX3_firstBroken_7 : decode cX3_firstBroken 7 = .ok (.if_icmp .ge 40, 3) := by decide +kernel
theorem dX3_firstBroken_10 : decode cX3_firstBroken 10 = .ok (.iload_n 2, 1) := by decide +kernel
theorem dX3_firstBroken_11 : decode cX3_firstBroken 11 = .ok (.aload_n 1, 1) := by decide +kernel
theorem dX3_firstBroken_12 : decode cX3_firstBroken 12 = .ok (.getfield 106, 3) := by decide +kernel
theorem dX3_firstBroken_15 : decode cX3_firstBroken 15 = .ok (.if_icmp .ge 32, 3) := by decide +kernel
theorem dX3_firstBroken_18 : decode cX3_firstBroken 18 = .ok (.aload_n 1, 1) := by decide +kernel
theorem dX3_firstBroken_19 : decode cX3_firstBroken 19 = .ok (.iload_n 2, 1) := by decide +kernel
theorem dX3_firstBroken_20 : decode cX3_firstBroken 20 = .ok (.invokevirtual 111, 3) := by decide +kernel
theorem dX3_firstBroken_23 : decode cX3_firstBroken 23 = .ok (.istore_n 3, 1) := by decide +kernel
theorem dX3_firstBroken_24 : decode cX3_firstBroken 24 = .ok (.aload_n 0, 1) := by decide +kernel
theorem dX3_firstBroken_25 : decode cX3_firstBroken 25 = .ok (.iload_n 2, 1) := by decide +kernel
theorem dX3_firstBroken_26 : decode cX3_firstBroken 26 = .ok (.iload_n 3, 1) := by decide +kernel
theorem dX3_firstBroken_27 : decode cX3_firstBroken 27 = .ok (.invokevirtual 114, 3) := by decide +kernel
theorem dX3_firstBroken_30 : decode cX3_firstBroken 30 = .ok (.ifCond .ne 5, 3) := by decide +kernel
theorem dX3_firstBroken_33 : decode cX3_firstBroken 33 = .ok (.iload_n 2, 1) := by decide +kernel
theorem dX3_firstBroken_34 : decode cX3_firstBroken 34 = .ok (.ireturn, 1) := by decide +kernel
theorem dX3_firstBroken_35 : decode cX3_firstBroken 35 = .ok (.aload_n 0, 1) := by decide +kernel
theorem dX3_firstBroken_36 : decode cX3_firstBroken 36 = .ok (.iload_n 2, 1) := by decide +kernel
theorem dX3_firstBroken_37 : decode cX3_firstBroken 37 = .ok (.iload_n 3, 1) := by decide +kernel
theorem dX3_firstBroken_38 : decode cX3_firstBroken 38 = .ok (.invokevirtual 117, 3) := by decide +kernel
theorem dX3_firstBroken_41 : decode cX3_firstBroken 41 = .ok (.iinc 2 1, 3) := by decide +kernel
theorem dX3_firstBroken_44 : decode cX3_firstBroken 44 = .ok (.goto (-42), 3) := by decide +kernel
theorem dX3_firstBroken_47 : decode cX3_firstBroken 47 = .ok (.iconst (-1), 1) := by decide +kernel
theorem dX3_firstBroken_48 : decode cX3_firstBroken 48 = .ok (.ireturn, 1) := by decide +kernel
theorem dX3_findBest_0 : decode cX3_findBest 0 = .ok (.aload_n 0, 1) := by decide +kernel
theorem dX3_findBest_1 : decode cX3_findBest 1 = .ok (.bipush 121, 2) := by decide +kernel
theorem dX3_findBest_3 : decode cX3_findBest 3 = .ok (.putfield 121, 3) := by decide +kernel
theorem dX3_findBest_6 : decode cX3_findBest 6 = .ok (.aload_n 0, 1) := by decide +kernel
theorem dX3_findBest_7 : decode cX3_findBest 7 = .ok (.iconst 0, 1) := by decide +kernel
theorem dX3_findBest_8 : decode cX3_findBest 8 = .ok (.aload_n 0, 1) := by decide +kernel
theorem dX3_findBest_9 : decode cX3_findBest 9 = .ok (.invokevirtual 124, 3) := by decide +kernel
theorem dX3_findBest_12 : decode cX3_findBest 12 = .ok (.invokestatic 128, 3) := by decide +kernel
theorem dX3_findBest_15 : decode cX3_findBest 15 = .ok (.aload_n 0, 1) := by decide +kernel
theorem dX3_findBest_16 : decode cX3_findBest 16 = .ok (.getfield 121, 3) := by decide +kernel
theorem dX3_findBest_19 : decode cX3_findBest 19 = .ok (.bipush 120, 2) := by decide +kernel
theorem dX3_findBest_21 : decode cX3_findBest 21 = .ok (.if_icmp .gt 7, 3) := by decide +kernel
theorem dX3_findBest_24 : decode cX3_findBest 24 = .ok (.iconst 1, 1) := by decide +kernel
theorem dX3_findBest_25 : decode cX3_findBest 25 = .ok (.goto 4, 3) := by decide +kernel
theorem dX3_findBest_28 : decode cX3_findBest 28 = .ok (.iconst 0, 1) := by decide +kernel
theorem dX3_findBest_29 : decode cX3_findBest 29 = .ok (.ireturn, 1) := by decide +kernel
theorem dX3_search_0 : decode cX3_search 0 = .ok (.iload_n 2, 1) := by decide +kernel
theorem dX3_search_1 : decode cX3_search 1 = .ok (.aload_n 0, 1) := by decide +kernel
theorem dX3_search_2 : decode cX3_search 2 = .ok (.getfield 121, 3) := by decide +kernel
theorem dX3_search_5 : decode cX3_search 5 = .ok (.if_icmp .lt 4, 3) := by decide +kernel
theorem dX3_search_8 : decode cX3_search 8 = .ok (.return_, 1) := by decide +kernel
theorem dX3_search_9 : decode cX3_search 9 = .ok (.iload_n 1, 1) := by decide +kernel
theorem dX3_search_10 : decode cX3_search 10 = .ok (.aload_n 0, 1) := by decide +kernel
theorem dX3_search_11 : decode cX3_search 11 = .ok (.getfield 46, 3) := by decide +kernel
theorem dX3_search_14 : decode cX3_search 14 = .ok (.if_icmp .ge 9, 3) := by decide +kernel
theorem dX3_search_17 : decode cX3_search 17 = .ok (.iload_n 1, 1) := by decide +kernel
theorem dX3_search_18 : decode cX3_search 18 = .ok (.bipush 8, 2) := by decide +kernel
theorem dX3_search_20 : decode cX3_search 20 = .ok (.if_icmp .lt 24, 3) := by decide +kernel
theorem dX3_search_23 : decode cX3_search 23 = .ok (.aload_n 0, 1) := by decide +kernel
theorem dX3_search_24 : decode cX3_search 24 = .ok (.iload_n 2, 1) := by decide +kernel
theorem dX3_search_25 : decode cX3_search 25 = .ok (.putfield 121, 3) := by decide +kernel
theorem dX3_search_28 : decode cX3_search 28 = .ok (.aload_n 0, 1) := by decide +kernel
theorem dX3_search_29 : decode cX3_search 29 = .ok (.getfield 28, 3) := by decide +kernel
theorem dX3_search_32 : decode cX3_search 32 = .ok (.iconst 0, 1) := by decide +kernel
theorem dX3_search_33 : decode cX3_search 33 = .ok (.aload_n 0, 1) := by decide +kernel
theorem dX3_search_34 : decode cX3_search 34 = .ok (.getfield 31, 3) := by decide +kernel
theorem dX3_search_37 : decode cX3_search 37 = .ok (.iconst 0, 1) := by decide +kernel
theorem dX3_search_38 : decode cX3_search 38 = .ok (.bipush 8, 2) := by decide +kernel
theorem dX3_search_40 : decode cX3_search 40 = .ok (.invokestatic 132, 3) := by decide +kernel
theorem dX3_search_43 : decode cX3_search 43 = .ok (.return_, 1) := by decide +kernel
theorem dX3_search_44 : decode cX3_search 44 = .ok (.iconst 0, 1) := by decide +kernel
theorem dX3_search_45 : decode cX3_search 45 = .ok (.istore_n 3, 1) := by decide +kernel
theorem dX3_search_46 : decode cX3_search 46 = .ok (.iload_n 3, 1) := by decide +kernel
theorem dX3_search_47 : decode cX3_search 47 = .ok (.bipush 6, 2) := by decide +kernel
theorem dX3_search_49 : decode cX3_search 49 = .ok (.if_icmp .ge 46, 3) := by decide +kernel
theorem dX3_search_52 : decode cX3_search 52 = .ok (.aload_n 0, 1) := by decide +kernel
theorem dX3_search_53 : decode cX3_search 53 = .ok (.iload_n 1, 1) := by decide +kernel
theorem dX3_search_54 : decode cX3_search 54 = .ok (.iload_n 3, 1) := by decide +kernel
theorem dX3_search_55 : decode cX3_search 55 = .ok (.invokevirtual 114, 3) := by decide +kernel
theorem dX3_search_58 : decode cX3_search 58 = .ok (.ifCond .eq 31, 3) := by decide +kernel
theorem dX3_search_61 : decode cX3_search 61 = .ok (.aload_n 0, 1) := by decide +kernel
theorem dX3_search_62 : decode cX3_search 62 = .ok (.iload_n 1, 1) := by decide +kernel
theorem dX3_search_63 : decode cX3_search 63 = .ok (.iload_n 3, 1) := by decide +kernel
theorem dX3_search_64 : decode cX3_search 64 = .ok (.invokevirtual 117, 3) := by decide +kernel
theorem dX3_search_67 : decode cX3_search 67 = .ok (.aload_n 0, 1) := by decide +kernel
theorem dX3_search_68 : decode cX3_search 68 = .ok (.iload_n 1, 1) := by decide +kernel
theorem dX3_search_69 : decode cX3_search 69 = .ok (.iconst 1, 1) := by decide +kernel
theorem dX3_search_70 : decode cX3_search 70 = .ok (.iadd, 1) := by decide +kernel
theorem dX3_search_71 : decode cX3_search 71 = .ok (.iload_n 2, 1) := by decide +kernel
theorem dX3_search_72 : decode cX3_search 72 = .ok (.aload_n 0, 1) := by decide +kernel
theorem dX3_search_73 : decode cX3_search 73 = .ok (.iload_n 3, 1) := by decide +kernel
theorem dX3_search_74 : decode cX3_search 74 = .ok (.invokevirtual 138, 3) := by decide +kernel
theorem dX3_search_77 : decode cX3_search 77 = .ok (.invokestatic 102, 3) := by decide +kernel
theorem dX3_search_80 : decode cX3_search 80 = .ok (.invokestatic 128, 3) := by decide +kernel
theorem dX3_search_83 : decode cX3_search 83 = .ok (.aload_n 0, 1) := by decide +kernel
theorem dX3_search_84 : decode cX3_search 84 = .ok (.iload_n 1, 1) := by decide +kernel
theorem dX3_search_85 : decode cX3_search 85 = .ok (.iload_n 3, 1) := by decide +kernel
theorem dX3_search_86 : decode cX3_search 86 = .ok (.invokevirtual 141, 3) := by decide +kernel
theorem dX3_search_89 : decode cX3_search 89 = .ok (.iinc 3 1, 3) := by decide +kernel
theorem dX3_search_92 : decode cX3_search 92 = .ok (.goto (-46), 3) := by decide +kernel
theorem dX3_search_95 : decode cX3_search 95 = .ok (.return_, 1) := by decide +kernel
theorem dX3_giveBest_0 : decode cX3_giveBest 0 = .ok (.iconst 0, 1) := by decide +kernel
theorem dX3_giveBest_1 : decode cX3_giveBest 1 = .ok (.istore_n 1, 1) := by decide +kernel
theorem dX3_giveBest_2 : decode cX3_giveBest 2 = .ok (.iload_n 1, 1) := by decide +kernel
theorem dX3_giveBest_3 : decode cX3_giveBest 3 = .ok (.aload_n 0, 1) := by decide +kernel
theorem dX3_giveBest_4 : decode cX3_giveBest 4 = .ok (.getfield 46, 3) := by decide +kernel
theorem dX3_giveBest_7 : decode cX3_giveBest 7 = .ok (.if_icmp .ge 34, 3) := by decide +kernel
theorem dX3_giveBest_10 : decode cX3_giveBest 10 = .ok (.iload_n 1, 1) := by decide +kernel
theorem dX3_giveBest_11 : decode cX3_giveBest 11 = .ok (.bipush 8, 2) := by decide +kernel
theorem dX3_giveBest_13 : decode cX3_giveBest 13 = .ok (.if_icmp .ge 28, 3) := by decide +kernel
theorem dX3_giveBest_16 : decode cX3_giveBest 16 = .ok (.aload_n 0, 1) := by decide +kernel
theorem dX3_giveBest_17 : decode cX3_giveBest 17 = .ok (.getfield 38, 3) := by decide +kernel
theorem dX3_giveBest_20 : decode cX3_giveBest 20 = .ok (.aload_n 0, 1) := by decide +kernel
theorem dX3_giveBest_21 : decode cX3_giveBest 21 = .ok (.getfield 9, 3) := by decide +kernel
theorem dX3_giveBest_24 : decode cX3_giveBest 24 = .ok (.iload_n 1, 1) := by decide +kernel
theorem dX3_giveBest_25 : decode cX3_giveBest 25 = .ok (.iaload, 1) := by decide +kernel
theorem dX3_giveBest_26 : decode cX3_giveBest 26 = .ok (.aload_n 0, 1) := by decide +kernel
theorem dX3_giveBest_27 : decode cX3_giveBest 27 = .ok (.getfield 31, 3) := by decide +kernel
theorem dX3_giveBest_30 : decode cX3_giveBest 30 = .ok (.iload_n 1, 1) := by decide +kernel
theorem dX3_giveBest_31 : decode cX3_giveBest 31 = .ok (.iaload, 1) := by decide +kernel
theorem dX3_giveBest_32 : decode cX3_giveBest 32 = .ok (.invokevirtual 144, 3) := by decide +kernel
theorem dX3_giveBest_35 : decode cX3_giveBest 35 = .ok (.iinc 1 1, 3) := by decide +kernel
theorem dX3_giveBest_38 : decode cX3_giveBest 38 = .ok (.goto (-36), 3) := by decide +kernel
theorem dX3_giveBest_41 : decode cX3_giveBest 41 = .ok (.return_, 1) := by decide +kernel
theorem dX4_init_0 : decode cX4_init 0 = .ok (.aload_n 0, 1) := by decide +kernel
theorem dX4_init_1 : decode cX4_init 1 = .ok (.invokespecial 3, 3) := by decide +kernel
theorem dX4_init_4 : decode cX4_init 4 = .ok (.aload_n 0, 1) := by decide +kernel
theorem dX4_init_5 : decode cX4_init 5 = .ok (.bipush 20, 2) := by decide +kernel
theorem dX4_init_7 : decode cX4_init 7 = .ok (.newarray .int, 2) := by decide +kernel
theorem dX4_init_9 : decode cX4_init 9 = .ok (.putfield 9, 3) := by decide +kernel
theorem dX4_init_12 : decode cX4_init 12 = .ok (.aload_n 0, 1) := by decide +kernel
theorem dX4_init_13 : decode cX4_init 13 = .ok (.bipush 20, 2) := by decide +kernel
theorem dX4_init_15 : decode cX4_init 15 = .ok (.newarray .int, 2) := by decide +kernel
theorem dX4_init_17 : decode cX4_init 17 = .ok (.putfield 15, 3) := by decide +kernel
theorem dX4_init_20 : decode cX4_init 20 = .ok (.aload_n 0, 1) := by decide +kernel
theorem dX4_init_21 : decode cX4_init 21 = .ok (.bipush 20, 2) := by decide +kernel
theorem dX4_init_23 : decode cX4_init 23 = .ok (.newarray .int, 2) := by decide +kernel
theorem dX4_init_25 : decode cX4_init 25 = .ok (.putfield 18, 3) := by decide +kernel
theorem dX4_init_28 : decode cX4_init 28 = .ok (.return_, 1) := by decide +kernel
theorem dX4_tell_0 : decode cX4_tell 0 = .ok (.aload_n 0, 1) := by decide +kernel
theorem dX4_tell_1 : decode cX4_tell 1 = .ok (.getfield 21, 3) := by decide +kernel
theorem dX4_tell_4 : decode cX4_tell 4 = .ok (.ifCond .lt 12, 3) := by decide +kernel
theorem dX4_tell_7 : decode cX4_tell 7 = .ok (.aload_n 0, 1) := by decide +kernel
theorem dX4_tell_8 : decode cX4_tell 8 = .ok (.getfield 21, 3) := by decide +kernel
theorem dX4_tell_11 : decode cX4_tell 11 = .ok (.bipush 20, 2) := by decide +kernel
theorem dX4_tell_13 : decode cX4_tell 13 = .ok (.if_icmp .lt 4, 3) := by decide +kernel
theorem dX4_tell_16 : decode cX4_tell 16 = .ok (.return_, 1) := by decide +kernel
theorem dX4_tell_17 : decode cX4_tell 17 = .ok (.aload_n 0, 1) := by decide +kernel
theorem dX4_tell_18 : decode cX4_tell 18 = .ok (.getfield 9, 3) := by decide +kernel
theorem dX4_tell_21 : decode cX4_tell 21 = .ok (.aload_n 0, 1) := by decide +kernel
theorem dX4_tell_22 : decode cX4_tell 22 = .ok (.getfield 21, 3) := by decide +kernel
theorem dX4_tell_25 : decode cX4_tell 25 = .ok (.iload_n 1, 1) := by decide +kernel
theorem dX4_tell_26 : decode cX4_tell 26 = .ok (.iastore, 1) := by decide +kernel
theorem dX4_tell_27 : decode cX4_tell 27 = .ok (.aload_n 0, 1) := by decide +kernel
theorem dX4_tell_28 : decode cX4_tell 28 = .ok (.getfield 15, 3) := by decide +kernel
theorem dX4_tell_31 : decode cX4_tell 31 = .ok (.aload_n 0, 1) := by decide +kernel
theorem dX4_tell_32 : decode cX4_tell 32 = .ok (.getfield 21, 3) := by decide +kernel
theorem dX4_tell_35 : decode cX4_tell 35 = .ok (.iload_n 2, 1) := by decide +kernel
theorem dX4_tell_36 : decode cX4_tell 36 = .ok (.iastore, 1) := by decide +kernel
theorem dX4_tell_37 : decode cX4_tell 37 = .ok (.aload_n 0, 1) := by decide +kernel
theorem dX4_tell_38 : decode cX4_tell 38 = .ok (.getfield 18, 3) := by decide +kernel
theorem dX4_tell_41 : decode cX4_tell 41 = .ok (.aload_n 0, 1) := by decide +kernel
theorem dX4_tell_42 : decode cX4_tell 42 = .ok (.getfield 21, 3) := by decide +kernel
theorem dX4_tell_45 : decode cX4_tell 45 = .ok (.iload_n 3, 1) := by decide +kernel
theorem dX4_tell_46 : decode cX4_tell 46 = .ok (.iastore, 1) := by decide +kernel
theorem dX4_tell_47 : decode cX4_tell 47 = .ok (.aload_n 0, 1) := by decide +kernel
theorem dX4_tell_48 : decode cX4_tell 48 = .ok (.dup, 1) := by decide +kernel
theorem dX4_tell_49 : decode cX4_tell 49 = .ok (.getfield 21, 3) := by decide +kernel
theorem dX4_tell_52 : decode cX4_tell 52 = .ok (.iconst 1, 1) := by decide +kernel
theorem dX4_tell_53 : decode cX4_tell 53 = .ok (.iadd, 1) := by decide +kernel
theorem dX4_tell_54 : decode cX4_tell 54 = .ok (.putfield 21, 3) := by decide +kernel
theorem dX4_tell_57 : decode cX4_tell 57 = .ok (.return_, 1) := by decide +kernel
theorem dX4_windKnown_0 : decode cX4_windKnown 0 = .ok (.iconst 0, 1) := by decide +kernel
theorem dX4_windKnown_1 : decode cX4_windKnown 1 = .ok (.istore_n 2, 1) := by decide +kernel
theorem dX4_windKnown_2 : decode cX4_windKnown 2 = .ok (.iconst (-1), 1) := by decide +kernel
theorem dX4_windKnown_3 : decode cX4_windKnown 3 = .ok (.istore_n 3, 1) := by decide +kernel
theorem dX4_windKnown_4 : decode cX4_windKnown 4 = .ok (.iconst 0, 1) := by decide +kernel
theorem dX4_windKnown_5 : decode cX4_windKnown 5 = .ok (.istore 4, 2) := by decide +kernel
theorem dX4_windKnown_7 : decode cX4_windKnown 7 = .ok (.iload 4, 2) := by decide +kernel
theorem dX4_windKnown_9 : decode cX4_windKnown 9 = .ok (.aload_n 0, 1) := by decide +kernel
theorem dX4_windKnown_10 : decode cX4_windKnown 10 = .ok (.getfield 21, 3) := by decide +kernel
theorem dX4_windKnown_13 : decode cX4_windKnown 13 = .ok (.if_icmp .ge 54, 3) := by decide +kernel
theorem dX4_windKnown_16 : decode cX4_windKnown 16 = .ok (.iload 4, 2) := by decide +kernel
theorem dX4_windKnown_18 : decode cX4_windKnown 18 = .ok (.bipush 20, 2) := by decide +kernel
theorem dX4_windKnown_20 : decode cX4_windKnown 20 = .ok (.if_icmp .ge 47, 3) := by decide +kernel
theorem dX4_windKnown_23 : decode cX4_windKnown 23 = .ok (.aload_n 0, 1) := by decide +kernel
theorem dX4_windKnown_24 : decode cX4_windKnown 24 = .ok (.getfield 18, 3) := by decide +kernel
theorem dX4_windKnown_27 : decode cX4_windKnown 27 = .ok (.iload 4, 2) := by decide +kernel
theorem dX4_windKnown_29 : decode cX4_windKnown 29 = .ok (.iaload, 1) := by decide +kernel
theorem dX4_windKnown_30 : decode cX4_windKnown 30 = .ok (.iload_n 1, 1) := by decide +kernel
theorem dX4_windKnown_31 : decode cX4_windKnown 31 = .ok (.if_icmp .gt 30, 3) := by decide +kernel
theorem dX4_windKnown_34 : decode cX4_windKnown 34 = .ok (.aload_n 0, 1) := by decide +kernel
theorem dX4_windKnown_35 : decode cX4_windKnown 35 = .ok (.getfield 15, 3) := by decide +kernel
theorem dX4_windKnown_38 : decode cX4_windKnown 38 = .ok (.iload 4, 2) := by decide +kernel
theorem dX4_windKnown_40 : decode cX4_windKnown 40 = .ok (.iaload, 1) := by decide +kernel
theorem dX4_windKnown_41 : decode cX4_windKnown 41 = .ok (.iload_n 3, 1) := by decide +kernel
theorem dX4_windKnown_42 : decode cX4_windKnown 42 = .ok (.if_icmp .lt 19, 3) := by decide +kernel
theorem dX4_windKnown_45 : decode cX4_windKnown 45 = .ok (.aload_n 0, 1) := by decide +kernel
theorem dX4_windKnown_46 : decode cX4_windKnown 46 = .ok (.getfield 15, 3) := by decide +kernel
theorem dX4_windKnown_49 : decode cX4_windKnown 49 = .ok (.iload 4, 2) := by decide +kernel
theorem dX4_windKnown_51 : decode cX4_windKnown 51 = .ok (.iaload, 1) := by decide +kernel
theorem dX4_windKnown_52 : decode cX4_windKnown 52 = .ok (.istore_n 3, 1) := by decide +kernel
theorem dX4_windKnown_53 : decode cX4_windKnown 53 = .ok (.aload_n 0, 1) := by decide +kernel
theorem dX4_windKnown_54 : decode cX4_windKnown 54 = .ok (.getfield 9, 3) := by decide +kernel
theorem dX4_windKnown_57 : decode cX4_windKnown 57 = .ok (.iload 4, 2) := by decide +kernel
theorem dX4_windKnown_59 : decode cX4_windKnown 59 = .ok (.iaload, 1) := by decide +kernel
theorem dX4_windKnown_60 : decode cX4_windKnown 60 = .ok (.istore_n 2, 1) := by decide +kernel
theorem dX4_windKnown_61 : decode cX4_windKnown 61 = .ok (.iinc 4 1, 3) := by decide +kernel
theorem dX4_windKnown_64 : decode cX4_windKnown 64 = .ok (.goto (-57), 3) := by decide +kernel
theorem dX4_windKnown_67 : decode cX4_windKnown 67 = .ok (.iload_n 2, 1) := by decide +kernel
theorem dX4_windKnown_68 : decode cX4_windKnown 68 = .ok (.ireturn, 1) := by decide +kernel
theorem dX5_init_0 : decode cX5_init 0 = .ok (.aload_n 0, 1) := by decide +kernel
theorem dX5_init_1 : decode cX5_init 1 = .ok (.invokespecial 3, 3) := by decide +kernel
theorem dX5_init_4 : decode cX5_init 4 = .ok (.aload_n 0, 1) := by decide +kernel
theorem dX5_init_5 : decode cX5_init 5 = .ok (.sipush 160, 3) := by decide +kernel
theorem dX5_init_8 : decode cX5_init 8 = .ok (.newarray .int, 2) := by decide +kernel
theorem dX5_init_10 : decode cX5_init 10 = .ok (.putfield 9, 3) := by decide +kernel
theorem dX5_init_13 : decode cX5_init 13 = .ok (.aload_n 0, 1) := by decide +kernel
theorem dX5_init_14 : decode cX5_init 14 = .ok (.sipush 160, 3) := by decide +kernel
theorem dX5_init_17 : decode cX5_init 17 = .ok (.newarray .int, 2) := by decide +kernel
theorem dX5_init_19 : decode cX5_init 19 = .ok (.putfield 15, 3) := by decide +kernel
theorem dX5_init_22 : decode cX5_init 22 = .ok (.aload_n 0, 1) := by decide +kernel
theorem dX5_init_23 : decode cX5_init 23 = .ok (.bipush 8, 2) := by decide +kernel
theorem dX5_init_25 : decode cX5_init 25 = .ok (.newarray .int, 2) := by decide +kernel
theorem dX5_init_27 : decode cX5_init 27 = .ok (.putfield 18, 3) := by decide +kernel
theorem dX5_init_30 : decode cX5_init 30 = .ok (.return_, 1) := by decide +kernel
theorem dX5_firstFault_0 : decode cX5_firstFault 0 = .ok (.iconst 0, 1) := by decide +kernel
theorem dX5_firstFault_1 : decode cX5_firstFault 1 = .ok (.istore_n 2, 1) := by decide +kernel
theorem dX5_firstFault_2 : decode cX5_firstFault 2 = .ok (.iconst 0, 1) := by decide +kernel
theorem dX5_firstFault_3 : decode cX5_firstFault 3 = .ok (.istore_n 3, 1) := by decide +kernel
theorem dX5_firstFault_4 : decode cX5_firstFault 4 = .ok (.aload_n 0, 1) := by decide +kernel
theorem dX5_firstFault_5 : decode cX5_firstFault 5 = .ok (.iconst 0, 1) := by decide +kernel
theorem dX5_firstFault_6 : decode cX5_firstFault 6 = .ok (.putfield 21, 3) := by decide +kernel
theorem dX5_firstFault_9 : decode cX5_firstFault 9 = .ok (.iload_n 2, 1) := by decide +kernel
theorem dX5_firstFault_10 : decode cX5_firstFault 10 = .ok (.aload_n 1, 1) := by decide +kernel
theorem dX5_firstFault_11 : decode cX5_firstFault 11 = .ok (.getfield 25, 3) := by decide +kernel
theorem dX5_firstFault_14 : decode cX5_firstFault 14 = .ok (.if_icmp .ge 122, 3) := by decide +kernel
theorem dX5_firstFault_17 : decode cX5_firstFault 17 = .ok (.aload_n 1, 1) := by decide +kernel
theorem dX5_firstFault_18 : decode cX5_firstFault 18 = .ok (.iload_n 2, 1) := by decide +kernel
theorem dX5_firstFault_19 : decode cX5_firstFault 19 = .ok (.invokevirtual 30, 3) := by decide +kernel
theorem dX5_firstFault_22 : decode cX5_firstFault 22 = .ok (.istore 4, 2) := by decide +kernel
theorem dX5_firstFault_24 : decode cX5_firstFault 24 = .ok (.iload 4, 2) := by decide +kernel
theorem dX5_firstFault_26 : decode cX5_firstFault 26 = .ok (.ifCond .ne 14, 3) := by decide +kernel
theorem dX5_firstFault_29 : decode cX5_firstFault 29 = .ok (.iload_n 3, 1) := by decide +kernel
theorem dX5_firstFault_30 : decode cX5_firstFault 30 = .ok (.iconst 1, 1) := by decide +kernel
theorem dX5_firstFault_31 : decode cX5_firstFault 31 = .ok (.if_icmp .ne 7, 3) := by decide +kernel
theorem dX5_firstFault_34 : decode cX5_firstFault 34 = .ok (.iconst (-1), 1) := by decide +kernel
theorem dX5_firstFault_35 : decode cX5_firstFault 35 = .ok (.goto 4, 3) := by decide +kernel
theorem dX5_firstFault_38 : decode cX5_firstFault 38 = .ok (.iload_n 2, 1) := by decide +kernel
theorem dX5_firstFault_39 : decode cX5_firstFault 39 = .ok (.ireturn, 1) := by decide +kernel
theorem dX5_firstFault_40 : decode cX5_firstFault 40 = .ok (.iload 4, 2) := by decide +kernel
theorem dX5_firstFault_42 : decode cX5_firstFault 42 = .ok (.ifCond .lt 19, 3) := by decide +kernel
theorem dX5_firstFault_45 : decode cX5_firstFault 45 = .ok (.iload 4, 2) := by decide +kernel
theorem dX5_firstFault_47 : decode cX5_firstFault 47 = .ok (.bipush 8, 2) := by decide +kernel
theorem dX5_firstFault_49 : decode cX5_firstFault 49 = .ok (.if_icmp .gt 12, 3) := by decide +kernel
theorem dX5_firstFault_52 : decode cX5_firstFault 52 = .ok (.iload_n 3, 1) := by decide +kernel
theorem dX5_firstFault_53 : decode cX5_firstFault 53 = .ok (.iload 4, 2) := by decide +kernel
theorem dX5_firstFault_55 : decode cX5_firstFault 55 = .ok (.invokestatic 34, 3) := by decide +kernel
theorem dX5_firstFault_58 : decode cX5_firstFault 58 = .ok (.if_icmp .ge 5, 3) := by decide +kernel
theorem dX5_firstFault_61 : decode cX5_firstFault 61 = .ok (.iload_n 2, 1) := by decide +kernel
theorem dX5_firstFault_62 : decode cX5_firstFault 62 = .ok (.ireturn, 1) := by decide +kernel
theorem dX5_firstFault_63 : decode cX5_firstFault 63 = .ok (.iload 4, 2) := by decide +kernel
theorem dX5_firstFault_65 : decode cX5_firstFault 65 = .ok (.iconst 5, 1) := by decide +kernel
theorem dX5_firstFault_66 : decode cX5_firstFault 66 = .ok (.if_icmp .gt 25, 3) := by decide +kernel
theorem dX5_firstFault_69 : decode cX5_firstFault 69 = .ok (.iload_n 2, 1) := by decide +kernel
theorem dX5_firstFault_70 : decode cX5_firstFault 70 = .ok (.iconst 1, 1) := by decide +kernel
theorem dX5_firstFault_71 : decode cX5_firstFault 71 = .ok (.iadd, 1) := by decide +kernel
theorem dX5_firstFault_72 : decode cX5_firstFault 72 = .ok (.aload_n 1, 1) := by decide +kernel
theorem dX5_firstFault_73 : decode cX5_firstFault 73 = .ok (.getfield 25, 3) := by decide +kernel
theorem dX5_firstFault_76 : decode cX5_firstFault 76 = .ok (.if_icmp .ge 13, 3) := by decide +kernel
theorem dX5_firstFault_79 : decode cX5_firstFault 79 = .ok (.aload_n 1, 1) := by decide +kernel
theorem dX5_firstFault_80 : decode cX5_firstFault 80 = .ok (.iload_n 2, 1) := by decide +kernel
theorem dX5_firstFault_81 : decode cX5_firstFault 81 = .ok (.iconst 1, 1) := by decide +kernel
theorem dX5_firstFault_82 : decode cX5_firstFault 82 = .ok (.iadd, 1) := by decide +kernel
theorem dX5_firstFault_83 : decode cX5_firstFault 83 = .ok (.invokevirtual 30, 3) := by decide +kernel
theorem dX5_firstFault_86 : decode cX5_firstFault 86 = .ok (.ifCond .ge 5, 3) := by decide +kernel
theorem dX5_firstFault_89 : decode cX5_firstFault 89 = .ok (.iload_n 2, 1) := by decide +kernel
theorem dX5_firstFault_90 : decode cX5_firstFault 90 = .ok (.ireturn, 1) := by decide +kernel
theorem dX5_firstFault_91 : decode cX5_firstFault 91 = .ok (.iload_n 3, 1) := by decide +kernel
theorem dX5_firstFault_92 : decode cX5_firstFault 92 = .ok (.iconst 1, 1) := by decide +kernel
theorem dX5_firstFault_93 : decode cX5_firstFault 93 = .ok (.iload 4, 2) := by decide +kernel
theorem dX5_firstFault_95 : decode cX5_firstFault 95 = .ok (.invokestatic 34, 3) := by decide +kernel
theorem dX5_firstFault_98 : decode cX5_firstFault 98 = .ok (.isub, 1) := by decide +kernel
theorem dX5_firstFault_99 : decode cX5_firstFault 99 = .ok (.iadd, 1) := by decide +kernel
theorem dX5_firstFault_100 : decode cX5_firstFault 100 = .ok (.istore_n 3, 1) := by decide +kernel
theorem dX5_firstFault_101 : decode cX5_firstFault 101 = .ok (.iload_n 3, 1) := by decide +kernel
theorem dX5_firstFault_102 : decode cX5_firstFault 102 = .ok (.bipush 8, 2) := by decide +kernel
theorem dX5_firstFault_104 : decode cX5_firstFault 104 = .ok (.if_icmp .le 5, 3) := by decide +kernel
theorem dX5_firstFault_107 : decode cX5_firstFault 107 = .ok (.iload_n 2, 1) := by decide +kernel
theorem dX5_firstFault_108 : decode cX5_firstFault 108 = .ok (.ireturn, 1) := by decide +kernel
theorem dX5_firstFault_109 : decode cX5_firstFault 109 = .ok (.iload_n 2, 1) := by decide +kernel
theorem dX5_firstFault_110 : decode cX5_firstFault 110 = .ok (.iload 4, 2) := by decide +kernel
theorem dX5_firstFault_112 : decode cX5_firstFault 112 = .ok (.iconst 5, 1) := by decide +kernel
theorem dX5_firstFault_113 : decode cX5_firstFault 113 = .ok (.if_icmp .gt 7, 3) := by decide +kernel
theorem dX5_firstFault_116 : decode cX5_firstFault 116 = .ok (.iconst 2, 1) := by decide +kernel
theorem dX5_firstFault_117 : decode cX5_firstFault 117 = .ok (.goto 4, 3) := by decide +kernel
theorem dX5_firstFault_120 : decode cX5_firstFault 120 = .ok (.iconst 1, 1) := by decide +kernel
theorem dX5_firstFault_121 : decode cX5_firstFault 121 = .ok (.iadd, 1) := by decide +kernel
theorem dX5_firstFault_122 : decode cX5_firstFault 122 = .ok (.istore_n 2, 1) := by decide +kernel
theorem dX5_firstFault_123 : decode cX5_firstFault 123 = .ok (.aload_n 0, 1) := by decide +kernel
theorem dX5_firstFault_124 : decode cX5_firstFault 124 = .ok (.dup, 1) := by decide +kernel
theorem dX5_firstFault_125 : decode cX5_firstFault 125 = .ok (.getfield 21, 3) := by decide +kernel
theorem dX5_firstFault_128 : decode cX5_firstFault 128 = .ok (.iconst 1, 1) := by decide +kernel
theorem dX5_firstFault_129 : decode cX5_firstFault 129 = .ok (.iadd, 1) := by decide +kernel
theorem dX5_firstFault_130 : decode cX5_firstFault 130 = .ok (.putfield 21, 3) := by decide +kernel
theorem dX5_firstFault_133 : decode cX5_firstFault 133 = .ok (.goto (-124), 3) := by decide +kernel
theorem dX5_firstFault_136 : decode cX5_firstFault 136 = .ok (.aload_n 1, 1) := by decide +kernel
theorem dX5_firstFault_137 : decode cX5_firstFault 137 = .ok (.getfield 25, 3) := by decide +kernel
theorem dX5_firstFault_140 : decode cX5_firstFault 140 = .ok (.ireturn, 1) := by decide +kernel
theorem dX5_takes_0 : decode cX5_takes 0 = .ok (.iload_n 0, 1) := by decide +kernel
theorem dX5_takes_1 : decode cX5_takes 1 = .ok (.iconst 5, 1) := by decide +kernel
theorem dX5_takes_2 : decode cX5_takes 2 = .ok (.if_icmp .gt 7, 3) := by decide +kernel
theorem dX5_takes_5 : decode cX5_takes 5 = .ok (.iconst 0, 1) := by decide +kernel
theorem dX5_takes_6 : decode cX5_takes 6 = .ok (.goto 14, 3) := by decide +kernel
theorem dX5_takes_9 : decode cX5_takes 9 = .ok (.iload_n 0, 1) := by decide +kernel
theorem dX5_takes_10 : decode cX5_takes 10 = .ok (.bipush 8, 2) := by decide +kernel
theorem dX5_takes_12 : decode cX5_takes 12 = .ok (.if_icmp .ne 7, 3) := by decide +kernel
theorem dX5_takes_15 : decode cX5_takes 15 = .ok (.iconst 1, 1) := by decide +kernel
theorem dX5_takes_16 : decode cX5_takes 16 = .ok (.goto 4, 3) := by decide +kernel
theorem dX5_takes_19 : decode cX5_takes 19 = .ok (.iconst 2, 1) := by decide +kernel
theorem dX5_takes_20 : decode cX5_takes 20 = .ok (.ireturn, 1) := by decide +kernel
theorem dX5_add_0 : decode cX5_add 0 = .ok (.aload_n 0, 1) := by decide +kernel
theorem dX5_add_1 : decode cX5_add 1 = .ok (.getfield 37, 3) := by decide +kernel
theorem dX5_add_4 : decode cX5_add 4 = .ok (.ifCond .lt 12, 3) := by decide +kernel
theorem dX5_add_7 : decode cX5_add 7 = .ok (.aload_n 0, 1) := by decide +kernel
theorem dX5_add_8 : decode cX5_add 8 = .ok (.getfield 37, 3) := by decide +kernel
theorem dX5_add_11 : decode cX5_add 11 = .ok (.bipush 8, 2) := by decide +kernel
theorem dX5_add_13 : decode cX5_add 13 = .ok (.if_icmp .lt 4, 3) := by decide +kernel
theorem dX5_add_16 : decode cX5_add 16 = .ok (.return_, 1) := by decide +kernel
theorem dX5_add_17 : decode cX5_add 17 = .ok (.iconst 0, 1) := by decide +kernel
theorem dX5_add_18 : decode cX5_add 18 = .ok (.istore_n 2, 1) := by decide +kernel
theorem dX5_add_19 : decode cX5_add 19 = .ok (.iconst 0, 1) := by decide +kernel
theorem dX5_add_20 : decode cX5_add 20 = .ok (.istore_n 3, 1) := by decide +kernel
theorem dX5_add_21 : decode cX5_add 21 = .ok (.iload_n 3, 1) := by decide +kernel
theorem dX5_add_22 : decode cX5_add 22 = .ok (.aload_n 0, 1) := by decide +kernel
theorem dX5_add_23 : decode cX5_add 23 = .ok (.getfield 21, 3) := by decide +kernel
theorem dX5_add_26 : decode cX5_add 26 = .ok (.if_icmp .ge 73, 3) := by decide +kernel
theorem dX5_add_29 : decode cX5_add 29 = .ok (.iload_n 3, 1) := by decide +kernel
theorem dX5_add_30 : decode cX5_add 30 = .ok (.bipush 20, 2) := by decide +kernel
theorem dX5_add_32 : decode cX5_add 32 = .ok (.if_icmp .ge 67, 3) := by decide +kernel
theorem dX5_add_35 : decode cX5_add 35 = .ok (.aload_n 1, 1) := by decide +kernel
theorem dX5_add_36 : decode cX5_add 36 = .ok (.iload_n 2, 1) := by decide +kernel
theorem dX5_add_37 : decode cX5_add 37 = .ok (.invokevirtual 30, 3) := by decide +kernel
theorem dX5_add_40 : decode cX5_add 40 = .ok (.istore 4, 2) := by decide +kernel
theorem dX5_add_42 : decode cX5_add 42 = .ok (.aload_n 0, 1) := by decide +kernel
theorem dX5_add_43 : decode cX5_add 43 = .ok (.getfield 9, 3) := by decide +kernel
theorem dX5_add_46 : decode cX5_add 46 = .ok (.aload_n 0, 1) := by decide +kernel
theorem dX5_add_47 : decode cX5_add 47 = .ok (.getfield 37, 3) := by decide +kernel
theorem dX5_add_50 : decode cX5_add 50 = .ok (.bipush 20, 2) := by decide +kernel
theorem dX5_add_52 : decode cX5_add 52 = .ok (.imul, 1) := by decide +kernel
theorem dX5_add_53 : decode cX5_add 53 = .ok (.iload_n 3, 1) := by decide +kernel
theorem dX5_add_54 : decode cX5_add 54 = .ok (.iadd, 1) := by decide +kernel
theorem dX5_add_55 : decode cX5_add 55 = .ok (.iload 4, 2) := by decide +kernel
theorem dX5_add_57 : decode cX5_add 57 = .ok (.iastore, 1) := by decide +kernel
theorem dX5_add_58 : decode cX5_add 58 = .ok (.aload_n 0, 1) := by decide +kernel
theorem dX5_add_59 : decode cX5_add 59 = .ok (.getfield 15, 3) := by decide +kernel
theorem dX5_add_62 : decode cX5_add 62 = .ok (.aload_n 0, 1) := by decide +kernel
theorem dX5_add_63 : decode cX5_add 63 = .ok (.getfield 37, 3) := by decide +kernel
theorem dX5_add_66 : decode cX5_add 66 = .ok (.bipush 20, 2) := by decide +kernel
theorem dX5_add_68 : decode cX5_add 68 = .ok (.imul, 1) := by decide +kernel
theorem dX5_add_69 : decode cX5_add 69 = .ok (.iload_n 3, 1) := by decide +kernel
theorem dX5_add_70 : decode cX5_add 70 = .ok (.iadd, 1) := by decide +kernel
theorem dX5_add_71 : decode cX5_add 71 = .ok (.aload_n 1, 1) := by decide +kernel
theorem dX5_add_72 : decode cX5_add 72 = .ok (.iload_n 2, 1) := by decide +kernel
theorem dX5_add_73 : decode cX5_add 73 = .ok (.iconst 1, 1) := by decide +kernel
theorem dX5_add_74 : decode cX5_add 74 = .ok (.iadd, 1) := by decide +kernel
theorem dX5_add_75 : decode cX5_add 75 = .ok (.invokevirtual 30, 3) := by decide +kernel
theorem dX5_add_78 : decode cX5_add 78 = .ok (.iastore, 1) := by decide +kernel
theorem dX5_add_79 : decode cX5_add 79 = .ok (.iload_n 2, 1) := by decide +kernel
theorem dX5_add_80 : decode cX5_add 80 = .ok (.iload 4, 2) := by decide +kernel
theorem dX5_add_82 : decode cX5_add 82 = .ok (.iconst 5, 1) := by decide +kernel
theorem dX5_add_83 : decode cX5_add 83 = .ok (.if_icmp .gt 7, 3) := by decide +kernel
theorem dX5_add_86 : decode cX5_add 86 = .ok (.iconst 2, 1) := by decide +kernel
theorem dX5_add_87 : decode cX5_add 87 = .ok (.goto 4, 3) := by decide +kernel
theorem dX5_add_90 : decode cX5_add 90 = .ok (.iconst 1, 1) := by decide +kernel
theorem dX5_add_91 : decode cX5_add 91 = .ok (.iadd, 1) := by decide +kernel
theorem dX5_add_92 : decode cX5_add 92 = .ok (.istore_n 2, 1) := by decide +kernel
theorem dX5_add_93 : decode cX5_add 93 = .ok (.iinc 3 1, 3) := by decide +kernel
theorem dX5_add_96 : decode cX5_add 96 = .ok (.goto (-75), 3) := by decide +kernel
theorem dX5_add_99 : decode cX5_add 99 = .ok (.aload_n 0, 1) := by decide +kernel
theorem dX5_add_100 : decode cX5_add 100 = .ok (.getfield 18, 3) := by decide +kernel
theorem dX5_add_103 : decode cX5_add 103 = .ok (.aload_n 0, 1) := by decide +kernel
theorem dX5_add_104 : decode cX5_add 104 = .ok (.getfield 37, 3) := by decide +kernel
theorem dX5_add_107 : decode cX5_add 107 = .ok (.iload_n 3, 1) := by decide +kernel
theorem dX5_add_108 : decode cX5_add 108 = .ok (.iastore, 1) := by decide +kernel
theorem dX5_add_109 : decode cX5_add 109 = .ok (.aload_n 0, 1) := by decide +kernel
theorem dX5_add_110 : decode cX5_add 110 = .ok (.dup, 1) := by decide +kernel
theorem dX5_add_111 : decode cX5_add 111 = .ok (.getfield 37, 3) := by decide +kernel
theorem dX5_add_114 : decode cX5_add 114 = .ok (.iconst 1, 1) := by decide +kernel
theorem dX5_add_115 : decode cX5_add 115 = .ok (.iadd, 1) := by decide +kernel
theorem dX5_add_116 : decode cX5_add 116 = .ok (.putfield 37, 3) := by decide +kernel
theorem dX5_add_119 : decode cX5_add 119 = .ok (.return_, 1) := by decide +kernel
theorem dX5_anyHolds_0 : decode cX5_anyHolds 0 = .ok (.iconst 0, 1) := by decide +kernel
theorem dX5_anyHolds_1 : decode cX5_anyHolds 1 = .ok (.istore 6, 2) := by decide +kernel
theorem dX5_anyHolds_3 : decode cX5_anyHolds 3 = .ok (.iload 6, 2) := by decide +kernel
theorem dX5_anyHolds_5 : decode cX5_anyHolds 5 = .ok (.aload_n 0, 1) := by decide +kernel
theorem dX5_anyHolds_6 : decode cX5_anyHolds 6 = .ok (.getfield 37, 3) := by decide +kernel
theorem dX5_anyHolds_9 : decode cX5_anyHolds 9 = .ok (.if_icmp .ge 34, 3) := by decide +kernel
theorem dX5_anyHolds_12 : decode cX5_anyHolds 12 = .ok (.iload 6, 2) := by decide +kernel
theorem dX5_anyHolds_14 : decode cX5_anyHolds 14 = .ok (.bipush 8, 2) := by decide +kernel
theorem dX5_anyHolds_16 : decode cX5_anyHolds 16 = .ok (.if_icmp .ge 27, 3) := by decide +kernel
theorem dX5_anyHolds_19 : decode cX5_anyHolds 19 = .ok (.aload_n 0, 1) := by decide +kernel
theorem dX5_anyHolds_20 : decode cX5_anyHolds 20 = .ok (.iload 6, 2) := by decide +kernel
theorem dX5_anyHolds_22 : decode cX5_anyHolds 22 = .ok (.aload_n 1, 1) := by decide +kernel
theorem dX5_anyHolds_23 : decode cX5_anyHolds 23 = .ok (.iload_n 2, 1) := by decide +kernel
theorem dX5_anyHolds_24 : decode cX5_anyHolds 24 = .ok (.iload_n 3, 1) := by decide +kernel
theorem dX5_anyHolds_25 : decode cX5_anyHolds 25 = .ok (.iload 4, 2) := by decide +kernel
theorem dX5_anyHolds_27 : decode cX5_anyHolds 27 = .ok (.iload 5, 2) := by decide +kernel
theorem dX5_anyHolds_29 : decode cX5_anyHolds 29 = .ok (.invokevirtual 40, 3) := by decide +kernel
theorem dX5_anyHolds_32 : decode cX5_anyHolds 32 = .ok (.ifCond .eq 5, 3) := by decide +kernel
theorem dX5_anyHolds_35 : decode cX5_anyHolds 35 = .ok (.iconst 1, 1) := by decide +kernel
theorem dX5_anyHolds_36 : decode cX5_anyHolds 36 = .ok (.ireturn, 1) := by decide +kernel
theorem dX5_anyHolds_37 : decode cX5_anyHolds 37 = .ok (.iinc 6 1, 3) := by decide +kernel
theorem dX5_anyHolds_40 : decode cX5_anyHolds 40 = .ok (.goto (-37), 3) := by decide +kernel
theorem dX5_anyHolds_43 : decode cX5_anyHolds 43 = .ok (.iconst 0, 1) := by decide +kernel
theorem dX5_anyHolds_44 : decode cX5_anyHolds 44 = .ok (.ireturn, 1) := by decide +kernel
theorem dX5_doesHold_0 : decode cX5_doesHold 0 = .ok (.iload_n 1, 1) := by decide +kernel
theorem dX5_doesHold_1 : decode cX5_doesHold 1 = .ok (.ifCond .lt 9, 3) := by decide +kernel
theorem dX5_doesHold_4 : decode cX5_doesHold 4 = .ok (.iload_n 1, 1) := by decide +kernel
theorem dX5_doesHold_5 : decode cX5_doesHold 5 = .ok (.bipush 8, 2) := by decide +kernel
theorem dX5_doesHold_7 : decode cX5_doesHold 7 = .ok (.if_icmp .lt 5, 3) := by decide +kernel
theorem dX5_doesHold_10 : decode cX5_doesHold 10 = .ok (.iconst 0, 1) := by decide +kernel
theorem dX5_doesHold_11 : decode cX5_doesHold 11 = .ok (.ireturn, 1) := by decide +kernel
theorem dX5_doesHold_12 : decode cX5_doesHold 12 = .ok (.iconst 0, 1) := by decide +kernel
theorem dX5_doesHold_13 : decode cX5_doesHold 13 = .ok (.istore 7, 2) := by decide +kernel
theorem dX5_doesHold_15 : decode cX5_doesHold 15 = .ok (.iconst 0, 1) := by decide +kernel
theorem dX5_doesHold_16 : decode cX5_doesHold 16 = .ok (.istore 8, 2) := by decide +kernel
theorem dX5_doesHold_18 : decode cX5_doesHold 18 = .ok (.iload 8, 2) := by decide +kernel
theorem dX5_doesHold_20 : decode cX5_doesHold 20 = .ok (.aload_n 0, 1) := by decide +kernel
theorem dX5_doesHold_21 : decode cX5_doesHold 21 = .ok (.getfield 18, 3) := by decide +kernel
theorem dX5_doesHold_24 : decode cX5_doesHold 24 = .ok (.iload_n 1, 1) := by decide +kernel
theorem dX5_doesHold_25 : decode cX5_doesHold 25 = .ok (.iaload, 1) := by decide +kernel
theorem dX5_doesHold_26 : decode cX5_doesHold 26 = .ok (.if_icmp .ge 258, 3) := by decide +kernel
theorem dX5_doesHold_29 : decode cX5_doesHold 29 = .ok (.iload 8, 2) := by decide +kernel
theorem dX5_doesHold_31 : decode cX5_doesHold 31 = .ok (.bipush 20, 2) := by decide +kernel
theorem dX5_doesHold_33 : decode cX5_doesHold 33 = .ok (.if_icmp .ge 251, 3) := by decide +kernel
theorem dX5_doesHold_36 : decode cX5_doesHold 36 = .ok (.aload_n 0, 1) := by decide +kernel
theorem dX5_doesHold_37 : decode cX5_doesHold 37 = .ok (.getfield 15, 3) := by decide +kernel
theorem dX5_doesHold_40 : decode cX5_doesHold 40 = .ok (.iload_n 1, 1) := by decide +kernel
theorem dX5_doesHold_41 : decode cX5_doesHold 41 = .ok (.bipush 20, 2) := by decide +kernel
theorem dX5_doesHold_43 : decode cX5_doesHold 43 = .ok (.imul, 1) := by decide +kernel
theorem dX5_doesHold_44 : decode cX5_doesHold 44 = .ok (.iload 8, 2) := by decide +kernel
theorem dX5_doesHold_46 : decode cX5_doesHold 46 = .ok (.iadd, 1) := by decide +kernel
theorem dX5_doesHold_47 : decode cX5_doesHold 47 = .ok (.iaload, 1) := by decide +kernel
theorem dX5_doesHold_48 : decode cX5_doesHold 48 = .ok (.istore 9, 2) := by decide +kernel
theorem dX5_doesHold_50 : decode cX5_doesHold 50 = .ok (.aload_n 0, 1) := by decide +kernel
theorem dX5_doesHold_51 : decode cX5_doesHold 51 = .ok (.getfield 9, 3) := by decide +kernel
theorem dX5_doesHold_54 : decode cX5_doesHold 54 = .ok (.iload_n 1, 1) := by decide +kernel
theorem dX5_doesHold_55 : decode cX5_doesHold 55 = .ok (.bipush 20, 2) := by decide +kernel
theorem dX5_doesHold_57 : decode cX5_doesHold 57 = .ok (.imul, 1) := by decide +kernel
theorem dX5_doesHold_58 : decode cX5_doesHold 58 = .ok (.iload 8, 2) := by decide +kernel
theorem dX5_doesHold_60 : decode cX5_doesHold 60 = .ok (.iadd, 1) := by decide +kernel
theorem dX5_doesHold_61 : decode cX5_doesHold 61 = .ok (.iaload, 1) := by decide +kernel
theorem dX5_doesHold_62 : decode cX5_doesHold 62 = .ok (.tableswitch 210 1 7 #[42, 67, 89, 111, 136, 161, 186], 42) := by decide +kernel
theorem dX5_doesHold_104 : decode cX5_doesHold 104 = .ok (.iload 7, 2) := by decide +kernel
theorem dX5_doesHold_106 : decode cX5_doesHold 106 = .ok (.iload 4, 2) := by decide +kernel
theorem dX5_doesHold_108 : decode cX5_doesHold 108 = .ok (.bipush 10, 2) := by decide +kernel
theorem dX5_doesHold_110 : decode cX5_doesHold 110 = .ok (.iload 9, 2) := by decide +kernel
theorem dX5_doesHold_112 : decode cX5_doesHold 112 = .ok (.imul, 1) := by decide +kernel
theorem dX5_doesHold_113 : decode cX5_doesHold 113 = .ok (.if_icmp .lt 7, 3) := by decide +kernel
theorem dX5_doesHold_116 : decode cX5_doesHold 116 = .ok (.iconst 1, 1) := by decide +kernel
theorem dX5_doesHold_117 : decode cX5_doesHold 117 = .ok (.goto 4, 3) := by decide +kernel
theorem dX5_doesHold_120 : decode cX5_doesHold 120 = .ok (.iconst 0, 1) := by decide +kernel
theorem dX5_doesHold_121 : decode cX5_doesHold 121 = .ok (.invokestatic 44, 3) := by decide +kernel
theorem dX5_doesHold_124 : decode cX5_doesHold 124 = .ok (.istore 7, 2) := by decide +kernel
theorem dX5_doesHold_126 : decode cX5_doesHold 126 = .ok (.goto 152, 3) := by decide +kernel
theorem dX5_doesHold_129 : decode cX5_doesHold 129 = .ok (.iload 7, 2) := by decide +kernel
theorem dX5_doesHold_131 : decode cX5_doesHold 131 = .ok (.iload 6, 2) := by decide +kernel
theorem dX5_doesHold_133 : decode cX5_doesHold 133 = .ok (.iload 9, 2) := by decide +kernel
theorem dX5_doesHold_135 : decode cX5_doesHold 135 = .ok (.if_icmp .lt 7, 3) := by decide +kernel
theorem dX5_doesHold_138 : decode cX5_doesHold 138 = .ok (.iconst 1, 1) := by decide +kernel
theorem dX5_doesHold_139 : decode cX5_doesHold 139 = .ok (.goto 4, 3) := by decide +kernel
theorem dX5_doesHold_142 : decode cX5_doesHold 142 = .ok (.iconst 0, 1) := by decide +kernel
theorem dX5_doesHold_143 : decode cX5_doesHold 143 = .ok (.invokestatic 44, 3) := by decide +kernel
theorem dX5_doesHold_146 : decode cX5_doesHold 146 = .ok (.istore 7, 2) := by decide +kernel
theorem dX5_doesHold_148 : decode cX5_doesHold 148 = .ok (.goto 130, 3) := by decide +kernel
theorem dX5_doesHold_151 : decode cX5_doesHold 151 = .ok (.iload 7, 2) := by decide +kernel
theorem dX5_doesHold_153 : decode cX5_doesHold 153 = .ok (.iload 5, 2) := by decide +kernel
theorem dX5_doesHold_155 : decode cX5_doesHold 155 = .ok (.iload 9, 2) := by decide +kernel
theorem dX5_doesHold_157 : decode cX5_doesHold 157 = .ok (.if_icmp .ne 7, 3) := by decide +kernel
theorem dX5_doesHold_160 : decode cX5_doesHold 160 = .ok (.iconst 1, 1) := by decide +kernel
theorem dX5_doesHold_161 : decode cX5_doesHold 161 = .ok (.goto 4, 3) := by decide +kernel
theorem dX5_doesHold_164 : decode cX5_doesHold 164 = .ok (.iconst 0, 1) := by decide +kernel
theorem dX5_doesHold_165 : decode cX5_doesHold 165 = .ok (.invokestatic 44, 3) := by decide +kernel
theorem dX5_doesHold_168 : decode cX5_doesHold 168 = .ok (.istore 7, 2) := by decide +kernel
theorem dX5_doesHold_170 : decode cX5_doesHold 170 = .ok (.goto 108, 3) := by decide +kernel
theorem dX5_doesHold_173 : decode cX5_doesHold 173 = .ok (.iload 7, 2) := by decide +kernel
theorem dX5_doesHold_175 : decode cX5_doesHold 175 = .ok (.aload_n 2, 1) := by decide +kernel
theorem dX5_doesHold_176 : decode cX5_doesHold 176 = .ok (.iload_n 3, 1) := by decide +kernel
theorem dX5_doesHold_177 : decode cX5_doesHold 177 = .ok (.invokevirtual 48, 3) := by decide +kernel
theorem dX5_doesHold_180 : decode cX5_doesHold 180 = .ok (.iload 9, 2) := by decide +kernel
theorem dX5_doesHold_182 : decode cX5_doesHold 182 = .ok (.if_icmp .ne 7, 3) := by decide +kernel
theorem dX5_doesHold_185 : decode cX5_doesHold 185 = .ok (.iconst 1, 1) := by decide +kernel
theorem dX5_doesHold_186 : decode cX5_doesHold 186 = .ok (.goto 4, 3) := by decide +kernel
theorem dX5_doesHold_189 : decode cX5_doesHold 189 = .ok (.iconst 0, 1) := by decide +kernel
theorem dX5_doesHold_190 : decode cX5_doesHold 190 = .ok (.invokestatic 44, 3) := by decide +kernel
theorem dX5_doesHold_193 : decode cX5_doesHold 193 = .ok (.istore 7, 2) := by decide +kernel
theorem dX5_doesHold_195 : decode cX5_doesHold 195 = .ok (.goto 83, 3) := by decide +kernel
theorem dX5_doesHold_198 : decode cX5_doesHold 198 = .ok (.iload 7, 2) := by decide +kernel
theorem dX5_doesHold_200 : decode cX5_doesHold 200 = .ok (.aload_n 2, 1) := by decide +kernel
theorem dX5_doesHold_201 : decode cX5_doesHold 201 = .ok (.iload_n 3, 1) := by decide +kernel
theorem dX5_doesHold_202 : decode cX5_doesHold 202 = .ok (.invokevirtual 53, 3) := by decide +kernel
theorem dX5_doesHold_205 : decode cX5_doesHold 205 = .ok (.iload 9, 2) := by decide +kernel
theorem dX5_doesHold_207 : decode cX5_doesHold 207 = .ok (.if_icmp .ne 7, 3) := by decide +kernel
theorem dX5_doesHold_210 : decode cX5_doesHold 210 = .ok (.iconst 1, 1) := by decide +kernel
theorem dX5_doesHold_211 : decode cX5_doesHold 211 = .ok (.goto 4, 3) := by decide +kernel
theorem dX5_doesHold_214 : decode cX5_doesHold 214 = .ok (.iconst 0, 1) := by decide +kernel
theorem dX5_doesHold_215 : decode cX5_doesHold 215 = .ok (.invokestatic 44, 3) := by decide +kernel
theorem dX5_doesHold_218 : decode cX5_doesHold 218 = .ok (.istore 7, 2) := by decide +kernel
theorem dX5_doesHold_220 : decode cX5_doesHold 220 = .ok (.goto 58, 3) := by decide +kernel
theorem dX5_doesHold_223 : decode cX5_doesHold 223 = .ok (.iload 7, 2) := by decide +kernel
theorem dX5_doesHold_225 : decode cX5_doesHold 225 = .ok (.iconst 2, 1) := by decide +kernel
theorem dX5_doesHold_226 : decode cX5_doesHold 226 = .ok (.ishr, 1) := by decide +kernel
theorem dX5_doesHold_227 : decode cX5_doesHold 227 = .ok (.iload 7, 2) := by decide +kernel
theorem dX5_doesHold_229 : decode cX5_doesHold 229 = .ok (.iconst 3, 1) := by decide +kernel
theorem dX5_doesHold_230 : decode cX5_doesHold 230 = .ok (.iand, 1) := by decide +kernel
theorem dX5_doesHold_231 : decode cX5_doesHold 231 = .ok (.iconst 3, 1) := by decide +kernel
theorem dX5_doesHold_232 : decode cX5_doesHold 232 = .ok (.if_icmp .ne 7, 3) := by decide +kernel
theorem dX5_doesHold_235 : decode cX5_doesHold 235 = .ok (.iconst 1, 1) := by decide +kernel
theorem dX5_doesHold_236 : decode cX5_doesHold 236 = .ok (.goto 4, 3) := by decide +kernel
theorem dX5_doesHold_239 : decode cX5_doesHold 239 = .ok (.iconst 0, 1) := by decide +kernel
theorem dX5_doesHold_240 : decode cX5_doesHold 240 = .ok (.invokestatic 44, 3) := by decide +kernel
theorem dX5_doesHold_243 : decode cX5_doesHold 243 = .ok (.istore 7, 2) := by decide +kernel
theorem dX5_doesHold_245 : decode cX5_doesHold 245 = .ok (.goto 33, 3) := by decide +kernel
theorem dX5_doesHold_248 : decode cX5_doesHold 248 = .ok (.iload 7, 2) := by decide +kernel
theorem dX5_doesHold_250 : decode cX5_doesHold 250 = .ok (.iconst 2, 1) := by decide +kernel
theorem dX5_doesHold_251 : decode cX5_doesHold 251 = .ok (.ishr, 1) := by decide +kernel
theorem dX5_doesHold_252 : decode cX5_doesHold 252 = .ok (.iload 7, 2) := by decide +kernel
theorem dX5_doesHold_254 : decode cX5_doesHold 254 = .ok (.iconst 3, 1) := by decide +kernel
theorem dX5_doesHold_255 : decode cX5_doesHold 255 = .ok (.iand, 1) := by decide +kernel
theorem dX5_doesHold_256 : decode cX5_doesHold 256 = .ok (.ifCond .eq 7, 3) := by decide +kernel
theorem dX5_doesHold_259 : decode cX5_doesHold 259 = .ok (.iconst 1, 1) := by decide +kernel
theorem dX5_doesHold_260 : decode cX5_doesHold 260 = .ok (.goto 4, 3) := by decide +kernel
theorem dX5_doesHold_263 : decode cX5_doesHold 263 = .ok (.iconst 0, 1) := by decide +kernel
theorem dX5_doesHold_264 : decode cX5_doesHold 264 = .ok (.invokestatic 44, 3) := by decide +kernel
theorem dX5_doesHold_267 : decode cX5_doesHold 267 = .ok (.istore 7, 2) := by decide +kernel
theorem dX5_doesHold_269 : decode cX5_doesHold 269 = .ok (.goto 9, 3) := by decide +kernel
theorem dX5_doesHold_272 : decode cX5_doesHold 272 = .ok (.iload 7, 2) := by decide +kernel
theorem dX5_doesHold_274 : decode cX5_doesHold 274 = .ok (.iconst 1, 1) := by decide +kernel
theorem dX5_doesHold_275 : decode cX5_doesHold 275 = .ok (.ixor, 1) := by decide +kernel
theorem dX5_doesHold_276 : decode cX5_doesHold 276 = .ok (.istore 7, 2) := by decide +kernel
theorem dX5_doesHold_278 : decode cX5_doesHold 278 = .ok (.iinc 8 1, 3) := by decide +kernel
theorem dX5_doesHold_281 : decode cX5_doesHold 281 = .ok (.goto (-263), 3) := by decide +kernel
theorem dX5_doesHold_284 : decode cX5_doesHold 284 = .ok (.iload 7, 2) := by decide +kernel
theorem dX5_doesHold_286 : decode cX5_doesHold 286 = .ok (.iconst 1, 1) := by decide +kernel
theorem dX5_doesHold_287 : decode cX5_doesHold 287 = .ok (.iand, 1) := by decide +kernel
theorem dX5_doesHold_288 : decode cX5_doesHold 288 = .ok (.iconst 1, 1) := by decide +kernel
theorem dX5_doesHold_289 : decode cX5_doesHold 289 = .ok (.if_icmp .ne 7, 3) := by decide +kernel
theorem dX5_doesHold_292 : decode cX5_doesHold 292 = .ok (.iconst 1, 1) := by decide +kernel
theorem dX5_doesHold_293 : decode cX5_doesHold 293 = .ok (.goto 4, 3) := by decide +kernel
theorem dX5_doesHold_296 : decode cX5_doesHold 296 = .ok (.iconst 0, 1) := by decide +kernel
theorem dX5_doesHold_297 : decode cX5_doesHold 297 = .ok (.ireturn, 1) := by decide +kernel
theorem dX5_pushed_0 : decode cX5_pushed 0 = .ok (.iload_n 0, 1) := by decide +kernel
theorem dX5_pushed_1 : decode cX5_pushed 1 = .ok (.iconst 1, 1) := by decide +kernel
theorem dX5_pushed_2 : decode cX5_pushed 2 = .ok (.ishl, 1) := by decide +kernel
theorem dX5_pushed_3 : decode cX5_pushed 3 = .ok (.iload_n 1, 1) := by decide +kernel
theorem dX5_pushed_4 : decode cX5_pushed 4 = .ok (.ifCond .eq 7, 3) := by decide +kernel
theorem dX5_pushed_7 : decode cX5_pushed 7 = .ok (.iconst 1, 1) := by decide +kernel
theorem dX5_pushed_8 : decode cX5_pushed 8 = .ok (.goto 4, 3) := by decide +kernel
theorem dX5_pushed_11 : decode cX5_pushed 11 = .ok (.iconst 0, 1) := by decide +kernel
theorem dX5_pushed_12 : decode cX5_pushed 12 = .ok (.ior, 1) := by decide +kernel
theorem dX5_pushed_13 : decode cX5_pushed 13 = .ok (.ireturn, 1) := by decide +kernel
theorem dX6_init_0 : decode cX6_init 0 = .ok (.aload_n 0, 1) := by decide +kernel
theorem dX6_init_1 : decode cX6_init 1 = .ok (.invokespecial 3, 3) := by decide +kernel
theorem dX6_init_4 : decode cX6_init 4 = .ok (.aload_n 0, 1) := by decide +kernel
theorem dX6_init_5 : decode cX6_init 5 = .ok (.new 9, 3) := by decide +kernel
theorem dX6_init_8 : decode cX6_init 8 = .ok (.dup, 1) := by decide +kernel
theorem dX6_init_9 : decode cX6_init 9 = .ok (.invokespecial 11, 3) := by decide +kernel
theorem dX6_init_12 : decode cX6_init 12 = .ok (.putfield 12, 3) := by decide +kernel
theorem dX6_init_15 : decode cX6_init 15 = .ok (.aload_n 0, 1) := by decide +kernel
theorem dX6_init_16 : decode cX6_init 16 = .ok (.iconst 3, 1) := by decide +kernel
theorem dX6_init_17 : decode cX6_init 17 = .ok (.newarray .int, 2) := by decide +kernel
theorem dX6_init_19 : decode cX6_init 19 = .ok (.putfield 18, 3) := by decide +kernel
theorem dX6_init_22 : decode cX6_init 22 = .ok (.aload_n 0, 1) := by decide +kernel
theorem dX6_init_23 : decode cX6_init 23 = .ok (.iconst 3, 1) := by decide +kernel
theorem dX6_init_24 : decode cX6_init 24 = .ok (.newarray .int, 2) := by decide +kernel
theorem dX6_init_26 : decode cX6_init 26 = .ok (.putfield 22, 3) := by decide +kernel
theorem dX6_init_29 : decode cX6_init 29 = .ok (.aload_n 0, 1) := by decide +kernel
theorem dX6_init_30 : decode cX6_init 30 = .ok (.aload_n 1, 1) := by decide +kernel
theorem dX6_init_31 : decode cX6_init 31 = .ok (.putfield 25, 3) := by decide +kernel
theorem dX6_init_34 : decode cX6_init 34 = .ok (.return_, 1) := by decide +kernel
theorem dX6_firstFault_0 : decode cX6_firstFault 0 = .ok (.aload_n 0, 1) := by decide +kernel
theorem dX6_firstFault_1 : decode cX6_firstFault 1 = .ok (.getfield 12, 3) := by decide +kernel
theorem dX6_firstFault_4 : decode cX6_firstFault 4 = .ok (.iconst 0, 1) := by decide +kernel
theorem dX6_firstFault_5 : decode cX6_firstFault 5 = .ok (.putfield 29, 3) := by decide +kernel
theorem dX6_firstFault_8 : decode cX6_firstFault 8 = .ok (.aload_n 0, 1) := by decide +kernel
theorem dX6_firstFault_9 : decode cX6_firstFault 9 = .ok (.iconst 0, 1) := by decide +kernel
theorem dX6_firstFault_10 : decode cX6_firstFault 10 = .ok (.putfield 33, 3) := by decide +kernel
theorem dX6_firstFault_13 : decode cX6_firstFault 13 = .ok (.aload_n 0, 1) := by decide +kernel
theorem dX6_firstFault_14 : decode cX6_firstFault 14 = .ok (.iconst 0, 1) := by decide +kernel
theorem dX6_firstFault_15 : decode cX6_firstFault 15 = .ok (.putfield 36, 3) := by decide +kernel
theorem dX6_firstFault_18 : decode cX6_firstFault 18 = .ok (.aload_n 0, 1) := by decide +kernel
theorem dX6_firstFault_19 : decode cX6_firstFault 19 = .ok (.bipush 10, 2) := by decide +kernel
theorem dX6_firstFault_21 : decode cX6_firstFault 21 = .ok (.putfield 39, 3) := by decide +kernel
theorem dX6_firstFault_24 : decode cX6_firstFault 24 = .ok (.iconst 0, 1) := by decide +kernel
theorem dX6_firstFault_25 : decode cX6_firstFault 25 = .ok (.istore_n 2, 1) := by decide +kernel
theorem dX6_firstFault_26 : decode cX6_firstFault 26 = .ok (.iconst 0, 1) := by decide +kernel
theorem dX6_firstFault_27 : decode cX6_firstFault 27 = .ok (.istore_n 3, 1) := by decide +kernel
theorem dX6_firstFault_28 : decode cX6_firstFault 28 = .ok (.iload_n 3, 1) := by decide +kernel
theorem dX6_firstFault_29 : decode cX6_firstFault 29 = .ok (.ldc 42, 2) := by decide +kernel
theorem dX6_firstFault_31 : decode cX6_firstFault 31 = .ok (.if_icmp .ge 37, 3) := by decide +kernel
theorem dX6_firstFault_34 : decode cX6_firstFault 34 = .ok (.aload_n 0, 1) := by decide +kernel
theorem dX6_firstFault_35 : decode cX6_firstFault 35 = .ok (.aload_n 1, 1) := by decide +kernel
theorem dX6_firstFault_36 : decode cX6_firstFault 36 = .ok (.iload_n 2, 1) := by decide +kernel
theorem dX6_firstFault_37 : decode cX6_firstFault 37 = .ok (.invokevirtual 43, 3) := by decide +kernel
theorem dX6_firstFault_40 : decode cX6_firstFault 40 = .ok (.istore 4, 2) := by decide +kernel
theorem dX6_firstFault_42 : decode cX6_firstFault 42 = .ok (.iload 4, 2) := by decide +kernel
theorem dX6_firstFault_44 : decode cX6_firstFault 44 = .ok (.iconst (-1), 1) := by decide +kernel
theorem dX6_firstFault_45 : decode cX6_firstFault 45 = .ok (.if_icmp .ne 5, 3) := by decide +kernel
theorem dX6_firstFault_48 : decode cX6_firstFault 48 = .ok (.iconst (-1), 1) := by decide +kernel
theorem dX6_firstFault_49 : decode cX6_firstFault 49 = .ok (.ireturn, 1) := by decide +kernel
theorem dX6_firstFault_50 : decode cX6_firstFault 50 = .ok (.iload 4, 2) := by decide +kernel
theorem dX6_firstFault_52 : decode cX6_firstFault 52 = .ok (.bipush (-2), 2) := by decide +kernel
theorem dX6_firstFault_54 : decode cX6_firstFault 54 = .ok (.if_icmp .ne 5, 3) := by decide +kernel
theorem dX6_firstFault_57 : decode cX6_firstFault 57 = .ok (.iload_n 2, 1) := by decide +kernel
theorem dX6_firstFault_58 : decode cX6_firstFault 58 = .ok (.ireturn, 1) := by decide +kernel
theorem dX6_firstFault_59 : decode cX6_firstFault 59 = .ok (.iload 4, 2) := by decide +kernel
theorem dX6_firstFault_61 : decode cX6_firstFault 61 = .ok (.istore_n 2, 1) := by decide +kernel
theorem dX6_firstFault_62 : decode cX6_firstFault 62 = .ok (.iinc 3 1, 3) := by decide +kernel
theorem dX6_firstFault_65 : decode cX6_firstFault 65 = .ok (.goto (-37), 3) := by decide +kernel
theorem dX6_firstFault_68 : decode cX6_firstFault 68 = .ok (.iload_n 2, 1) := by decide +kernel
theorem dX6_firstFault_69 : decode cX6_firstFault 69 = .ok (.ireturn, 1) := by decide +kernel
theorem dX6_follow_0 : decode cX6_follow 0 = .ok (.aload_n 1, 1) := by decide +kernel
theorem dX6_follow_1 : decode cX6_follow 1 = .ok (.iload_n 2, 1) := by decide +kernel
theorem dX6_follow_2 : decode cX6_follow 2 = .ok (.invokevirtual 47, 3) := by decide +kernel
theorem dX6_follow_5 : decode cX6_follow 5 = .ok (.istore_n 3, 1) := by decide +kernel
theorem dX6_follow_6 : decode cX6_follow 6 = .ok (.aload_n 1, 1) := by decide +kernel
theorem dX6_follow_7 : decode cX6_follow 7 = .ok (.iload_n 2, 1) := by decide +kernel
theorem dX6_follow_8 : decode cX6_follow 8 = .ok (.invokevirtual 53, 3) := by decide +kernel
theorem dX6_follow_11 : decode cX6_follow 11 = .ok (.ifCond .eq 15, 3) := by decide +kernel
theorem dX6_follow_14 : decode cX6_follow 14 = .ok (.iload_n 3, 1) := by decide +kernel
theorem dX6_follow_15 : decode cX6_follow 15 = .ok (.ifCond .lt 11, 3) := by decide +kernel
theorem dX6_follow_18 : decode cX6_follow 18 = .ok (.iload_n 3, 1) := by decide +kernel
theorem dX6_follow_19 : decode cX6_follow 19 = .ok (.getstatic 57, 3) := by decide +kernel
theorem dX6_follow_22 : decode cX6_follow 22 = .ok (.arraylength, 1) := by decide +kernel
theorem dX6_follow_23 : decode cX6_follow 23 = .ok (.if_icmp .lt 6, 3) := by decide +kernel
theorem dX6_follow_26 : decode cX6_follow 26 = .ok (.bipush (-2), 2) := by decide +kernel
theorem dX6_follow_28 : decode cX6_follow 28 = .ok (.ireturn, 1) := by decide +kernel
theorem dX6_follow_29 : decode cX6_follow 29 = .ok (.iload_n 2, 1) := by decide +kernel
theorem dX6_follow_30 : decode cX6_follow 30 = .ok (.getstatic 57, 3) := by decide +kernel
theorem dX6_follow_33 : decode cX6_follow 33 = .ok (.iload_n 3, 1) := by decide +kernel
theorem dX6_follow_34 : decode cX6_follow 34 = .ok (.iaload, 1) := by decide +kernel
theorem dX6_follow_35 : decode cX6_follow 35 = .ok (.iadd, 1) := by decide +kernel
theorem dX6_follow_36 : decode cX6_follow 36 = .ok (.istore 4, 2) := by decide +kernel
theorem dX6_follow_38 : decode cX6_follow 38 = .ok (.iload 4, 2) := by decide +kernel
theorem dX6_follow_40 : decode cX6_follow 40 = .ok (.aload_n 1, 1) := by decide +kernel
theorem dX6_follow_41 : decode cX6_follow 41 = .ok (.getfield 60, 3) := by decide +kernel
theorem dX6_follow_44 : decode cX6_follow 44 = .ok (.if_icmp .le 6, 3) := by decide +kernel
theorem dX6_follow_47 : decode cX6_follow 47 = .ok (.bipush (-2), 2) := by decide +kernel
theorem dX6_follow_49 : decode cX6_follow 49 = .ok (.ireturn, 1) := by decide +kernel
theorem dX6_follow_50 : decode cX6_follow 50 = .ok (.aload_n 1, 1) := by decide +kernel
theorem dX6_follow_51 : decode cX6_follow 51 = .ok (.iload_n 2, 1) := by decide +kernel
theorem dX6_follow_52 : decode cX6_follow 52 = .ok (.iconst 1, 1) := by decide +kernel
theorem dX6_follow_53 : decode cX6_follow 53 = .ok (.iadd, 1) := by decide +kernel
theorem dX6_follow_54 : decode cX6_follow 54 = .ok (.invokevirtual 47, 3) := by decide +kernel
theorem dX6_follow_57 : decode cX6_follow 57 = .ok (.istore 5, 2) := by decide +kernel
theorem dX6_follow_59 : decode cX6_follow 59 = .ok (.iload_n 3, 1) := by decide +kernel
theorem dX6_follow_60 : decode cX6_follow 60 = .ok (.tableswitch 126 0 8 #[52, 126, 66, 126, 126, 126, 83, 102, 109], 52) := by decide +kernel
theorem dX6_follow_112 : decode cX6_follow 112 = .ok (.aload_n 0, 1) := by decide +kernel
theorem dX6_follow_113 : decode cX6_follow 113 = .ok (.getfield 33, 3) := by decide +kernel
theorem dX6_follow_116 : decode cX6_follow 116 = .ok (.ifCond .ne 7, 3) := by decide +kernel
theorem dX6_follow_119 : decode cX6_follow 119 = .ok (.iconst (-1), 1) := by decide +kernel
theorem dX6_follow_120 : decode cX6_follow 120 = .ok (.goto 5, 3) := by decide +kernel
theorem dX6_follow_123 : decode cX6_follow 123 = .ok (.bipush (-2), 2) := by decide +kernel
theorem dX6_follow_125 : decode cX6_follow 125 = .ok (.ireturn, 1) := by decide +kernel
theorem dX6_follow_126 : decode cX6_follow 126 = .ok (.aload_n 0, 1) := by decide +kernel
theorem dX6_follow_127 : decode cX6_follow 127 = .ok (.iload 5, 2) := by decide +kernel
theorem dX6_follow_129 : decode cX6_follow 129 = .ok (.invokevirtual 63, 3) := by decide +kernel
theorem dX6_follow_132 : decode cX6_follow 132 = .ok (.ifCond .eq 8, 3) := by decide +kernel
theorem dX6_follow_135 : decode cX6_follow 135 = .ok (.iload 4, 2) := by decide +kernel
theorem dX6_follow_137 : decode cX6_follow 137 = .ok (.goto 5, 3) := by decide +kernel
theorem dX6_follow_140 : decode cX6_follow 140 = .ok (.bipush (-2), 2) := by decide +kernel
theorem dX6_follow_142 : decode cX6_follow 142 = .ok (.ireturn, 1) := by decide +kernel
theorem dX6_follow_143 : decode cX6_follow 143 = .ok (.aload_n 0, 1) := by decide +kernel
theorem dX6_follow_144 : decode cX6_follow 144 = .ok (.iload 5, 2) := by decide +kernel
theorem dX6_follow_146 : decode cX6_follow 146 = .ok (.iload 4, 2) := by decide +kernel
theorem dX6_follow_148 : decode cX6_follow 148 = .ok (.invokevirtual 66, 3) := by decide +kernel
theorem dX6_follow_151 : decode cX6_follow 151 = .ok (.ifCond .eq 8, 3) := by decide +kernel
theorem dX6_follow_154 : decode cX6_follow 154 = .ok (.iload 4, 2) := by decide +kernel
theorem dX6_follow_156 : decode cX6_follow 156 = .ok (.goto 5, 3) := by decide +kernel
theorem dX6_follow_159 : decode cX6_follow 159 = .ok (.bipush (-2), 2) := by decide +kernel
theorem dX6_follow_161 : decode cX6_follow 161 = .ok (.ireturn, 1) := by decide +kernel
theorem dX6_follow_162 : decode cX6_follow 162 = .ok (.aload_n 0, 1) := by decide +kernel
theorem dX6_follow_163 : decode cX6_follow 163 = .ok (.iload 4, 2) := by decide +kernel
theorem dX6_follow_165 : decode cX6_follow 165 = .ok (.invokevirtual 70, 3) := by decide +kernel
theorem dX6_follow_168 : decode cX6_follow 168 = .ok (.ireturn, 1) := by decide +kernel
theorem dX6_follow_169 : decode cX6_follow 169 = .ok (.aload_n 0, 1) := by decide +kernel
theorem dX6_follow_170 : decode cX6_follow 170 = .ok (.iload 5, 2) := by decide +kernel
theorem dX6_follow_172 : decode cX6_follow 172 = .ok (.invokevirtual 73, 3) := by decide +kernel
theorem dX6_follow_175 : decode cX6_follow 175 = .ok (.ifCond .eq 8, 3) := by decide +kernel
theorem dX6_follow_178 : decode cX6_follow 178 = .ok (.iload 4, 2) := by decide +kernel
theorem dX6_follow_180 : decode cX6_follow 180 = .ok (.goto 5, 3) := by decide +kernel
theorem dX6_follow_183 : decode cX6_follow 183 = .ok (.bipush (-2), 2) := by decide +kernel
theorem dX6_follow_185 : decode cX6_follow 185 = .ok (.ireturn, 1) := by decide +kernel
theorem dX6_follow_186 : decode cX6_follow 186 = .ok (.aload_n 0, 1) := by decide +kernel
theorem dX6_follow_187 : decode cX6_follow 187 = .ok (.aload_n 1, 1) := by decide +kernel
theorem dX6_follow_188 : decode cX6_follow 188 = .ok (.iload_n 2, 1) := by decide +kernel
theorem dX6_follow_189 : decode cX6_follow 189 = .ok (.iload_n 3, 1) := by decide +kernel
theorem dX6_follow_190 : decode cX6_follow 190 = .ok (.invokevirtual 76, 3) := by decide +kernel
theorem dX6_follow_193 : decode cX6_follow 193 = .ok (.ifCond .eq 8, 3) := by decide +kernel
theorem dX6_follow_196 : decode cX6_follow 196 = .ok (.iload 4, 2) := by decide +kernel
theorem dX6_follow_198 : decode cX6_follow 198 = .ok (.goto 5, 3) := by decide +kernel
theorem dX6_follow_201 : decode cX6_follow 201 = .ok (.bipush (-2), 2) := by decide +kernel
theorem dX6_follow_203 : decode cX6_follow 203 = .ok (.ireturn, 1) := by decide +kernel
theorem dX6_moveOn_0 : decode cX6_moveOn 0 = .ok (.iload_n 1, 1) := by decide +kernel
theorem dX6_moveOn_1 : decode cX6_moveOn 1 = .ok (.iconst 1, 1) := by decide +kernel
theorem dX6_moveOn_2 : decode cX6_moveOn 2 = .ok (.if_icmp .lt 9, 3) := by decide +kernel
theorem dX6_moveOn_5 : decode cX6_moveOn 5 = .ok (.iload_n 1, 1) := by decide +kernel
theorem dX6_moveOn_6 : decode cX6_moveOn 6 = .ok (.bipush 50, 2) := by decide +kernel
theorem dX6_moveOn_8 : decode cX6_moveOn 8 = .ok (.if_icmp .le 5, 3) := by decide +kernel
theorem dX6_moveOn_11 : decode cX6_moveOn 11 = .ok (.iconst 0, 1) := by decide +kernel
theorem dX6_moveOn_12 : decode cX6_moveOn 12 = .ok (.ireturn, 1) := by decide +kernel
theorem dX6_moveOn_13 : decode cX6_moveOn 13 = .ok (.aload_n 0, 1) := by decide +kernel
theorem dX6_moveOn_14 : decode cX6_moveOn 14 = .ok (.dup, 1) := by decide +kernel
theorem dX6_moveOn_15 : decode cX6_moveOn 15 = .ok (.getfield 36, 3) := by decide +kernel
theorem dX6_moveOn_18 : decode cX6_moveOn 18 = .ok (.iload_n 1, 1) := by decide +kernel
theorem dX6_moveOn_19 : decode cX6_moveOn 19 = .ok (.aload_n 0, 1) := by decide +kernel
theorem dX6_moveOn_20 : decode cX6_moveOn 20 = .ok (.getfield 39, 3) := by decide +kernel
theorem dX6_moveOn_23 : decode cX6_moveOn 23 = .ok (.imul, 1) := by decide +kernel
theorem dX6_moveOn_24 : decode cX6_moveOn 24 = .ok (.iadd, 1) := by decide +kernel
theorem dX6_moveOn_25 : decode cX6_moveOn 25 = .ok (.putfield 36, 3) := by decide +kernel
theorem dX6_moveOn_28 : decode cX6_moveOn 28 = .ok (.iconst 1, 1) := by decide +kernel
theorem dX6_moveOn_29 : decode cX6_moveOn 29 = .ok (.ireturn, 1) := by decide +kernel
theorem dX6_setBeat_0 : decode cX6_setBeat 0 = .ok (.iload_n 1, 1) := by decide +kernel
theorem dX6_setBeat_1 : decode cX6_setBeat 1 = .ok (.iconst 1, 1) := by decide +kernel
theorem dX6_setBeat_2 : decode cX6_setBeat 2 = .ok (.if_icmp .lt 9, 3) := by decide +kernel
theorem dX6_setBeat_5 : decode cX6_setBeat 5 = .ok (.iload_n 1, 1) := by decide +kernel
theorem dX6_setBeat_6 : decode cX6_setBeat 6 = .ok (.bipush 50, 2) := by decide +kernel
theorem dX6_setBeat_8 : decode cX6_setBeat 8 = .ok (.if_icmp .le 5, 3) := by decide +kernel
theorem dX6_setBeat_11 : decode cX6_setBeat 11 = .ok (.iconst 0, 1) := by decide +kernel
theorem dX6_setBeat_12 : decode cX6_setBeat 12 = .ok (.ireturn, 1) := by decide +kernel
theorem dX6_setBeat_13 : decode cX6_setBeat 13 = .ok (.aload_n 0, 1) := by decide +kernel
theorem dX6_setBeat_14 : decode cX6_setBeat 14 = .ok (.iload_n 1, 1) := by decide +kernel
theorem dX6_setBeat_15 : decode cX6_setBeat 15 = .ok (.putfield 39, 3) := by decide +kernel
theorem dX6_setBeat_18 : decode cX6_setBeat 18 = .ok (.iconst 1, 1) := by decide +kernel
theorem dX6_setBeat_19 : decode cX6_setBeat 19 = .ok (.ireturn, 1) := by decide +kernel
theorem dX6_enter_0 : decode cX6_enter 0 = .ok (.iload_n 1, 1) := by decide +kernel
theorem dX6_enter_1 : decode cX6_enter 1 = .ok (.iconst 2, 1) := by decide +kernel
theorem dX6_enter_2 : decode cX6_enter 2 = .ok (.if_icmp .lt 24, 3) := by decide +kernel
theorem dX6_enter_5 : decode cX6_enter 5 = .ok (.iload_n 1, 1) := by decide +kernel
theorem dX6_enter_6 : decode cX6_enter 6 = .ok (.bipush 9, 2) := by decide +kernel
theorem dX6_enter_8 : decode cX6_enter 8 = .ok (.if_icmp .gt 18, 3) := by decide +kernel
theorem dX6_enter_11 : decode cX6_enter 11 = .ok (.aload_n 0, 1) := by decide +kernel
theorem dX6_enter_12 : decode cX6_enter 12 = .ok (.getfield 33, 3) := by decide +kernel
theorem dX6_enter_15 : decode cX6_enter 15 = .ok (.ifCond .lt 11, 3) := by decide +kernel
theorem dX6_enter_18 : decode cX6_enter 18 = .ok (.aload_n 0, 1) := by decide +kernel
theorem dX6_enter_19 : decode cX6_enter 19 = .ok (.getfield 33, 3) := by decide +kernel
theorem dX6_enter_22 : decode cX6_enter 22 = .ok (.iconst 3, 1) := by decide +kernel
theorem dX6_enter_23 : decode cX6_enter 23 = .ok (.if_icmp .lt 5, 3) := by decide +kernel
theorem dX6_enter_26 : decode cX6_enter 26 = .ok (.iconst 0, 1) := by decide +kernel
theorem dX6_enter_27 : decode cX6_enter 27 = .ok (.ireturn, 1) := by decide +kernel
theorem dX6_enter_28 : decode cX6_enter 28 = .ok (.aload_n 0, 1) := by decide +kernel
theorem dX6_enter_29 : decode cX6_enter 29 = .ok (.getfield 18, 3) := by decide +kernel
theorem dX6_enter_32 : decode cX6_enter 32 = .ok (.aload_n 0, 1) := by decide +kernel
theorem dX6_enter_33 : decode cX6_enter 33 = .ok (.getfield 33, 3) := by decide +kernel
theorem dX6_enter_36 : decode cX6_enter 36 = .ok (.iload_n 2, 1) := by decide +kernel
theorem dX6_enter_37 : decode cX6_enter 37 = .ok (.iastore, 1) := by decide +kernel
theorem dX6_enter_38 : decode cX6_enter 38 = .ok (.aload_n 0, 1) := by decide +kernel
theorem dX6_enter_39 : decode cX6_enter 39 = .ok (.getfield 22, 3) := by decide +kernel
theorem dX6_enter_42 : decode cX6_enter 42 = .ok (.aload_n 0, 1) := by decide +kernel
theorem dX6_enter_43 : decode cX6_enter 43 = .ok (.getfield 33, 3) := by decide +kernel
theorem dX6_enter_46 : decode cX6_enter 46 = .ok (.iload_n 1, 1) := by decide +kernel
theorem dX6_enter_47 : decode cX6_enter 47 = .ok (.iconst 1, 1) := by decide +kernel
theorem dX6_enter_48 : decode cX6_enter 48 = .ok (.isub, 1) := by decide +kernel
theorem dX6_enter_49 : decode cX6_enter 49 = .ok (.iastore, 1) := by decide +kernel
theorem dX6_enter_50 : decode cX6_enter 50 = .ok (.aload_n 0, 1) := by decide +kernel
theorem dX6_enter_51 : decode cX6_enter 51 = .ok (.dup, 1) := by decide +kernel
theorem dX6_enter_52 : decode cX6_enter 52 = .ok (.getfield 33, 3) := by decide +kernel
theorem dX6_enter_55 : decode cX6_enter 55 = .ok (.iconst 1, 1) := by decide +kernel
theorem dX6_enter_56 : decode cX6_enter 56 = .ok (.iadd, 1) := by decide +kernel
theorem dX6_enter_57 : decode cX6_enter 57 = .ok (.putfield 33, 3) := by decide +kernel
theorem dX6_enter_60 : decode cX6_enter 60 = .ok (.iconst 1, 1) := by decide +kernel
theorem dX6_enter_61 : decode cX6_enter 61 = .ok (.ireturn, 1) := by decide +kernel
theorem dX6_leave_0 : decode cX6_leave 0 = .ok (.aload_n 0, 1) := by decide +kernel
theorem dX6_leave_1 : decode cX6_leave 1 = .ok (.getfield 33, 3) := by decide +kernel
theorem dX6_leave_4 : decode cX6_leave 4 = .ok (.iconst 1, 1) := by decide +kernel
theorem dX6_leave_5 : decode cX6_leave 5 = .ok (.isub, 1) := by decide +kernel
theorem dX6_leave_6 : decode cX6_leave 6 = .ok (.istore_n 2, 1) := by decide +kernel
theorem dX6_leave_7 : decode cX6_leave 7 = .ok (.iload_n 2, 1) := by decide +kernel
theorem dX6_leave_8 : decode cX6_leave 8 = .ok (.ifCond .lt 8, 3) := by decide +kernel
theorem dX6_leave_11 : decode cX6_leave 11 = .ok (.iload_n 2, 1) := by decide +kernel
theorem dX6_leave_12 : decode cX6_leave 12 = .ok (.iconst 3, 1) := by decide +kernel
theorem dX6_leave_13 : decode cX6_leave 13 = .ok (.if_icmp .lt 6, 3) := by decide +kernel
theorem dX6_leave_16 : decode cX6_leave 16 = .ok (.bipush (-2), 2) := by decide +kernel
theorem dX6_leave_18 : decode cX6_leave 18 = .ok (.ireturn, 1) := by decide +kernel
theorem dX6_leave_19 : decode cX6_leave 19 = .ok (.aload_n 0, 1) := by decide +kernel
theorem dX6_leave_20 : decode cX6_leave 20 = .ok (.getfield 22, 3) := by decide +kernel
theorem dX6_leave_23 : decode cX6_leave 23 = .ok (.iload_n 2, 1) := by decide +kernel
theorem dX6_leave_24 : decode cX6_leave 24 = .ok (.iaload, 1) := by decide +kernel
theorem dX6_leave_25 : decode cX6_leave 25 = .ok (.ifCond .le 20, 3) := by decide +kernel
theorem dX6_leave_28 : decode cX6_leave 28 = .ok (.aload_n 0, 1) := by decide +kernel
theorem dX6_leave_29 : decode cX6_leave 29 = .ok (.getfield 22, 3) := by decide +kernel
theorem dX6_leave_32 : decode cX6_leave 32 = .ok (.iload_n 2, 1) := by decide +kernel
theorem dX6_leave_33 : decode cX6_leave 33 = .ok (.dup2, 1) := by decide +kernel
theorem dX6_leave_34 : decode cX6_leave 34 = .ok (.iaload, 1) := by decide +kernel
theorem dX6_leave_35 : decode cX6_leave 35 = .ok (.iconst 1, 1) := by decide +kernel
theorem dX6_leave_36 : decode cX6_leave 36 = .ok (.isub, 1) := by decide +kernel
theorem dX6_leave_37 : decode cX6_leave 37 = .ok (.iastore, 1) := by decide +kernel
theorem dX6_leave_38 : decode cX6_leave 38 = .ok (.aload_n 0, 1) := by decide +kernel
theorem dX6_leave_39 : decode cX6_leave 39 = .ok (.getfield 18, 3) := by decide +kernel
theorem dX6_leave_42 : decode cX6_leave 42 = .ok (.iload_n 2, 1) := by decide +kernel
theorem dX6_leave_43 : decode cX6_leave 43 = .ok (.iaload, 1) := by decide +kernel
theorem dX6_leave_44 : decode cX6_leave 44 = .ok (.ireturn, 1) := by decide +kernel
theorem dX6_leave_45 : decode cX6_leave 45 = .ok (.aload_n 0, 1) := by decide +kernel
theorem dX6_leave_46 : decode cX6_leave 46 = .ok (.iload_n 2, 1) := by decide +kernel
theorem dX6_leave_47 : decode cX6_leave 47 = .ok (.putfield 33, 3) := by decide +kernel
theorem dX6_leave_50 : decode cX6_leave 50 = .ok (.iload_n 1, 1) := by decide +kernel
theorem dX6_leave_51 : decode cX6_leave 51 = .ok (.ireturn, 1) := by decide +kernel
theorem dX6_makeCues_0 : decode cX6_makeCues 0 = .ok (.aload_n 1, 1) := by decide +kernel
theorem dX6_makeCues_1 : decode cX6_makeCues 1 = .ok (.iload_n 2, 1) := by decide +kernel
theorem dX6_makeCues_2 : decode cX6_makeCues 2 = .ok (.iconst 1, 1) := by decide +kernel
theorem dX6_makeCues_3 : decode cX6_makeCues 3 = .ok (.iadd, 1) := by decide +kernel
theorem dX6_makeCues_4 : decode cX6_makeCues 4 = .ok (.invokevirtual 47, 3) := by decide +kernel
theorem dX6_makeCues_7 : decode cX6_makeCues 7 = .ok (.istore 4, 2) := by decide +kernel
theorem dX6_makeCues_9 : decode cX6_makeCues 9 = .ok (.aload_n 1, 1) := by decide +kernel
theorem dX6_makeCues_10 : decode cX6_makeCues 10 = .ok (.iload_n 2, 1) := by decide +kernel
theorem dX6_makeCues_11 : decode cX6_makeCues 11 = .ok (.iconst 2, 1) := by decide +kernel
theorem dX6_makeCues_12 : decode cX6_makeCues 12 = .ok (.iadd, 1) := by decide +kernel
theorem dX6_makeCues_13 : decode cX6_makeCues 13 = .ok (.invokevirtual 47, 3) := by decide +kernel
theorem dX6_makeCues_16 : decode cX6_makeCues 16 = .ok (.istore 5, 2) := by decide +kernel
theorem dX6_makeCues_18 : decode cX6_makeCues 18 = .ok (.aload_n 1, 1) := by decide +kernel
theorem dX6_makeCues_19 : decode cX6_makeCues 19 = .ok (.iload_n 2, 1) := by decide +kernel
theorem dX6_makeCues_20 : decode cX6_makeCues 20 = .ok (.iconst 3, 1) := by decide +kernel
theorem dX6_makeCues_21 : decode cX6_makeCues 21 = .ok (.iadd, 1) := by decide +kernel
theorem dX6_makeCues_22 : decode cX6_makeCues 22 = .ok (.invokevirtual 47, 3) := by decide +kernel
theorem dX6_makeCues_25 : decode cX6_makeCues 25 = .ok (.istore 6, 2) := by decide +kernel
theorem dX6_makeCues_27 : decode cX6_makeCues 27 = .ok (.aload_n 1, 1) := by decide +kernel
theorem dX6_makeCues_28 : decode cX6_makeCues 28 = .ok (.iload_n 2, 1) := by decide +kernel
theorem dX6_makeCues_29 : decode cX6_makeCues 29 = .ok (.iconst 4, 1) := by decide +kernel
theorem dX6_makeCues_30 : decode cX6_makeCues 30 = .ok (.iadd, 1) := by decide +kernel
theorem dX6_makeCues_31 : decode cX6_makeCues 31 = .ok (.invokevirtual 47, 3) := by decide +kernel
theorem dX6_makeCues_34 : decode cX6_makeCues 34 = .ok (.istore 7, 2) := by decide +kernel
theorem dX6_makeCues_36 : decode cX6_makeCues 36 = .ok (.iload_n 3, 1) := by decide +kernel
theorem dX6_makeCues_37 : decode cX6_makeCues 37 = .ok (.tableswitch 170 1 5 #[35, 170, 66, 77, 111], 35) := by decide +kernel
theorem dX6_makeCues_72 : decode cX6_makeCues 72 = .ok (.iload 6, 2) := by decide +kernel
theorem dX6_makeCues_74 : decode cX6_makeCues 74 = .ok (.invokestatic 80, 3) := by decide +kernel
theorem dX6_makeCues_77 : decode cX6_makeCues 77 = .ok (.ifCond .eq 24, 3) := by decide +kernel
theorem dX6_makeCues_80 : decode cX6_makeCues 80 = .ok (.aload_n 0, 1) := by decide +kernel
theorem dX6_makeCues_81 : decode cX6_makeCues 81 = .ok (.aload_n 0, 1) := by decide +kernel
theorem dX6_makeCues_82 : decode cX6_makeCues 82 = .ok (.getfield 36, 3) := by decide +kernel
theorem dX6_makeCues_85 : decode cX6_makeCues 85 = .ok (.iload 4, 2) := by decide +kernel
theorem dX6_makeCues_87 : decode cX6_makeCues 87 = .ok (.iload 5, 2) := by decide +kernel
theorem dX6_makeCues_89 : decode cX6_makeCues 89 = .ok (.iload 6, 2) := by decide +kernel
theorem dX6_makeCues_91 : decode cX6_makeCues 91 = .ok (.invokevirtual 83, 3) := by decide +kernel
theorem dX6_makeCues_94 : decode cX6_makeCues 94 = .ok (.ifCond .eq 7, 3) := by decide +kernel
theorem dX6_makeCues_97 : decode cX6_makeCues 97 = .ok (.iconst 1, 1) := by decide +kernel
theorem dX6_makeCues_98 : decode cX6_makeCues 98 = .ok (.goto 4, 3) := by decide +kernel
theorem dX6_makeCues_101 : decode cX6_makeCues 101 = .ok (.iconst 0, 1) := by decide +kernel
theorem dX6_makeCues_102 : decode cX6_makeCues 102 = .ok (.ireturn, 1) := by decide +kernel
theorem dX6_makeCues_103 : decode cX6_makeCues 103 = .ok (.aload_n 0, 1) := by decide +kernel
theorem dX6_makeCues_104 : decode cX6_makeCues 104 = .ok (.iload 4, 2) := by decide +kernel
theorem dX6_makeCues_106 : decode cX6_makeCues 106 = .ok (.iload 5, 2) := by decide +kernel
theorem dX6_makeCues_108 : decode cX6_makeCues 108 = .ok (.iload 6, 2) := by decide +kernel
theorem dX6_makeCues_110 : decode cX6_makeCues 110 = .ok (.invokevirtual 87, 3) := by decide +kernel
theorem dX6_makeCues_113 : decode cX6_makeCues 113 = .ok (.ireturn, 1) := by decide +kernel
theorem dX6_makeCues_114 : decode cX6_makeCues 114 = .ok (.aload_n 0, 1) := by decide +kernel
theorem dX6_makeCues_115 : decode cX6_makeCues 115 = .ok (.iload 5, 2) := by decide +kernel
theorem dX6_makeCues_117 : decode cX6_makeCues 117 = .ok (.iload 6, 2) := by decide +kernel
theorem dX6_makeCues_119 : decode cX6_makeCues 119 = .ok (.iload 7, 2) := by decide +kernel
theorem dX6_makeCues_121 : decode cX6_makeCues 121 = .ok (.invokevirtual 91, 3) := by decide +kernel
theorem dX6_makeCues_124 : decode cX6_makeCues 124 = .ok (.ifCond .eq 22, 3) := by decide +kernel
theorem dX6_makeCues_127 : decode cX6_makeCues 127 = .ok (.aload_n 0, 1) := by decide +kernel
theorem dX6_makeCues_128 : decode cX6_makeCues 128 = .ok (.iload 4, 2) := by decide +kernel
theorem dX6_makeCues_130 : decode cX6_makeCues 130 = .ok (.iload 5, 2) := by decide +kernel
theorem dX6_makeCues_132 : decode cX6_makeCues 132 = .ok (.iload 6, 2) := by decide +kernel
theorem dX6_makeCues_134 : decode cX6_makeCues 134 = .ok (.iload 7, 2) := by decide +kernel
theorem dX6_makeCues_136 : decode cX6_makeCues 136 = .ok (.invokevirtual 94, 3) := by decide +kernel
theorem dX6_makeCues_139 : decode cX6_makeCues 139 = .ok (.ifCond .eq 7, 3) := by decide +kernel
theorem dX6_makeCues_142 : decode cX6_makeCues 142 = .ok (.iconst 1, 1) := by decide +kernel
theorem dX6_makeCues_143 : decode cX6_makeCues 143 = .ok (.goto 4, 3) := by decide +kernel
theorem dX6_makeCues_146 : decode cX6_makeCues 146 = .ok (.iconst 0, 1) := by decide +kernel
theorem dX6_makeCues_147 : decode cX6_makeCues 147 = .ok (.ireturn, 1) := by decide +kernel
theorem dX6_makeCues_148 : decode cX6_makeCues 148 = .ok (.aload_n 0, 1) := by decide +kernel
theorem dX6_makeCues_149 : decode cX6_makeCues 149 = .ok (.iload 5, 2) := by decide +kernel
theorem dX6_makeCues_151 : decode cX6_makeCues 151 = .ok (.iload 6, 2) := by decide +kernel
theorem dX6_makeCues_153 : decode cX6_makeCues 153 = .ok (.iload 7, 2) := by decide +kernel
theorem dX6_makeCues_155 : decode cX6_makeCues 155 = .ok (.invokevirtual 91, 3) := by decide +kernel
theorem dX6_makeCues_158 : decode cX6_makeCues 158 = .ok (.ifCond .eq 47, 3) := by decide +kernel
theorem dX6_makeCues_161 : decode cX6_makeCues 161 = .ok (.aload_n 0, 1) := by decide +kernel
theorem dX6_makeCues_162 : decode cX6_makeCues 162 = .ok (.aload_n 0, 1) := by decide +kernel
theorem dX6_makeCues_163 : decode cX6_makeCues 163 = .ok (.getfield 36, 3) := by decide +kernel
theorem dX6_makeCues_166 : decode cX6_makeCues 166 = .ok (.iload 4, 2) := by decide +kernel
theorem dX6_makeCues_168 : decode cX6_makeCues 168 = .ok (.iload 5, 2) := by decide +kernel
theorem dX6_makeCues_170 : decode cX6_makeCues 170 = .ok (.iconst 0, 1) := by decide +kernel
theorem dX6_makeCues_171 : decode cX6_makeCues 171 = .ok (.invokevirtual 83, 3) := by decide +kernel
theorem dX6_makeCues_174 : decode cX6_makeCues 174 = .ok (.ifCond .eq 31, 3) := by decide +kernel
theorem dX6_makeCues_177 : decode cX6_makeCues 177 = .ok (.aload_n 0, 1) := by decide +kernel
theorem dX6_makeCues_178 : decode cX6_makeCues 178 = .ok (.aload_n 0, 1) := by decide +kernel
theorem dX6_makeCues_179 : decode cX6_makeCues 179 = .ok (.getfield 36, 3) := by decide +kernel
theorem dX6_makeCues_182 : decode cX6_makeCues 182 = .ok (.iload 7, 2) := by decide +kernel
theorem dX6_makeCues_184 : decode cX6_makeCues 184 = .ok (.aload_n 0, 1) := by decide +kernel
theorem dX6_makeCues_185 : decode cX6_makeCues 185 = .ok (.getfield 39, 3) := by decide +kernel
theorem dX6_makeCues_188 : decode cX6_makeCues 188 = .ok (.imul, 1) := by decide +kernel
theorem dX6_makeCues_189 : decode cX6_makeCues 189 = .ok (.iadd, 1) := by decide +kernel
theorem dX6_makeCues_190 : decode cX6_makeCues 190 = .ok (.iload 4, 2) := by decide +kernel
theorem dX6_makeCues_192 : decode cX6_makeCues 192 = .ok (.iload 6, 2) := by decide +kernel
theorem dX6_makeCues_194 : decode cX6_makeCues 194 = .ok (.iconst 0, 1) := by decide +kernel
theorem dX6_makeCues_195 : decode cX6_makeCues 195 = .ok (.invokevirtual 83, 3) := by decide +kernel
theorem dX6_makeCues_198 : decode cX6_makeCues 198 = .ok (.ifCond .eq 7, 3) := by decide +kernel
theorem dX6_makeCues_201 : decode cX6_makeCues 201 = .ok (.iconst 1, 1) := by decide +kernel
theorem dX6_makeCues_202 : decode cX6_makeCues 202 = .ok (.goto 4, 3) := by decide +kernel
theorem dX6_makeCues_205 : decode cX6_makeCues 205 = .ok (.iconst 0, 1) := by decide +kernel
theorem dX6_makeCues_206 : decode cX6_makeCues 206 = .ok (.ireturn, 1) := by decide +kernel
theorem dX6_makeCues_207 : decode cX6_makeCues 207 = .ok (.iconst 0, 1) := by decide +kernel
theorem dX6_makeCues_208 : decode cX6_makeCues 208 = .ok (.ireturn, 1) := by decide +kernel
theorem dX6_areBehind_0 : decode cX6_areBehind 0 = .ok (.aload_n 0, 1) := by decide +kernel
theorem dX6_areBehind_1 : decode cX6_areBehind 1 = .ok (.getfield 25, 3) := by decide +kernel
theorem dX6_areBehind_4 : decode cX6_areBehind 4 = .ok (.iload_n 1, 1) := by decide +kernel
theorem dX6_areBehind_5 : decode cX6_areBehind 5 = .ok (.invokevirtual 97, 3) := by decide +kernel
theorem dX6_areBehind_8 : decode cX6_areBehind 8 = .ok (.ifCond .eq 28, 3) := by decide +kernel
theorem dX6_areBehind_11 : decode cX6_areBehind 11 = .ok (.aload_n 0, 1) := by decide +kernel
theorem dX6_areBehind_12 : decode cX6_areBehind 12 = .ok (.getfield 25, 3) := by decide +kernel
theorem dX6_areBehind_15 : decode cX6_areBehind 15 = .ok (.iload_n 2, 1) := by decide +kernel
theorem dX6_areBehind_16 : decode cX6_areBehind 16 = .ok (.invokevirtual 97, 3) := by decide +kernel
theorem dX6_areBehind_19 : decode cX6_areBehind 19 = .ok (.ifCond .eq 17, 3) := by decide +kernel
theorem dX6_areBehind_22 : decode cX6_areBehind 22 = .ok (.iload_n 3, 1) := by decide +kernel
theorem dX6_areBehind_23 : decode cX6_areBehind 23 = .ok (.ifCond .lt 13, 3) := by decide +kernel
theorem dX6_areBehind_26 : decode cX6_areBehind 26 = .ok (.iload_n 3, 1) := by decide +kernel
theorem dX6_areBehind_27 : decode cX6_areBehind 27 = .ok (.bipush 50, 2) := by decide +kernel
theorem dX6_areBehind_29 : decode cX6_areBehind 29 = .ok (.if_icmp .gt 7, 3) := by decide +kernel
theorem dX6_areBehind_32 : decode cX6_areBehind 32 = .ok (.iconst 1, 1) := by decide +kernel
theorem dX6_areBehind_33 : decode cX6_areBehind 33 = .ok (.goto 4, 3) := by decide +kernel
theorem dX6_areBehind_36 : decode cX6_areBehind 36 = .ok (.iconst 0, 1) := by decide +kernel
theorem dX6_areBehind_37 : decode cX6_areBehind 37 = .ok (.ireturn, 1) := by decide +kernel
theorem dX6_makeFan_0 : decode cX6_makeFan 0 = .ok (.iload_n 3, 1) := by decide +kernel
theorem dX6_makeFan_1 : decode cX6_makeFan 1 = .ok (.iconst 1, 1) := by decide +kernel
theorem dX6_makeFan_2 : decode cX6_makeFan 2 = .ok (.if_icmp .lt 8, 3) := by decide +kernel
theorem dX6_makeFan_5 : decode cX6_makeFan 5 = .ok (.iload_n 3, 1) := by decide +kernel
theorem dX6_makeFan_6 : decode cX6_makeFan 6 = .ok (.iconst 5, 1) := by decide +kernel
theorem dX6_makeFan_7 : decode cX6_makeFan 7 = .ok (.if_icmp .le 5, 3) := by decide +kernel
theorem dX6_makeFan_10 : decode cX6_makeFan 10 = .ok (.iconst 0, 1) := by decide +kernel
theorem dX6_makeFan_11 : decode cX6_makeFan 11 = .ok (.ireturn, 1) := by decide +kernel
theorem dX6_makeFan_12 : decode cX6_makeFan 12 = .ok (.iconst 0, 1) := by decide +kernel
theorem dX6_makeFan_13 : decode cX6_makeFan 13 = .ok (.istore 4, 2) := by decide +kernel
theorem dX6_makeFan_15 : decode cX6_makeFan 15 = .ok (.iload 4, 2) := by decide +kernel
theorem dX6_makeFan_17 : decode cX6_makeFan 17 = .ok (.iload_n 3, 1) := by decide +kernel
theorem dX6_makeFan_18 : decode cX6_makeFan 18 = .ok (.if_icmp .ge 32, 3) := by decide +kernel
theorem dX6_makeFan_21 : decode cX6_makeFan 21 = .ok (.aload_n 0, 1) := by decide +kernel
theorem dX6_makeFan_22 : decode cX6_makeFan 22 = .ok (.aload_n 0, 1) := by decide +kernel
theorem dX6_makeFan_23 : decode cX6_makeFan 23 = .ok (.getfield 36, 3) := by decide +kernel
theorem dX6_makeFan_26 : decode cX6_makeFan 26 = .ok (.iload_n 1, 1) := by decide +kernel
theorem dX6_makeFan_27 : decode cX6_makeFan 27 = .ok (.iload_n 2, 1) := by decide +kernel
theorem dX6_makeFan_28 : decode cX6_makeFan 28 = .ok (.iconst 2, 1) := by decide +kernel
theorem dX6_makeFan_29 : decode cX6_makeFan 29 = .ok (.iload 4, 2) := by decide +kernel
theorem dX6_makeFan_31 : decode cX6_makeFan 31 = .ok (.imul, 1) := by decide +kernel
theorem dX6_makeFan_32 : decode cX6_makeFan 32 = .ok (.iload_n 3, 1) := by decide +kernel
theorem dX6_makeFan_33 : decode cX6_makeFan 33 = .ok (.iconst 1, 1) := by decide +kernel
theorem dX6_makeFan_34 : decode cX6_makeFan 34 = .ok (.isub, 1) := by decide +kernel
theorem dX6_makeFan_35 : decode cX6_makeFan 35 = .ok (.isub, 1) := by decide +kernel
theorem dX6_makeFan_36 : decode cX6_makeFan 36 = .ok (.invokevirtual 83, 3) := by decide +kernel
theorem dX6_makeFan_39 : decode cX6_makeFan 39 = .ok (.ifCond .ne 5, 3) := by decide +kernel
theorem dX6_makeFan_42 : decode cX6_makeFan 42 = .ok (.iconst 0, 1) := by decide +kernel
theorem dX6_makeFan_43 : decode cX6_makeFan 43 = .ok (.ireturn, 1) := by decide +kernel
theorem dX6_makeFan_44 : decode cX6_makeFan 44 = .ok (.iinc 4 1, 3) := by decide +kernel
theorem dX6_makeFan_47 : decode cX6_makeFan 47 = .ok (.goto (-32), 3) := by decide +kernel
theorem dX6_makeFan_50 : decode cX6_makeFan 50 = .ok (.iconst 1, 1) := by decide +kernel
theorem dX6_makeFan_51 : decode cX6_makeFan 51 = .ok (.ireturn, 1) := by decide +kernel
theorem dX6_makeRun_0 : decode cX6_makeRun 0 = .ok (.iload_n 2, 1) := by decide +kernel
theorem dX6_makeRun_1 : decode cX6_makeRun 1 = .ok (.iload_n 3, 1) := by decide +kernel
theorem dX6_makeRun_2 : decode cX6_makeRun 2 = .ok (.if_icmp .gt 7, 3) := by decide +kernel
theorem dX6_makeRun_5 : decode cX6_makeRun 5 = .ok (.iconst 1, 1) := by decide +kernel
theorem dX6_makeRun_6 : decode cX6_makeRun 6 = .ok (.goto 4, 3) := by decide +kernel
theorem dX6_makeRun_9 : decode cX6_makeRun 9 = .ok (.iconst (-1), 1) := by decide +kernel
theorem dX6_makeRun_10 : decode cX6_makeRun 10 = .ok (.istore 5, 2) := by decide +kernel
theorem dX6_makeRun_12 : decode cX6_makeRun 12 = .ok (.iload_n 3, 1) := by decide +kernel
theorem dX6_makeRun_13 : decode cX6_makeRun 13 = .ok (.iload_n 2, 1) := by decide +kernel
theorem dX6_makeRun_14 : decode cX6_makeRun 14 = .ok (.isub, 1) := by decide +kernel
theorem dX6_makeRun_15 : decode cX6_makeRun 15 = .ok (.invokestatic 102, 3) := by decide +kernel
theorem dX6_makeRun_18 : decode cX6_makeRun 18 = .ok (.istore 6, 2) := by decide +kernel
theorem dX6_makeRun_20 : decode cX6_makeRun 20 = .ok (.iconst 0, 1) := by decide +kernel
theorem dX6_makeRun_21 : decode cX6_makeRun 21 = .ok (.istore 7, 2) := by decide +kernel
theorem dX6_makeRun_23 : decode cX6_makeRun 23 = .ok (.iload 7, 2) := by decide +kernel
theorem dX6_makeRun_25 : decode cX6_makeRun 25 = .ok (.iload 6, 2) := by decide +kernel
theorem dX6_makeRun_27 : decode cX6_makeRun 27 = .ok (.if_icmp .gt 52, 3) := by decide +kernel
theorem dX6_makeRun_30 : decode cX6_makeRun 30 = .ok (.iload_n 2, 1) := by decide +kernel
theorem dX6_makeRun_31 : decode cX6_makeRun 31 = .ok (.iload 7, 2) := by decide +kernel
theorem dX6_makeRun_33 : decode cX6_makeRun 33 = .ok (.iload 5, 2) := by decide +kernel
theorem dX6_makeRun_35 : decode cX6_makeRun 35 = .ok (.imul, 1) := by decide +kernel
theorem dX6_makeRun_36 : decode cX6_makeRun 36 = .ok (.iadd, 1) := by decide +kernel
theorem dX6_makeRun_37 : decode cX6_makeRun 37 = .ok (.istore 8, 2) := by decide +kernel
theorem dX6_makeRun_39 : decode cX6_makeRun 39 = .ok (.iload 8, 2) := by decide +kernel
theorem dX6_makeRun_41 : decode cX6_makeRun 41 = .ok (.iconst (-1), 1) := by decide +kernel
theorem dX6_makeRun_42 : decode cX6_makeRun 42 = .ok (.if_icmp .eq 29, 3) := by decide +kernel
theorem dX6_makeRun_45 : decode cX6_makeRun 45 = .ok (.aload_n 0, 1) := by decide +kernel
theorem dX6_makeRun_46 : decode cX6_makeRun 46 = .ok (.aload_n 0, 1) := by decide +kernel
theorem dX6_makeRun_47 : decode cX6_makeRun 47 = .ok (.getfield 36, 3) := by decide +kernel
theorem dX6_makeRun_50 : decode cX6_makeRun 50 = .ok (.iload 7, 2) := by decide +kernel
theorem dX6_makeRun_52 : decode cX6_makeRun 52 = .ok (.iload 4, 2) := by decide +kernel
theorem dX6_makeRun_54 : decode cX6_makeRun 54 = .ok (.imul, 1) := by decide +kernel
theorem dX6_makeRun_55 : decode cX6_makeRun 55 = .ok (.aload_n 0, 1) := by decide +kernel
theorem dX6_makeRun_56 : decode cX6_makeRun 56 = .ok (.getfield 39, 3) := by decide +kernel
theorem dX6_makeRun_59 : decode cX6_makeRun 59 = .ok (.imul, 1) := by decide +kernel
theorem dX6_makeRun_60 : decode cX6_makeRun 60 = .ok (.iadd, 1) := by decide +kernel
theorem dX6_makeRun_61 : decode cX6_makeRun 61 = .ok (.iload_n 1, 1) := by decide +kernel
theorem dX6_makeRun_62 : decode cX6_makeRun 62 = .ok (.iload 8, 2) := by decide +kernel
theorem dX6_makeRun_64 : decode cX6_makeRun 64 = .ok (.iconst 0, 1) := by decide +kernel
theorem dX6_makeRun_65 : decode cX6_makeRun 65 = .ok (.invokevirtual 83, 3) := by decide +kernel
theorem dX6_makeRun_68 : decode cX6_makeRun 68 = .ok (.ifCond .ne 5, 3) := by decide +kernel
theorem dX6_makeRun_71 : decode cX6_makeRun 71 = .ok (.iconst 0, 1) := by decide +kernel
theorem dX6_makeRun_72 : decode cX6_makeRun 72 = .ok (.ireturn, 1) := by decide +kernel
theorem dX6_makeRun_73 : decode cX6_makeRun 73 = .ok (.iinc 7 1, 3) := by decide +kernel
theorem dX6_makeRun_76 : decode cX6_makeRun 76 = .ok (.goto (-53), 3) := by decide +kernel
theorem dX6_makeRun_79 : decode cX6_makeRun 79 = .ok (.iconst 1, 1) := by decide +kernel
theorem dX6_makeRun_80 : decode cX6_makeRun 80 = .ok (.ireturn, 1) := by decide +kernel
theorem dX6_makeCue_0 : decode cX6_makeCue 0 = .ok (.aload_n 0, 1) := by decide +kernel
theorem dX6_makeCue_1 : decode cX6_makeCue 1 = .ok (.getfield 25, 3) := by decide +kernel
theorem dX6_makeCue_4 : decode cX6_makeCue 4 = .ok (.getfield 107, 3) := by decide +kernel
theorem dX6_makeCue_7 : decode cX6_makeCue 7 = .ok (.iload_n 2, 1) := by decide +kernel
theorem dX6_makeCue_8 : decode cX6_makeCue 8 = .ok (.invokevirtual 111, 3) := by decide +kernel
theorem dX6_makeCue_11 : decode cX6_makeCue 11 = .ok (.ifCond .eq 19, 3) := by decide +kernel
theorem dX6_makeCue_14 : decode cX6_makeCue 14 = .ok (.iload_n 3, 1) := by decide +kernel
theorem dX6_makeCue_15 : decode cX6_makeCue 15 = .ok (.iconst (-1), 1) := by decide +kernel
theorem dX6_makeCue_16 : decode cX6_makeCue 16 = .ok (.if_icmp .eq 16, 3) := by decide +kernel
theorem dX6_makeCue_19 : decode cX6_makeCue 19 = .ok (.aload_n 0, 1) := by decide +kernel
theorem dX6_makeCue_20 : decode cX6_makeCue 20 = .ok (.getfield 25, 3) := by decide +kernel
theorem dX6_makeCue_23 : decode cX6_makeCue 23 = .ok (.iload_n 3, 1) := by decide +kernel
theorem dX6_makeCue_24 : decode cX6_makeCue 24 = .ok (.invokevirtual 97, 3) := by decide +kernel
theorem dX6_makeCue_27 : decode cX6_makeCue 27 = .ok (.ifCond .ne 5, 3) := by decide +kernel
theorem dX6_makeCue_30 : decode cX6_makeCue 30 = .ok (.iconst 0, 1) := by decide +kernel
theorem dX6_makeCue_31 : decode cX6_makeCue 31 = .ok (.ireturn, 1) := by decide +kernel
theorem dX6_makeCue_32 : decode cX6_makeCue 32 = .ok (.iload_n 1, 1) := by decide +kernel
theorem dX6_makeCue_33 : decode cX6_makeCue 33 = .ok (.aload_n 0, 1) := by decide +kernel
theorem dX6_makeCue_34 : decode cX6_makeCue 34 = .ok (.getfield 25, 3) := by decide +kernel
theorem dX6_makeCue_37 : decode cX6_makeCue 37 = .ok (.getfield 107, 3) := by decide +kernel
theorem dX6_makeCue_40 : decode cX6_makeCue 40 = .ok (.iload_n 2, 1) := by decide +kernel
theorem dX6_makeCue_41 : decode cX6_makeCue 41 = .ok (.invokevirtual 116, 3) := by decide +kernel
theorem dX6_makeCue_44 : decode cX6_makeCue 44 = .ok (.if_icmp .lt 10, 3) := by decide +kernel
theorem dX6_makeCue_47 : decode cX6_makeCue 47 = .ok (.iload_n 1, 1) := by decide +kernel
theorem dX6_makeCue_48 : decode cX6_makeCue 48 = .ok (.sipush 20000, 3) := by decide +kernel
theorem dX6_makeCue_51 : decode cX6_makeCue 51 = .ok (.if_icmp .le 5, 3) := by decide +kernel
theorem dX6_makeCue_54 : decode cX6_makeCue 54 = .ok (.iconst 0, 1) := by decide +kernel
theorem dX6_makeCue_55 : decode cX6_makeCue 55 = .ok (.ireturn, 1) := by decide +kernel
theorem dX6_makeCue_56 : decode cX6_makeCue 56 = .ok (.aload_n 0, 1) := by decide +kernel
theorem dX6_makeCue_57 : decode cX6_makeCue 57 = .ok (.getfield 12, 3) := by decide +kernel
theorem dX6_makeCue_60 : decode cX6_makeCue 60 = .ok (.iload_n 1, 1) := by decide +kernel
theorem dX6_makeCue_61 : decode cX6_makeCue 61 = .ok (.iload_n 2, 1) := by decide +kernel
theorem dX6_makeCue_62 : decode cX6_makeCue 62 = .ok (.iload_n 3, 1) := by decide +kernel
theorem dX6_makeCue_63 : decode cX6_makeCue 63 = .ok (.iload 4, 2) := by decide +kernel
theorem dX6_makeCue_65 : decode cX6_makeCue 65 = .ok (.invokevirtual 119, 3) := by decide +kernel
theorem dX6_makeCue_68 : decode cX6_makeCue 68 = .ok (.ireturn, 1) := by decide +kernel
theorem dX7_init_0 : decode cX7_init 0 = .ok (.aload_n 0, 1) := by decide +kernel
theorem dX7_init_1 : decode cX7_init 1 = .ok (.invokespecial 3, 3) := by decide +kernel
theorem dX7_init_4 : decode cX7_init 4 = .ok (.aload_n 0, 1) := by decide +kernel
theorem dX7_init_5 : decode cX7_init 5 = .ok (.bipush 120, 2) := by decide +kernel
theorem dX7_init_7 : decode cX7_init 7 = .ok (.newarray .int, 2) := by decide +kernel
theorem dX7_init_9 : decode cX7_init 9 = .ok (.putfield 9, 3) := by decide +kernel
theorem dX7_init_12 : decode cX7_init 12 = .ok (.aload_n 0, 1) := by decide +kernel
theorem dX7_init_13 : decode cX7_init 13 = .ok (.bipush 120, 2) := by decide +kernel
theorem dX7_init_15 : decode cX7_init 15 = .ok (.newarray .int, 2) := by decide +kernel
theorem dX7_init_17 : decode cX7_init 17 = .ok (.putfield 15, 3) := by decide +kernel
theorem dX7_init_20 : decode cX7_init 20 = .ok (.aload_n 0, 1) := by decide +kernel
theorem dX7_init_21 : decode cX7_init 21 = .ok (.bipush 120, 2) := by decide +kernel
theorem dX7_init_23 : decode cX7_init 23 = .ok (.newarray .int, 2) := by decide +kernel
theorem dX7_init_25 : decode cX7_init 25 = .ok (.putfield 18, 3) := by decide +kernel
theorem dX7_init_28 : decode cX7_init 28 = .ok (.aload_n 0, 1) := by decide +kernel
theorem dX7_init_29 : decode cX7_init 29 = .ok (.bipush 120, 2) := by decide +kernel
theorem dX7_init_31 : decode cX7_init 31 = .ok (.newarray .int, 2) := by decide +kernel
theorem dX7_init_33 : decode cX7_init 33 = .ok (.putfield 21, 3) := by decide +kernel
theorem dX7_init_36 : decode cX7_init 36 = .ok (.aload_n 0, 1) := by decide +kernel
theorem dX7_init_37 : decode cX7_init 37 = .ok (.bipush 120, 2) := by decide +kernel
theorem dX7_init_39 : decode cX7_init 39 = .ok (.newarray .int, 2) := by decide +kernel
theorem dX7_init_41 : decode cX7_init 41 = .ok (.putfield 24, 3) := by decide +kernel
theorem dX7_init_44 : decode cX7_init 44 = .ok (.aload_n 0, 1) := by decide +kernel
theorem dX7_init_45 : decode cX7_init 45 = .ok (.iconst (-1), 1) := by decide +kernel
theorem dX7_init_46 : decode cX7_init 46 = .ok (.putfield 27, 3) := by decide +kernel
theorem dX7_init_49 : decode cX7_init 49 = .ok (.aload_n 0, 1) := by decide +kernel
theorem dX7_init_50 : decode cX7_init 50 = .ok (.aload_n 1, 1) := by decide +kernel
theorem dX7_init_51 : decode cX7_init 51 = .ok (.putfield 31, 3) := by decide +kernel
theorem dX7_init_54 : decode cX7_init 54 = .ok (.aload_n 0, 1) := by decide +kernel
theorem dX7_init_55 : decode cX7_init 55 = .ok (.aload_n 2, 1) := by decide +kernel
theorem dX7_init_56 : decode cX7_init 56 = .ok (.putfield 35, 3) := by decide +kernel
theorem dX7_init_59 : decode cX7_init 59 = .ok (.aload_n 0, 1) := by decide +kernel
theorem dX7_init_60 : decode cX7_init 60 = .ok (.aload_n 3, 1) := by decide +kernel
theorem dX7_init_61 : decode cX7_init 61 = .ok (.putfield 39, 3) := by decide +kernel
theorem dX7_init_64 : decode cX7_init 64 = .ok (.aload_n 0, 1) := by decide +kernel
theorem dX7_init_65 : decode cX7_init 65 = .ok (.aload 4, 2) := by decide +kernel
theorem dX7_init_67 : decode cX7_init 67 = .ok (.putfield 43, 3) := by decide +kernel
theorem dX7_init_70 : decode cX7_init 70 = .ok (.return_, 1) := by decide +kernel
theorem dX7_forget_0 : decode cX7_forget 0 = .ok (.aload_n 0, 1) := by decide +kernel
theorem dX7_forget_1 : decode cX7_forget 1 = .ok (.invokevirtual 47, 3) := by decide +kernel
theorem dX7_forget_4 : decode cX7_forget 4 = .ok (.aload_n 0, 1) := by decide +kernel
theorem dX7_forget_5 : decode cX7_forget 5 = .ok (.iconst (-1), 1) := by decide +kernel
theorem dX7_forget_6 : decode cX7_forget 6 = .ok (.putfield 27, 3) := by decide +kernel
theorem dX7_forget_9 : decode cX7_forget 9 = .ok (.return_, 1) := by decide +kernel
theorem dX7_forgetFaults_0 : decode cX7_forgetFaults 0 = .ok (.aload_n 0, 1) := by decide +kernel
theorem dX7_forgetFaults_1 : decode cX7_forgetFaults 1 = .ok (.getfield 9, 3) := by decide +kernel
theorem dX7_forgetFaults_4 : decode cX7_forgetFaults 4 = .ok (.iconst 0, 1) := by decide +kernel
theorem dX7_forgetFaults_5 : decode cX7_forgetFaults 5 = .ok (.invokestatic 50, 3) := by decide +kernel
theorem dX7_forgetFaults_8 : decode cX7_forgetFaults 8 = .ok (.return_, 1) := by decide +kernel
theorem dX7_faultOf_0 : decode cX7_faultOf 0 = .ok (.iload_n 1, 1) := by decide +kernel
theorem dX7_faultOf_1 : decode cX7_faultOf 1 = .ok (.ifCond .lt 18, 3) := by decide +kernel
theorem dX7_faultOf_4 : decode cX7_faultOf 4 = .ok (.iload_n 1, 1) := by decide +kernel
theorem dX7_faultOf_5 : decode cX7_faultOf 5 = .ok (.bipush 120, 2) := by decide +kernel
theorem dX7_faultOf_7 : decode cX7_faultOf 7 = .ok (.if_icmp .ge 12, 3) := by decide +kernel
theorem dX7_faultOf_10 : decode cX7_faultOf 10 = .ok (.aload_n 0, 1) := by decide +kernel
theorem dX7_faultOf_11 : decode cX7_faultOf 11 = .ok (.getfield 9, 3) := by decide +kernel
theorem dX7_faultOf_14 : decode cX7_faultOf 14 = .ok (.iload_n 1, 1) := by decide +kernel
theorem dX7_faultOf_15 : decode cX7_faultOf 15 = .ok (.iaload, 1) := by decide +kernel
theorem dX7_faultOf_16 : decode cX7_faultOf 16 = .ok (.goto 4, 3) := by decide +kernel
theorem dX7_faultOf_19 : decode cX7_faultOf 19 = .ok (.iconst 0, 1) := by decide +kernel
theorem dX7_faultOf_20 : decode cX7_faultOf 20 = .ok (.ireturn, 1) := by decide +kernel
theorem dX7_setFault_0 : decode cX7_setFault 0 = .ok (.iload_n 1, 1) := by decide +kernel
theorem dX7_setFault_1 : decode cX7_setFault 1 = .ok (.ifCond .lt 16, 3) := by decide +kernel
theorem dX7_setFault_4 : decode cX7_setFault 4 = .ok (.iload_n 1, 1) := by decide +kernel
theorem dX7_setFault_5 : decode cX7_setFault 5 = .ok (.bipush 120, 2) := by decide +kernel
theorem dX7_setFault_7 : decode cX7_setFault 7 = .ok (.if_icmp .ge 10, 3) := by decide +kernel
theorem dX7_setFault_10 : decode cX7_setFault 10 = .ok (.aload_n 0, 1) := by decide +kernel
theorem dX7_setFault_11 : decode cX7_setFault 11 = .ok (.getfield 9, 3) := by decide +kernel
theorem dX7_setFault_14 : decode cX7_setFault 14 = .ok (.iload_n 1, 1) := by decide +kernel
theorem dX7_setFault_15 : decode cX7_setFault 15 = .ok (.iload_n 2, 1) := by decide +kernel
theorem dX7_setFault_16 : decode cX7_setFault 16 = .ok (.iastore, 1) := by decide +kernel
theorem dX7_setFault_17 : decode cX7_setFault 17 = .ok (.return_, 1) := by decide +kernel
theorem dX7_fateOf_0 : decode cX7_fateOf 0 = .ok (.iload_n 1, 1) := by decide +kernel
theorem dX7_fateOf_1 : decode cX7_fateOf 1 = .ok (.ifCond .lt 18, 3) := by decide +kernel
theorem dX7_fateOf_4 : decode cX7_fateOf 4 = .ok (.iload_n 1, 1) := by decide +kernel
theorem dX7_fateOf_5 : decode cX7_fateOf 5 = .ok (.bipush 120, 2) := by decide +kernel
theorem dX7_fateOf_7 : decode cX7_fateOf 7 = .ok (.if_icmp .ge 12, 3) := by decide +kernel
theorem dX7_fateOf_10 : decode cX7_fateOf 10 = .ok (.aload_n 0, 1) := by decide +kernel
theorem dX7_fateOf_11 : decode cX7_fateOf 11 = .ok (.getfield 21, 3) := by decide +kernel
theorem dX7_fateOf_14 : decode cX7_fateOf 14 = .ok (.iload_n 1, 1) := by decide +kernel
theorem dX7_fateOf_15 : decode cX7_fateOf 15 = .ok (.iaload, 1) := by decide +kernel
theorem dX7_fateOf_16 : decode cX7_fateOf 16 = .ok (.goto 5, 3) := by decide +kernel
theorem dX7_fateOf_19 : decode cX7_fateOf 19 = .ok (.bipush 6, 2) := by decide +kernel
theorem dX7_fateOf_21 : decode cX7_fateOf 21 = .ok (.ireturn, 1) := by decide +kernel
theorem dX7_kindHad_0 : decode cX7_kindHad 0 = .ok (.iload_n 1, 1) := by decide +kernel
theorem dX7_kindHad_1 : decode cX7_kindHad 1 = .ok (.ifCond .lt 18, 3) := by decide +kernel
theorem dX7_kindHad_4 : decode cX7_kindHad 4 = .ok (.iload_n 1, 1) := by decide +kernel
theorem dX7_kindHad_5 : decode cX7_kindHad 5 = .ok (.bipush 120, 2) := by decide +kernel
theorem dX7_kindHad_7 : decode cX7_kindHad 7 = .ok (.if_icmp .ge 12, 3) := by decide +kernel
theorem dX7_kindHad_10 : decode cX7_kindHad 10 = .ok (.aload_n 0, 1) := by decide +kernel
theorem dX7_kindHad_11 : decode cX7_kindHad 11 = .ok (.getfield 24, 3) := by decide +kernel
theorem dX7_kindHad_14 : decode cX7_kindHad 14 = .ok (.iload_n 1, 1) := by decide +kernel
theorem dX7_kindHad_15 : decode cX7_kindHad 15 = .ok (.iaload, 1) := by decide +kernel
theorem dX7_kindHad_16 : decode cX7_kindHad 16 = .ok (.goto 4, 3) := by decide +kernel
theorem dX7_kindHad_19 : decode cX7_kindHad 19 = .ok (.iconst (-1), 1) := by decide +kernel
theorem dX7_kindHad_20 : decode cX7_kindHad 20 = .ok (.ireturn, 1) := by decide +kernel
theorem dX7_cueAt_0 : decode cX7_cueAt 0 = .ok (.iload_n 1, 1) := by decide +kernel
theorem dX7_cueAt_1 : decode cX7_cueAt 1 = .ok (.ifCond .lt 18, 3) := by decide +kernel
theorem dX7_cueAt_4 : decode cX7_cueAt 4 = .ok (.iload_n 1, 1) := by decide +kernel
theorem dX7_cueAt_5 : decode cX7_cueAt 5 = .ok (.bipush 120, 2) := by decide +kernel
theorem dX7_cueAt_7 : decode cX7_cueAt 7 = .ok (.if_icmp .ge 12, 3) := by decide +kernel
theorem dX7_cueAt_10 : decode cX7_cueAt 10 = .ok (.aload_n 0, 1) := by decide +kernel
theorem dX7_cueAt_11 : decode cX7_cueAt 11 = .ok (.getfield 15, 3) := by decide +kernel
theorem dX7_cueAt_14 : decode cX7_cueAt 14 = .ok (.iload_n 1, 1) := by decide +kernel
theorem dX7_cueAt_15 : decode cX7_cueAt 15 = .ok (.iaload, 1) := by decide +kernel
theorem dX7_cueAt_16 : decode cX7_cueAt 16 = .ok (.goto 4, 3) := by decide +kernel
theorem dX7_cueAt_19 : decode cX7_cueAt 19 = .ok (.iconst (-1), 1) := by decide +kernel
theorem dX7_cueAt_20 : decode cX7_cueAt 20 = .ok (.ireturn, 1) := by decide +kernel
theorem dX7_isExpected_0 : decode cX7_isExpected 0 = .ok (.aload_n 0, 1) := by decide +kernel
theorem dX7_isExpected_1 : decode cX7_isExpected 1 = .ok (.iload_n 1, 1) := by decide +kernel
theorem dX7_isExpected_2 : decode cX7_isExpected 2 = .ok (.invokevirtual 56, 3) := by decide +kernel
theorem dX7_isExpected_5 : decode cX7_isExpected 5 = .ok (.istore_n 2, 1) := by decide +kernel
theorem dX7_isExpected_6 : decode cX7_isExpected 6 = .ok (.aload_n 0, 1) := by decide +kernel
theorem dX7_isExpected_7 : decode cX7_isExpected 7 = .ok (.getfield 35, 3) := by decide +kernel
theorem dX7_isExpected_10 : decode cX7_isExpected 10 = .ok (.iload_n 1, 1) := by decide +kernel
theorem dX7_isExpected_11 : decode cX7_isExpected 11 = .ok (.invokevirtual 60, 3) := by decide +kernel
theorem dX7_isExpected_14 : decode cX7_isExpected 14 = .ok (.ifCond .eq 21, 3) := by decide +kernel
theorem dX7_isExpected_17 : decode cX7_isExpected 17 = .ok (.iload_n 2, 1) := by decide +kernel
theorem dX7_isExpected_18 : decode cX7_isExpected 18 = .ok (.ifCond .eq 13, 3) := by decide +kernel
theorem dX7_isExpected_21 : decode cX7_isExpected 21 = .ok (.iload_n 2, 1) := by decide +kernel
theorem dX7_isExpected_22 : decode cX7_isExpected 22 = .ok (.iconst 1, 1) := by decide +kernel
theorem dX7_isExpected_23 : decode cX7_isExpected 23 = .ok (.if_icmp .eq 8, 3) := by decide +kernel
theorem dX7_isExpected_26 : decode cX7_isExpected 26 = .ok (.iload_n 2, 1) := by decide +kernel
theorem dX7_isExpected_27 : decode cX7_isExpected 27 = .ok (.iconst 5, 1) := by decide +kernel
theorem dX7_isExpected_28 : decode cX7_isExpected 28 = .ok (.if_icmp .ne 7, 3) := by decide +kernel
theorem dX7_isExpected_31 : decode cX7_isExpected 31 = .ok (.iconst 1, 1) := by decide +kernel
theorem dX7_isExpected_32 : decode cX7_isExpected 32 = .ok (.goto 4, 3) := by decide +kernel
theorem dX7_isExpected_35 : decode cX7_isExpected 35 = .ok (.iconst 0, 1) := by decide +kernel
theorem dX7_isExpected_36 : decode cX7_isExpected 36 = .ok (.ireturn, 1) := by decide +kernel
theorem dX7_reckon_0 : decode cX7_reckon 0 = .ok (.aload_n 0, 1) := by decide +kernel
theorem dX7_reckon_1 : decode cX7_reckon 1 = .ok (.invokevirtual 66, 3) := by decide +kernel
theorem dX7_reckon_4 : decode cX7_reckon 4 = .ok (.iconst 0, 1) := by decide +kernel
theorem dX7_reckon_5 : decode cX7_reckon 5 = .ok (.istore_n 1, 1) := by decide +kernel
theorem dX7_reckon_6 : decode cX7_reckon 6 = .ok (.iload_n 1, 1) := by decide +kernel
theorem dX7_reckon_7 : decode cX7_reckon 7 = .ok (.aload_n 0, 1) := by decide +kernel
theorem dX7_reckon_8 : decode cX7_reckon 8 = .ok (.getfield 35, 3) := by decide +kernel
theorem dX7_reckon_11 : decode cX7_reckon 11 = .ok (.getfield 69, 3) := by decide +kernel
theorem dX7_reckon_14 : decode cX7_reckon 14 = .ok (.if_icmp .ge 42, 3) := by decide +kernel
theorem dX7_reckon_17 : decode cX7_reckon 17 = .ok (.iload_n 1, 1) := by decide +kernel
theorem dX7_reckon_18 : decode cX7_reckon 18 = .ok (.bipush 120, 2) := by decide +kernel
theorem dX7_reckon_20 : decode cX7_reckon 20 = .ok (.if_icmp .ge 36, 3) := by decide +kernel
theorem dX7_reckon_23 : decode cX7_reckon 23 = .ok (.aload_n 0, 1) := by decide +kernel
theorem dX7_reckon_24 : decode cX7_reckon 24 = .ok (.aload_n 0, 1) := by decide +kernel
theorem dX7_reckon_25 : decode cX7_reckon 25 = .ok (.getfield 15, 3) := by decide +kernel
theorem dX7_reckon_28 : decode cX7_reckon 28 = .ok (.iload_n 1, 1) := by decide +kernel
theorem dX7_reckon_29 : decode cX7_reckon 29 = .ok (.iaload, 1) := by decide +kernel
theorem dX7_reckon_30 : decode cX7_reckon 30 = .ok (.aload_n 0, 1) := by decide +kernel
theorem dX7_reckon_31 : decode cX7_reckon 31 = .ok (.getfield 18, 3) := by decide +kernel
theorem dX7_reckon_34 : decode cX7_reckon 34 = .ok (.iload_n 1, 1) := by decide +kernel
theorem dX7_reckon_35 : decode cX7_reckon 35 = .ok (.iaload, 1) := by decide +kernel
theorem dX7_reckon_36 : decode cX7_reckon 36 = .ok (.aload_n 0, 1) := by decide +kernel
theorem dX7_reckon_37 : decode cX7_reckon 37 = .ok (.iload_n 1, 1) := by decide +kernel
theorem dX7_reckon_38 : decode cX7_reckon 38 = .ok (.aload_n 0, 1) := by decide +kernel
theorem dX7_reckon_39 : decode cX7_reckon 39 = .ok (.getfield 18, 3) := by decide +kernel
theorem dX7_reckon_42 : decode cX7_reckon 42 = .ok (.iload_n 1, 1) := by decide +kernel
theorem dX7_reckon_43 : decode cX7_reckon 43 = .ok (.iaload, 1) := by decide +kernel
theorem dX7_reckon_44 : decode cX7_reckon 44 = .ok (.invokevirtual 72, 3) := by decide +kernel
theorem dX7_reckon_47 : decode cX7_reckon 47 = .ok (.invokevirtual 76, 3) := by decide +kernel
theorem dX7_reckon_50 : decode cX7_reckon 50 = .ok (.iinc 1 1, 3) := by decide +kernel
theorem dX7_reckon_53 : decode cX7_reckon 53 = .ok (.goto (-47), 3) := by decide +kernel
theorem dX7_reckon_56 : decode cX7_reckon 56 = .ok (.return_, 1) := by decide +kernel
theorem dX7_sortByFire_0 : decode cX7_sortByFire 0 = .ok (.iconst 0, 1) := by decide +kernel
theorem dX7_sortByFire_1 : decode cX7_sortByFire 1 = .ok (.istore_n 1, 1) := by decide +kernel
theorem dX7_sortByFire_2 : decode cX7_sortByFire 2 = .ok (.iload_n 1, 1) := by decide +kernel
theorem dX7_sortByFire_3 : decode cX7_sortByFire 3 = .ok (.aload_n 0, 1) := by decide +kernel
theorem dX7_sortByFire_4 : decode cX7_sortByFire 4 = .ok (.getfield 35, 3) := by decide +kernel
theorem dX7_sortByFire_7 : decode cX7_sortByFire 7 = .ok (.getfield 69, 3) := by decide +kernel
theorem dX7_sortByFire_10 : decode cX7_sortByFire 10 = .ok (.if_icmp .ge 94, 3) := by decide +kernel
theorem dX7_sortByFire_13 : decode cX7_sortByFire 13 = .ok (.iload_n 1, 1) := by decide +kernel
theorem dX7_sortByFire_14 : decode cX7_sortByFire 14 = .ok (.bipush 120, 2) := by decide +kernel
theorem dX7_sortByFire_16 : decode cX7_sortByFire 16 = .ok (.if_icmp .ge 88, 3) := by decide +kernel
theorem dX7_sortByFire_19 : decode cX7_sortByFire 19 = .ok (.aload_n 0, 1) := by decide +kernel
theorem dX7_sortByFire_20 : decode cX7_sortByFire 20 = .ok (.getfield 31, 3) := by decide +kernel
theorem dX7_sortByFire_23 : decode cX7_sortByFire 23 = .ok (.aload_n 0, 1) := by decide +kernel
theorem dX7_sortByFire_24 : decode cX7_sortByFire 24 = .ok (.getfield 35, 3) := by decide +kernel
theorem dX7_sortByFire_27 : decode cX7_sortByFire 27 = .ok (.iload_n 1, 1) := by decide +kernel
theorem dX7_sortByFire_28 : decode cX7_sortByFire 28 = .ok (.invokevirtual 80, 3) := by decide +kernel
theorem dX7_sortByFire_31 : decode cX7_sortByFire 31 = .ok (.istore_n 2, 1) := by decide +kernel
theorem dX7_sortByFire_32 : decode cX7_sortByFire 32 = .ok (.iload_n 1, 1) := by decide +kernel
theorem dX7_sortByFire_33 : decode cX7_sortByFire 33 = .ok (.istore_n 3, 1) := by decide +kernel
theorem dX7_sortByFire_34 : decode cX7_sortByFire 34 = .ok (.iload_n 3, 1) := by decide +kernel
theorem dX7_sortByFire_35 : decode cX7_sortByFire 35 = .ok (.ifCond .le 49, 3) := by decide +kernel
theorem dX7_sortByFire_38 : decode cX7_sortByFire 38 = .ok (.aload_n 0, 1) := by decide +kernel
theorem dX7_sortByFire_39 : decode cX7_sortByFire 39 = .ok (.getfield 18, 3) := by decide +kernel
theorem dX7_sortByFire_42 : decode cX7_sortByFire 42 = .ok (.iload_n 3, 1) := by decide +kernel
theorem dX7_sortByFire_43 : decode cX7_sortByFire 43 = .ok (.iconst 1, 1) := by decide +kernel
theorem dX7_sortByFire_44 : decode cX7_sortByFire 44 = .ok (.isub, 1) := by decide +kernel
theorem dX7_sortByFire_45 : decode cX7_sortByFire 45 = .ok (.iaload, 1) := by decide +kernel
theorem dX7_sortByFire_46 : decode cX7_sortByFire 46 = .ok (.iload_n 2, 1) := by decide +kernel
theorem dX7_sortByFire_47 : decode cX7_sortByFire 47 = .ok (.if_icmp .le 37, 3) := by decide +kernel
theorem dX7_sortByFire_50 : decode cX7_sortByFire 50 = .ok (.aload_n 0, 1) := by decide +kernel
theorem dX7_sortByFire_51 : decode cX7_sortByFire 51 = .ok (.getfield 18, 3) := by decide +kernel
theorem dX7_sortByFire_54 : decode cX7_sortByFire 54 = .ok (.iload_n 3, 1) := by decide +kernel
theorem dX7_sortByFire_55 : decode cX7_sortByFire 55 = .ok (.aload_n 0, 1) := by decide +kernel
theorem dX7_sortByFire_56 : decode cX7_sortByFire 56 = .ok (.getfield 18, 3) := by decide +kernel
theorem dX7_sortByFire_59 : decode cX7_sortByFire 59 = .ok (.iload_n 3, 1) := by decide +kernel
theorem dX7_sortByFire_60 : decode cX7_sortByFire 60 = .ok (.iconst 1, 1) := by decide +kernel
theorem dX7_sortByFire_61 : decode cX7_sortByFire 61 = .ok (.isub, 1) := by decide +kernel
theorem dX7_sortByFire_62 : decode cX7_sortByFire 62 = .ok (.iaload, 1) := by decide +kernel
theorem dX7_sortByFire_63 : decode cX7_sortByFire 63 = .ok (.iastore, 1) := by decide +kernel
theorem dX7_sortByFire_64 : decode cX7_sortByFire 64 = .ok (.aload_n 0, 1) := by decide +kernel
theorem dX7_sortByFire_65 : decode cX7_sortByFire 65 = .ok (.getfield 15, 3) := by decide +kernel
theorem dX7_sortByFire_68 : decode cX7_sortByFire 68 = .ok (.iload_n 3, 1) := by decide +kernel
theorem dX7_sortByFire_69 : decode cX7_sortByFire 69 = .ok (.aload_n 0, 1) := by decide +kernel
theorem dX7_sortByFire_70 : decode cX7_sortByFire 70 = .ok (.getfield 15, 3) := by decide +kernel
theorem dX7_sortByFire_73 : decode cX7_sortByFire 73 = .ok (.iload_n 3, 1) := by decide +kernel
theorem dX7_sortByFire_74 : decode cX7_sortByFire 74 = .ok (.iconst 1, 1) := by decide +kernel
theorem dX7_sortByFire_75 : decode cX7_sortByFire 75 = .ok (.isub, 1) := by decide +kernel
theorem dX7_sortByFire_76 : decode cX7_sortByFire 76 = .ok (.iaload, 1) := by decide +kernel
theorem dX7_sortByFire_77 : decode cX7_sortByFire 77 = .ok (.iastore, 1) := by decide +kernel
theorem dX7_sortByFire_78 : decode cX7_sortByFire 78 = .ok (.iinc 3 (-1), 3) := by decide +kernel
theorem dX7_sortByFire_81 : decode cX7_sortByFire 81 = .ok (.goto (-47), 3) := by decide +kernel
theorem dX7_sortByFire_84 : decode cX7_sortByFire 84 = .ok (.aload_n 0, 1) := by decide +kernel
theorem dX7_sortByFire_85 : decode cX7_sortByFire 85 = .ok (.getfield 18, 3) := by decide +kernel
theorem dX7_sortByFire_88 : decode cX7_sortByFire 88 = .ok (.iload_n 3, 1) := by decide +kernel
theorem dX7_sortByFire_89 : decode cX7_sortByFire 89 = .ok (.iload_n 2, 1) := by decide +kernel
theorem dX7_sortByFire_90 : decode cX7_sortByFire 90 = .ok (.iastore, 1) := by decide +kernel
theorem dX7_sortByFire_91 : decode cX7_sortByFire 91 = .ok (.aload_n 0, 1) := by decide +kernel
theorem dX7_sortByFire_92 : decode cX7_sortByFire 92 = .ok (.getfield 15, 3) := by decide +kernel
theorem dX7_sortByFire_95 : decode cX7_sortByFire 95 = .ok (.iload_n 3, 1) := by decide +kernel
theorem dX7_sortByFire_96 : decode cX7_sortByFire 96 = .ok (.iload_n 1, 1) := by decide +kernel
theorem dX7_sortByFire_97 : decode cX7_sortByFire 97 = .ok (.iastore, 1) := by decide +kernel
theorem dX7_sortByFire_98 : decode cX7_sortByFire 98 = .ok (.iinc 1 1, 3) := by decide +kernel
theorem dX7_sortByFire_101 : decode cX7_sortByFire 101 = .ok (.goto (-99), 3) := by decide +kernel
theorem dX7_sortByFire_104 : decode cX7_sortByFire 104 = .ok (.return_, 1) := by decide +kernel
theorem dX7_misfiresSeen_0 : decode cX7_misfiresSeen 0 = .ok (.iconst 0, 1) := by decide +kernel
theorem dX7_misfiresSeen_1 : decode cX7_misfiresSeen 1 = .ok (.istore_n 3, 1) := by decide +kernel
theorem dX7_misfiresSeen_2 : decode cX7_misfiresSeen 2 = .ok (.iconst 0, 1) := by decide +kernel
theorem dX7_misfiresSeen_3 : decode cX7_misfiresSeen 3 = .ok (.istore 4, 2) := by decide +kernel
theorem dX7_misfiresSeen_5 : decode cX7_misfiresSeen 5 = .ok (.iload 4, 2) := by decide +kernel
theorem dX7_misfiresSeen_7 : decode cX7_misfiresSeen 7 = .ok (.iload_n 1, 1) := by decide +kernel
theorem dX7_misfiresSeen_8 : decode cX7_misfiresSeen 8 = .ok (.if_icmp .ge 51, 3) := by decide +kernel
theorem dX7_misfiresSeen_11 : decode cX7_misfiresSeen 11 = .ok (.iload 4, 2) := by decide +kernel
theorem dX7_misfiresSeen_13 : decode cX7_misfiresSeen 13 = .ok (.bipush 120, 2) := by decide +kernel
theorem dX7_misfiresSeen_15 : decode cX7_misfiresSeen 15 = .ok (.if_icmp .ge 44, 3) := by decide +kernel
theorem dX7_misfiresSeen_18 : decode cX7_misfiresSeen 18 = .ok (.aload_n 0, 1) := by decide +kernel
theorem dX7_misfiresSeen_19 : decode cX7_misfiresSeen 19 = .ok (.getfield 15, 3) := by decide +kernel
theorem dX7_misfiresSeen_22 : decode cX7_misfiresSeen 22 = .ok (.iload 4, 2) := by decide +kernel
theorem dX7_misfiresSeen_24 : decode cX7_misfiresSeen 24 = .ok (.iaload, 1) := by decide +kernel
theorem dX7_misfiresSeen_25 : decode cX7_misfiresSeen 25 = .ok (.istore 5, 2) := by decide +kernel
theorem dX7_misfiresSeen_27 : decode cX7_misfiresSeen 27 = .ok (.aload_n 0, 1) := by decide +kernel
theorem dX7_misfiresSeen_28 : decode cX7_misfiresSeen 28 = .ok (.iload 5, 2) := by decide +kernel
theorem dX7_misfiresSeen_30 : decode cX7_misfiresSeen 30 = .ok (.invokevirtual 56, 3) := by decide +kernel
theorem dX7_misfiresSeen_33 : decode cX7_misfiresSeen 33 = .ok (.iconst 5, 1) := by decide +kernel
theorem dX7_misfiresSeen_34 : decode cX7_misfiresSeen 34 = .ok (.if_icmp .ne 19, 3) := by decide +kernel
theorem dX7_misfiresSeen_37 : decode cX7_misfiresSeen 37 = .ok (.aload_n 0, 1) := by decide +kernel
theorem dX7_misfiresSeen_38 : decode cX7_misfiresSeen 38 = .ok (.getfield 35, 3) := by decide +kernel
theorem dX7_misfiresSeen_41 : decode cX7_misfiresSeen 41 = .ok (.iload 5, 2) := by decide +kernel
theorem dX7_misfiresSeen_43 : decode cX7_misfiresSeen 43 = .ok (.invokevirtual 86, 3) := by decide +kernel
theorem dX7_misfiresSeen_46 : decode cX7_misfiresSeen 46 = .ok (.iload_n 2, 1) := by decide +kernel
theorem dX7_misfiresSeen_47 : decode cX7_misfiresSeen 47 = .ok (.if_icmp .gt 6, 3) := by decide +kernel
theorem dX7_misfiresSeen_50 : decode cX7_misfiresSeen 50 = .ok (.iinc 3 1, 3) := by decide +kernel
theorem dX7_misfiresSeen_53 : decode cX7_misfiresSeen 53 = .ok (.iinc 4 1, 3) := by decide +kernel
theorem dX7_misfiresSeen_56 : decode cX7_misfiresSeen 56 = .ok (.goto (-51), 3) := by decide +kernel
theorem dX7_misfiresSeen_59 : decode cX7_misfiresSeen 59 = .ok (.iload_n 3, 1) := by decide +kernel
theorem dX7_misfiresSeen_60 : decode cX7_misfiresSeen 60 = .ok (.ireturn, 1) := by decide +kernel
theorem dX7_reckonFate_0 : decode cX7_reckonFate 0 = .ok (.iload_n 1, 1) := by decide +kernel
theorem dX7_reckonFate_1 : decode cX7_reckonFate 1 = .ok (.ifCond .lt 9, 3) := by decide +kernel
theorem dX7_reckonFate_4 : decode cX7_reckonFate 4 = .ok (.iload_n 1, 1) := by decide +kernel
theorem dX7_reckonFate_5 : decode cX7_reckonFate 5 = .ok (.bipush 120, 2) := by decide +kernel
theorem dX7_reckonFate_7 : decode cX7_reckonFate 7 = .ok (.if_icmp .lt 4, 3) := by decide +kernel
theorem dX7_reckonFate_10 : decode cX7_reckonFate 10 = .ok (.return_, 1) := by decide +kernel
theorem dX7_reckonFate_11 : decode cX7_reckonFate 11 = .ok (.aload_n 0, 1) := by decide +kernel
theorem dX7_reckonFate_12 : decode cX7_reckonFate 12 = .ok (.getfield 39, 3) := by decide +kernel
theorem dX7_reckonFate_15 : decode cX7_reckonFate 15 = .ok (.iload_n 2, 1) := by decide +kernel
theorem dX7_reckonFate_16 : decode cX7_reckonFate 16 = .ok (.invokevirtual 89, 3) := by decide +kernel
theorem dX7_reckonFate_19 : decode cX7_reckonFate 19 = .ok (.istore 4, 2) := by decide +kernel
theorem dX7_reckonFate_21 : decode cX7_reckonFate 21 = .ok (.aload_n 0, 1) := by decide +kernel
theorem dX7_reckonFate_22 : decode cX7_reckonFate 22 = .ok (.getfield 24, 3) := by decide +kernel
theorem dX7_reckonFate_25 : decode cX7_reckonFate 25 = .ok (.iload_n 1, 1) := by decide +kernel
theorem dX7_reckonFate_26 : decode cX7_reckonFate 26 = .ok (.aload_n 0, 1) := by decide +kernel
theorem dX7_reckonFate_27 : decode cX7_reckonFate 27 = .ok (.getfield 35, 3) := by decide +kernel
theorem dX7_reckonFate_30 : decode cX7_reckonFate 30 = .ok (.iload_n 1, 1) := by decide +kernel
theorem dX7_reckonFate_31 : decode cX7_reckonFate 31 = .ok (.invokevirtual 94, 3) := by decide +kernel
theorem dX7_reckonFate_34 : decode cX7_reckonFate 34 = .ok (.iastore, 1) := by decide +kernel
theorem dX7_reckonFate_35 : decode cX7_reckonFate 35 = .ok (.aload_n 0, 1) := by decide +kernel
theorem dX7_reckonFate_36 : decode cX7_reckonFate 36 = .ok (.getfield 35, 3) := by decide +kernel
theorem dX7_reckonFate_39 : decode cX7_reckonFate 39 = .ok (.iload_n 1, 1) := by decide +kernel
theorem dX7_reckonFate_40 : decode cX7_reckonFate 40 = .ok (.invokevirtual 97, 3) := by decide +kernel
theorem dX7_reckonFate_43 : decode cX7_reckonFate 43 = .ok (.iconst (-1), 1) := by decide +kernel
theorem dX7_reckonFate_44 : decode cX7_reckonFate 44 = .ok (.if_icmp .ne 14, 3) := by decide +kernel
theorem dX7_reckonFate_47 : decode cX7_reckonFate 47 = .ok (.aload_n 0, 1) := by decide +kernel
theorem dX7_reckonFate_48 : decode cX7_reckonFate 48 = .ok (.getfield 21, 3) := by decide +kernel
theorem dX7_reckonFate_51 : decode cX7_reckonFate 51 = .ok (.iload_n 1, 1) := by decide +kernel
theorem dX7_reckonFate_52 : decode cX7_reckonFate 52 = .ok (.bipush 6, 2) := by decide +kernel
theorem dX7_reckonFate_54 : decode cX7_reckonFate 54 = .ok (.iastore, 1) := by decide +kernel
theorem dX7_reckonFate_55 : decode cX7_reckonFate 55 = .ok (.goto 124, 3) := by decide +kernel
theorem dX7_reckonFate_58 : decode cX7_reckonFate 58 = .ok (.aload_n 0, 1) := by decide +kernel
theorem dX7_reckonFate_59 : decode cX7_reckonFate 59 = .ok (.getfield 27, 3) := by decide +kernel
theorem dX7_reckonFate_62 : decode cX7_reckonFate 62 = .ok (.iconst (-1), 1) := by decide +kernel
theorem dX7_reckonFate_63 : decode cX7_reckonFate 63 = .ok (.if_icmp .eq 21, 3) := by decide +kernel
theorem dX7_reckonFate_66 : decode cX7_reckonFate 66 = .ok (.iload_n 2, 1) := by decide +kernel
theorem dX7_reckonFate_67 : decode cX7_reckonFate 67 = .ok (.aload_n 0, 1) := by decide +kernel
theorem dX7_reckonFate_68 : decode cX7_reckonFate 68 = .ok (.getfield 27, 3) := by decide +kernel
theorem dX7_reckonFate_71 : decode cX7_reckonFate 71 = .ok (.if_icmp .lt 13, 3) := by decide +kernel
theorem dX7_reckonFate_74 : decode cX7_reckonFate 74 = .ok (.aload_n 0, 1) := by decide +kernel
theorem dX7_reckonFate_75 : decode cX7_reckonFate 75 = .ok (.getfield 21, 3) := by decide +kernel
theorem dX7_reckonFate_78 : decode cX7_reckonFate 78 = .ok (.iload_n 1, 1) := by decide +kernel
theorem dX7_reckonFate_79 : decode cX7_reckonFate 79 = .ok (.iconst 4, 1) := by decide +kernel
theorem dX7_reckonFate_80 : decode cX7_reckonFate 80 = .ok (.iastore, 1) := by decide +kernel
theorem dX7_reckonFate_81 : decode cX7_reckonFate 81 = .ok (.goto 98, 3) := by decide +kernel
theorem dX7_reckonFate_84 : decode cX7_reckonFate 84 = .ok (.aload_n 0, 1) := by decide +kernel
theorem dX7_reckonFate_85 : decode cX7_reckonFate 85 = .ok (.getfield 43, 3) := by decide +kernel
theorem dX7_reckonFate_88 : decode cX7_reckonFate 88 = .ok (.aload_n 0, 1) := by decide +kernel
theorem dX7_reckonFate_89 : decode cX7_reckonFate 89 = .ok (.getfield 35, 3) := by decide +kernel
theorem dX7_reckonFate_92 : decode cX7_reckonFate 92 = .ok (.iload_n 1, 1) := by decide +kernel
theorem dX7_reckonFate_93 : decode cX7_reckonFate 93 = .ok (.iload_n 2, 1) := by decide +kernel
theorem dX7_reckonFate_94 : decode cX7_reckonFate 94 = .ok (.iload 4, 2) := by decide +kernel
theorem dX7_reckonFate_96 : decode cX7_reckonFate 96 = .ok (.iload_n 3, 1) := by decide +kernel
theorem dX7_reckonFate_97 : decode cX7_reckonFate 97 = .ok (.invokevirtual 100, 3) := by decide +kernel
theorem dX7_reckonFate_100 : decode cX7_reckonFate 100 = .ok (.ifCond .eq 13, 3) := by decide +kernel
theorem dX7_reckonFate_103 : decode cX7_reckonFate 103 = .ok (.aload_n 0, 1) := by decide +kernel
theorem dX7_reckonFate_104 : decode cX7_reckonFate 104 = .ok (.getfield 21, 3) := by decide +kernel
theorem dX7_reckonFate_107 : decode cX7_reckonFate 107 = .ok (.iload_n 1, 1) := by decide +kernel
theorem dX7_reckonFate_108 : decode cX7_reckonFate 108 = .ok (.iconst 3, 1) := by decide +kernel
theorem dX7_reckonFate_109 : decode cX7_reckonFate 109 = .ok (.iastore, 1) := by decide +kernel
theorem dX7_reckonFate_110 : decode cX7_reckonFate 110 = .ok (.goto 69, 3) := by decide +kernel
theorem dX7_reckonFate_113 : decode cX7_reckonFate 113 = .ok (.aload_n 0, 1) := by decide +kernel
theorem dX7_reckonFate_114 : decode cX7_reckonFate 114 = .ok (.iload_n 1, 1) := by decide +kernel
theorem dX7_reckonFate_115 : decode cX7_reckonFate 115 = .ok (.iload 4, 2) := by decide +kernel
theorem dX7_reckonFate_117 : decode cX7_reckonFate 117 = .ok (.invokevirtual 106, 3) := by decide +kernel
theorem dX7_reckonFate_120 : decode cX7_reckonFate 120 = .ok (.istore 5, 2) := by decide +kernel
theorem dX7_reckonFate_122 : decode cX7_reckonFate 122 = .ok (.aload_n 0, 1) := by decide +kernel
theorem dX7_reckonFate_123 : decode cX7_reckonFate 123 = .ok (.getfield 21, 3) := by decide +kernel
theorem dX7_reckonFate_126 : decode cX7_reckonFate 126 = .ok (.iload_n 1, 1) := by decide +kernel
theorem dX7_reckonFate_127 : decode cX7_reckonFate 127 = .ok (.iload 5, 2) := by decide +kernel
theorem dX7_reckonFate_129 : decode cX7_reckonFate 129 = .ok (.iconst (-1), 1) := by decide +kernel
theorem dX7_reckonFate_130 : decode cX7_reckonFate 130 = .ok (.if_icmp .ne 7, 3) := by decide +kernel
theorem dX7_reckonFate_133 : decode cX7_reckonFate 133 = .ok (.iconst 2, 1) := by decide +kernel
theorem dX7_reckonFate_134 : decode cX7_reckonFate 134 = .ok (.goto 36, 3) := by decide +kernel
theorem dX7_reckonFate_137 : decode cX7_reckonFate 137 = .ok (.aload_n 0, 1) := by decide +kernel
theorem dX7_reckonFate_138 : decode cX7_reckonFate 138 = .ok (.getfield 9, 3) := by decide +kernel
theorem dX7_reckonFate_141 : decode cX7_reckonFate 141 = .ok (.iload_n 1, 1) := by decide +kernel
theorem dX7_reckonFate_142 : decode cX7_reckonFate 142 = .ok (.iaload, 1) := by decide +kernel
theorem dX7_reckonFate_143 : decode cX7_reckonFate 143 = .ok (.bipush 6, 2) := by decide +kernel
theorem dX7_reckonFate_145 : decode cX7_reckonFate 145 = .ok (.if_icmp .ne 7, 3) := by decide +kernel
theorem dX7_reckonFate_148 : decode cX7_reckonFate 148 = .ok (.iconst 5, 1) := by decide +kernel
theorem dX7_reckonFate_149 : decode cX7_reckonFate 149 = .ok (.goto 21, 3) := by decide +kernel
theorem dX7_reckonFate_152 : decode cX7_reckonFate 152 = .ok (.iload 5, 2) := by decide +kernel
theorem dX7_reckonFate_154 : decode cX7_reckonFate 154 = .ok (.aload_n 0, 1) := by decide +kernel
theorem dX7_reckonFate_155 : decode cX7_reckonFate 155 = .ok (.getfield 35, 3) := by decide +kernel
theorem dX7_reckonFate_158 : decode cX7_reckonFate 158 = .ok (.iload_n 1, 1) := by decide +kernel
theorem dX7_reckonFate_159 : decode cX7_reckonFate 159 = .ok (.invokevirtual 94, 3) := by decide +kernel
theorem dX7_reckonFate_162 : decode cX7_reckonFate 162 = .ok (.if_icmp .ne 7, 3) := by decide +kernel
theorem dX7_reckonFate_165 : decode cX7_reckonFate 165 = .ok (.iconst 0, 1) := by decide +kernel
theorem dX7_reckonFate_166 : decode cX7_reckonFate 166 = .ok (.goto 4, 3) := by decide +kernel
theorem dX7_reckonFate_169 : decode cX7_reckonFate 169 = .ok (.iconst 1, 1) := by decide +kernel
theorem dX7_reckonFate_170 : decode cX7_reckonFate 170 = .ok (.iastore, 1) := by decide +kernel
theorem dX7_reckonFate_171 : decode cX7_reckonFate 171 = .ok (.aload_n 0, 1) := by decide +kernel
theorem dX7_reckonFate_172 : decode cX7_reckonFate 172 = .ok (.getfield 24, 3) := by decide +kernel
theorem dX7_reckonFate_175 : decode cX7_reckonFate 175 = .ok (.iload_n 1, 1) := by decide +kernel
theorem dX7_reckonFate_176 : decode cX7_reckonFate 176 = .ok (.iload 5, 2) := by decide +kernel
theorem dX7_reckonFate_178 : decode cX7_reckonFate 178 = .ok (.iastore, 1) := by decide +kernel
theorem dX7_reckonFate_179 : decode cX7_reckonFate 179 = .ok (.return_, 1) := by decide +kernel
theorem dX7_kindToFire_0 : decode cX7_kindToFire 0 = .ok (.aload_n 0, 1) := by decide +kernel
theorem dX7_kindToFire_1 : decode cX7_kindToFire 1 = .ok (.getfield 31, 3) := by decide +kernel
theorem dX7_kindToFire_4 : decode cX7_kindToFire 4 = .ok (.getfield 109, 3) := by decide +kernel
theorem dX7_kindToFire_7 : decode cX7_kindToFire 7 = .ok (.astore_n 3, 1) := by decide +kernel
theorem dX7_kindToFire_8 : decode cX7_kindToFire 8 = .ok (.aload_n 0, 1) := by decide +kernel
theorem dX7_kindToFire_9 : decode cX7_kindToFire 9 = .ok (.getfield 35, 3) := by decide +kernel
theorem dX7_kindToFire_12 : decode cX7_kindToFire 12 = .ok (.iload_n 1, 1) := by decide +kernel
theorem dX7_kindToFire_13 : decode cX7_kindToFire 13 = .ok (.invokevirtual 94, 3) := by decide +kernel
theorem dX7_kindToFire_16 : decode cX7_kindToFire 16 = .ok (.istore 4, 2) := by decide +kernel
theorem dX7_kindToFire_18 : decode cX7_kindToFire 18 = .ok (.aload_n 0, 1) := by decide +kernel
theorem dX7_kindToFire_19 : decode cX7_kindToFire 19 = .ok (.getfield 35, 3) := by decide +kernel
theorem dX7_kindToFire_22 : decode cX7_kindToFire 22 = .ok (.iload_n 1, 1) := by decide +kernel
theorem dX7_kindToFire_23 : decode cX7_kindToFire 23 = .ok (.invokevirtual 97, 3) := by decide +kernel
theorem dX7_kindToFire_26 : decode cX7_kindToFire 26 = .ok (.istore 5, 2) := by decide +kernel
theorem dX7_kindToFire_28 : decode cX7_kindToFire 28 = .ok (.aload_n 0, 1) := by decide +kernel
theorem dX7_kindToFire_29 : decode cX7_kindToFire 29 = .ok (.getfield 35, 3) := by decide +kernel
theorem dX7_kindToFire_32 : decode cX7_kindToFire 32 = .ok (.iload_n 1, 1) := by decide +kernel
theorem dX7_kindToFire_33 : decode cX7_kindToFire 33 = .ok (.invokevirtual 113, 3) := by decide +kernel
theorem dX7_kindToFire_36 : decode cX7_kindToFire 36 = .ok (.istore 6, 2) := by decide +kernel
theorem dX7_kindToFire_38 : decode cX7_kindToFire 38 = .ok (.aload_n 0, 1) := by decide +kernel
theorem dX7_kindToFire_39 : decode cX7_kindToFire 39 = .ok (.getfield 31, 3) := by decide +kernel
theorem dX7_kindToFire_42 : decode cX7_kindToFire 42 = .ok (.iload 4, 2) := by decide +kernel
theorem dX7_kindToFire_44 : decode cX7_kindToFire 44 = .ok (.iload 5, 2) := by decide +kernel
theorem dX7_kindToFire_46 : decode cX7_kindToFire 46 = .ok (.iload 6, 2) := by decide +kernel
theorem dX7_kindToFire_48 : decode cX7_kindToFire 48 = .ok (.iload_n 2, 1) := by decide +kernel
theorem dX7_kindToFire_49 : decode cX7_kindToFire 49 = .ok (.invokevirtual 116, 3) := by decide +kernel
theorem dX7_kindToFire_52 : decode cX7_kindToFire 52 = .ok (.ifCond .eq 6, 3) := by decide +kernel
theorem dX7_kindToFire_55 : decode cX7_kindToFire 55 = .ok (.iload 4, 2) := by decide +kernel
theorem dX7_kindToFire_57 : decode cX7_kindToFire 57 = .ok (.ireturn, 1) := by decide +kernel
theorem dX7_kindToFire_58 : decode cX7_kindToFire 58 = .ok (.iconst 0, 1) := by decide +kernel
theorem dX7_kindToFire_59 : decode cX7_kindToFire 59 = .ok (.istore 7, 2) := by decide +kernel
theorem dX7_kindToFire_61 : decode cX7_kindToFire 61 = .ok (.iload 7, 2) := by decide +kernel
theorem dX7_kindToFire_63 : decode cX7_kindToFire 63 = .ok (.bipush 12, 2) := by decide +kernel
theorem dX7_kindToFire_65 : decode cX7_kindToFire 65 = .ok (.if_icmp .ge 82, 3) := by decide +kernel
theorem dX7_kindToFire_68 : decode cX7_kindToFire 68 = .ok (.aload_n 3, 1) := by decide +kernel
theorem dX7_kindToFire_69 : decode cX7_kindToFire 69 = .ok (.iload 7, 2) := by decide +kernel
theorem dX7_kindToFire_71 : decode cX7_kindToFire 71 = .ok (.invokevirtual 120, 3) := by decide +kernel
theorem dX7_kindToFire_74 : decode cX7_kindToFire 74 = .ok (.ifCond .eq 67, 3) := by decide +kernel
theorem dX7_kindToFire_77 : decode cX7_kindToFire 77 = .ok (.aload_n 3, 1) := by decide +kernel
theorem dX7_kindToFire_78 : decode cX7_kindToFire 78 = .ok (.iload 7, 2) := by decide +kernel
theorem dX7_kindToFire_80 : decode cX7_kindToFire 80 = .ok (.invokevirtual 125, 3) := by decide +kernel
theorem dX7_kindToFire_83 : decode cX7_kindToFire 83 = .ok (.aload_n 3, 1) := by decide +kernel
theorem dX7_kindToFire_84 : decode cX7_kindToFire 84 = .ok (.iload 4, 2) := by decide +kernel
theorem dX7_kindToFire_86 : decode cX7_kindToFire 86 = .ok (.invokevirtual 125, 3) := by decide +kernel
theorem dX7_kindToFire_89 : decode cX7_kindToFire 89 = .ok (.if_icmp .ne 52, 3) := by decide +kernel
theorem dX7_kindToFire_92 : decode cX7_kindToFire 92 = .ok (.aload_n 3, 1) := by decide +kernel
theorem dX7_kindToFire_93 : decode cX7_kindToFire 93 = .ok (.iload 7, 2) := by decide +kernel
theorem dX7_kindToFire_95 : decode cX7_kindToFire 95 = .ok (.invokevirtual 128, 3) := by decide +kernel
theorem dX7_kindToFire_98 : decode cX7_kindToFire 98 = .ok (.aload_n 3, 1) := by decide +kernel
theorem dX7_kindToFire_99 : decode cX7_kindToFire 99 = .ok (.iload 4, 2) := by decide +kernel
theorem dX7_kindToFire_101 : decode cX7_kindToFire 101 = .ok (.invokevirtual 128, 3) := by decide +kernel
theorem dX7_kindToFire_104 : decode cX7_kindToFire 104 = .ok (.if_icmp .gt 37, 3) := by decide +kernel
theorem dX7_kindToFire_107 : decode cX7_kindToFire 107 = .ok (.aload_n 0, 1) := by decide +kernel
theorem dX7_kindToFire_108 : decode cX7_kindToFire 108 = .ok (.getfield 31, 3) := by decide +kernel
theorem dX7_kindToFire_111 : decode cX7_kindToFire 111 = .ok (.iload 7, 2) := by decide +kernel
theorem dX7_kindToFire_113 : decode cX7_kindToFire 113 = .ok (.iload 5, 2) := by decide +kernel
theorem dX7_kindToFire_115 : decode cX7_kindToFire 115 = .ok (.iload 6, 2) := by decide +kernel
theorem dX7_kindToFire_117 : decode cX7_kindToFire 117 = .ok (.iload_n 2, 1) := by decide +kernel
theorem dX7_kindToFire_118 : decode cX7_kindToFire 118 = .ok (.invokevirtual 116, 3) := by decide +kernel
theorem dX7_kindToFire_121 : decode cX7_kindToFire 121 = .ok (.ifCond .eq 20, 3) := by decide +kernel
theorem dX7_kindToFire_124 : decode cX7_kindToFire 124 = .ok (.aload_n 0, 1) := by decide +kernel
theorem dX7_kindToFire_125 : decode cX7_kindToFire 125 = .ok (.getfield 31, 3) := by decide +kernel
theorem dX7_kindToFire_128 : decode cX7_kindToFire 128 = .ok (.iload 5, 2) := by decide +kernel
theorem dX7_kindToFire_130 : decode cX7_kindToFire 130 = .ok (.iload 7, 2) := by decide +kernel
theorem dX7_kindToFire_132 : decode cX7_kindToFire 132 = .ok (.invokevirtual 131, 3) := by decide +kernel
theorem dX7_kindToFire_135 : decode cX7_kindToFire 135 = .ok (.ifCond .eq 6, 3) := by decide +kernel
theorem dX7_kindToFire_138 : decode cX7_kindToFire 138 = .ok (.iload 7, 2) := by decide +kernel
theorem dX7_kindToFire_140 : decode cX7_kindToFire 140 = .ok (.ireturn, 1) := by decide +kernel
theorem dX7_kindToFire_141 : decode cX7_kindToFire 141 = .ok (.iinc 7 1, 3) := by decide +kernel
theorem dX7_kindToFire_144 : decode cX7_kindToFire 144 = .ok (.goto (-83), 3) := by decide +kernel
theorem dX7_kindToFire_147 : decode cX7_kindToFire 147 = .ok (.iconst (-1), 1) := by decide +kernel
theorem dX7_kindToFire_148 : decode cX7_kindToFire 148 = .ok (.ireturn, 1) := by decide +kernel
theorem dX8_init_0 : decode cX8_init 0 = .ok (.aload_n 0, 1) := by decide +kernel
theorem dX8_init_1 : decode cX8_init 1 = .ok (.invokespecial 3, 3) := by decide +kernel
theorem dX8_init_4 : decode cX8_init 4 = .ok (.aload_n 0, 1) := by decide +kernel
theorem dX8_init_5 : decode cX8_init 5 = .ok (.sipush 1024, 3) := by decide +kernel
theorem dX8_init_8 : decode cX8_init 8 = .ok (.newarray .byte, 2) := by decide +kernel
theorem dX8_init_10 : decode cX8_init 10 = .ok (.putfield 9, 3) := by decide +kernel
theorem dX8_init_13 : decode cX8_init 13 = .ok (.aload_n 0, 1) := by decide +kernel
theorem dX8_init_14 : decode cX8_init 14 = .ok (.bipush 6, 2) := by decide +kernel
theorem dX8_init_16 : decode cX8_init 16 = .ok (.newarray .int, 2) := by decide +kernel
theorem dX8_init_18 : decode cX8_init 18 = .ok (.putfield 15, 3) := by decide +kernel
theorem dX8_init_21 : decode cX8_init 21 = .ok (.aload_n 0, 1) := by decide +kernel
theorem dX8_init_22 : decode cX8_init 22 = .ok (.bipush 6, 2) := by decide +kernel
theorem dX8_init_24 : decode cX8_init 24 = .ok (.newarray .int, 2) := by decide +kernel
theorem dX8_init_26 : decode cX8_init 26 = .ok (.putfield 19, 3) := by decide +kernel
theorem dX8_init_29 : decode cX8_init 29 = .ok (.aload_n 0, 1) := by decide +kernel
theorem dX8_init_30 : decode cX8_init 30 = .ok (.bipush 6, 2) := by decide +kernel
theorem dX8_init_32 : decode cX8_init 32 = .ok (.newarray .int, 2) := by decide +kernel
theorem dX8_init_34 : decode cX8_init 34 = .ok (.putfield 22, 3) := by decide +kernel
theorem dX8_init_37 : decode cX8_init 37 = .ok (.aload_n 0, 1) := by decide +kernel
theorem dX8_init_38 : decode cX8_init 38 = .ok (.new 25, 3) := by decide +kernel
theorem dX8_init_41 : decode cX8_init 41 = .ok (.dup, 1) := by decide +kernel
theorem dX8_init_42 : decode cX8_init 42 = .ok (.invokespecial 27, 3) := by decide +kernel
theorem dX8_init_45 : decode cX8_init 45 = .ok (.putfield 28, 3) := by decide +kernel
theorem dX8_init_48 : decode cX8_init 48 = .ok (.aload_n 0, 1) := by decide +kernel
theorem dX8_init_49 : decode cX8_init 49 = .ok (.new 32, 3) := by decide +kernel
theorem dX8_init_52 : decode cX8_init 52 = .ok (.dup, 1) := by decide +kernel
theorem dX8_init_53 : decode cX8_init 53 = .ok (.invokespecial 34, 3) := by decide +kernel
theorem dX8_init_56 : decode cX8_init 56 = .ok (.putfield 35, 3) := by decide +kernel
theorem dX8_init_59 : decode cX8_init 59 = .ok (.return_, 1) := by decide +kernel
theorem dX8_forget_0 : decode cX8_forget 0 = .ok (.aload_n 0, 1) := by decide +kernel
theorem dX8_forget_1 : decode cX8_forget 1 = .ok (.getfield 9, 3) := by decide +kernel
theorem dX8_forget_4 : decode cX8_forget 4 = .ok (.iconst 0, 1) := by decide +kernel
theorem dX8_forget_5 : decode cX8_forget 5 = .ok (.invokestatic 39, 3) := by decide +kernel
theorem dX8_forget_8 : decode cX8_forget 8 = .ok (.aload_n 0, 1) := by decide +kernel
theorem dX8_forget_9 : decode cX8_forget 9 = .ok (.getfield 22, 3) := by decide +kernel
theorem dX8_forget_12 : decode cX8_forget 12 = .ok (.iconst 0, 1) := by decide +kernel
theorem dX8_forget_13 : decode cX8_forget 13 = .ok (.invokestatic 45, 3) := by decide +kernel
theorem dX8_forget_16 : decode cX8_forget 16 = .ok (.aload_n 0, 1) := by decide +kernel
theorem dX8_forget_17 : decode cX8_forget 17 = .ok (.getfield 28, 3) := by decide +kernel
theorem dX8_forget_20 : decode cX8_forget 20 = .ok (.invokevirtual 48, 3) := by decide +kernel
theorem dX8_forget_23 : decode cX8_forget 23 = .ok (.aload_n 0, 1) := by decide +kernel
theorem dX8_forget_24 : decode cX8_forget 24 = .ok (.getfield 35, 3) := by decide +kernel
theorem dX8_forget_27 : decode cX8_forget 27 = .ok (.invokevirtual 51, 3) := by decide +kernel
theorem dX8_forget_30 : decode cX8_forget 30 = .ok (.return_, 1) := by decide +kernel
theorem dX8_groundOf_0 : decode cX8_groundOf 0 = .ok (.iload_n 1, 1) := by decide +kernel
theorem dX8_groundOf_1 : decode cX8_groundOf 1 = .ok (.ifCond .lt 19, 3) := by decide +kernel
theorem dX8_groundOf_4 : decode cX8_groundOf 4 = .ok (.iload_n 1, 1) := by decide +kernel
theorem dX8_groundOf_5 : decode cX8_groundOf 5 = .ok (.bipush 32, 2) := by decide +kernel
theorem dX8_groundOf_7 : decode cX8_groundOf 7 = .ok (.if_icmp .ge 13, 3) := by decide +kernel
theorem dX8_groundOf_10 : decode cX8_groundOf 10 = .ok (.iload_n 2, 1) := by decide +kernel
theorem dX8_groundOf_11 : decode cX8_groundOf 11 = .ok (.ifCond .lt 9, 3) := by decide +kernel
theorem dX8_groundOf_14 : decode cX8_groundOf 14 = .ok (.iload_n 2, 1) := by decide +kernel
theorem dX8_groundOf_15 : decode cX8_groundOf 15 = .ok (.bipush 32, 2) := by decide +kernel
theorem dX8_groundOf_17 : decode cX8_groundOf 17 = .ok (.if_icmp .lt 5, 3) := by decide +kernel
theorem dX8_groundOf_20 : decode cX8_groundOf 20 = .ok (.iconst 1, 1) := by decide +kernel
theorem dX8_groundOf_21 : decode cX8_groundOf 21 = .ok (.ireturn, 1) := by decide +kernel
theorem dX8_groundOf_22 : decode cX8_groundOf 22 = .ok (.aload_n 0, 1) := by decide +kernel
theorem dX8_groundOf_23 : decode cX8_groundOf 23 = .ok (.getfield 9, 3) := by decide +kernel
theorem dX8_groundOf_26 : decode cX8_groundOf 26 = .ok (.bipush 32, 2) := by decide +kernel
theorem dX8_groundOf_28 : decode cX8_groundOf 28 = .ok (.iload_n 2, 1) := by decide +kernel
theorem dX8_groundOf_29 : decode cX8_groundOf 29 = .ok (.imul, 1) := by decide +kernel
theorem dX8_groundOf_30 : decode cX8_groundOf 30 = .ok (.iload_n 1, 1) := by decide +kernel
theorem dX8_groundOf_31 : decode cX8_groundOf 31 = .ok (.iadd, 1) := by decide +kernel
theorem dX8_groundOf_32 : decode cX8_groundOf 32 = .ok (.baload, 1) := by decide +kernel
theorem dX8_groundOf_33 : decode cX8_groundOf 33 = .ok (.ireturn, 1) := by decide +kernel
theorem dX8_setGround_0 : decode cX8_setGround 0 = .ok (.iload_n 1, 1) := by decide +kernel
theorem dX8_setGround_1 : decode cX8_setGround 1 = .ok (.ifCond .lt 32, 3) := by decide +kernel
theorem dX8_setGround_4 : decode cX8_setGround 4 = .ok (.iload_n 1, 1) := by decide +kernel
theorem dX8_setGround_5 : decode cX8_setGround 5 = .ok (.bipush 32, 2) := by decide +kernel
theorem dX8_setGround_7 : decode cX8_setGround 7 = .ok (.if_icmp .ge 26, 3) := by decide +kernel
theorem dX8_setGround_10 : decode cX8_setGround 10 = .ok (.iload_n 2, 1) := by decide +kernel
theorem dX8_setGround_11 : decode cX8_setGround 11 = .ok (.ifCond .lt 22, 3) := by decide +kernel
theorem dX8_setGround_14 : decode cX8_setGround 14 = .ok (.iload_n 2, 1) := by decide +kernel
theorem dX8_setGround_15 : decode cX8_setGround 15 = .ok (.bipush 32, 2) := by decide +kernel
theorem dX8_setGround_17 : decode cX8_setGround 17 = .ok (.if_icmp .ge 16, 3) := by decide +kernel
theorem dX8_setGround_20 : decode cX8_setGround 20 = .ok (.aload_n 0, 1) := by decide +kernel
theorem dX8_setGround_21 : decode cX8_setGround 21 = .ok (.getfield 9, 3) := by decide +kernel
theorem dX8_setGround_24 : decode cX8_setGround 24 = .ok (.bipush 32, 2) := by decide +kernel
theorem dX8_setGround_26 : decode cX8_setGround 26 = .ok (.iload_n 2, 1) := by decide +kernel
theorem dX8_setGround_27 : decode cX8_setGround 27 = .ok (.imul, 1) := by decide +kernel
theorem dX8_setGround_28 : decode cX8_setGround 28 = .ok (.iload_n 1, 1) := by decide +kernel
theorem dX8_setGround_29 : decode cX8_setGround 29 = .ok (.iadd, 1) := by decide +kernel
theorem dX8_setGround_30 : decode cX8_setGround 30 = .ok (.iload_n 3, 1) := by decide +kernel
theorem dX8_setGround_31 : decode cX8_setGround 31 = .ok (.i2b, 1) := by decide +kernel
theorem dX8_setGround_32 : decode cX8_setGround 32 = .ok (.bastore, 1) := by decide +kernel
theorem dX8_setGround_33 : decode cX8_setGround 33 = .ok (.return_, 1) := by decide +kernel
theorem dX8_tellBarge_0 : decode cX8_tellBarge 0 = .ok (.iload_n 1, 1) := by decide +kernel
theorem dX8_tellBarge_1 : decode cX8_tellBarge 1 = .ok (.ifCond .lt 9, 3) := by decide +kernel
theorem dX8_tellBarge_4 : decode cX8_tellBarge 4 = .ok (.iload_n 1, 1) := by decide +kernel
theorem dX8_tellBarge_5 : decode cX8_tellBarge 5 = .ok (.bipush 6, 2) := by decide +kernel
theorem dX8_tellBarge_7 : decode cX8_tellBarge 7 = .ok (.if_icmp .lt 4, 3) := by decide +kernel
theorem dX8_tellBarge_10 : decode cX8_tellBarge 10 = .ok (.return_, 1) := by decide +kernel
theorem dX8_tellBarge_11 : decode cX8_tellBarge 11 = .ok (.aload_n 0, 1) := by decide +kernel
theorem dX8_tellBarge_12 : decode cX8_tellBarge 12 = .ok (.getfield 15, 3) := by decide +kernel
theorem dX8_tellBarge_15 : decode cX8_tellBarge 15 = .ok (.iload_n 1, 1) := by decide +kernel
theorem dX8_tellBarge_16 : decode cX8_tellBarge 16 = .ok (.iload_n 2, 1) := by decide +kernel
theorem dX8_tellBarge_17 : decode cX8_tellBarge 17 = .ok (.iastore, 1) := by decide +kernel
theorem dX8_tellBarge_18 : decode cX8_tellBarge 18 = .ok (.aload_n 0, 1) := by decide +kernel
theorem dX8_tellBarge_19 : decode cX8_tellBarge 19 = .ok (.getfield 19, 3) := by decide +kernel
theorem dX8_tellBarge_22 : decode cX8_tellBarge 22 = .ok (.iload_n 1, 1) := by decide +kernel
theorem dX8_tellBarge_23 : decode cX8_tellBarge 23 = .ok (.iload_n 3, 1) := by decide +kernel
theorem dX8_tellBarge_24 : decode cX8_tellBarge 24 = .ok (.iastore, 1) := by decide +kernel
theorem dX8_tellBarge_25 : decode cX8_tellBarge 25 = .ok (.aload_n 0, 1) := by decide +kernel
theorem dX8_tellBarge_26 : decode cX8_tellBarge 26 = .ok (.getfield 22, 3) := by decide +kernel
theorem dX8_tellBarge_29 : decode cX8_tellBarge 29 = .ok (.iload_n 1, 1) := by decide +kernel
theorem dX8_tellBarge_30 : decode cX8_tellBarge 30 = .ok (.iload 4, 2) := by decide +kernel
theorem dX8_tellBarge_32 : decode cX8_tellBarge 32 = .ok (.iastore, 1) := by decide +kernel
theorem dX8_tellBarge_33 : decode cX8_tellBarge 33 = .ok (.return_, 1) := by decide +kernel
theorem dX8_isBarge_0 : decode cX8_isBarge 0 = .ok (.iload_n 1, 1) := by decide +kernel
theorem dX8_isBarge_1 : decode cX8_isBarge 1 = .ok (.ifCond .lt 22, 3) := by decide +kernel
theorem dX8_isBarge_4 : decode cX8_isBarge 4 = .ok (.iload_n 1, 1) := by decide +kernel
theorem dX8_isBarge_5 : decode cX8_isBarge 5 = .ok (.bipush 6, 2) := by decide +kernel
theorem dX8_isBarge_7 : decode cX8_isBarge 7 = .ok (.if_icmp .ge 16, 3) := by decide +kernel
theorem dX8_isBarge_10 : decode cX8_isBarge 10 = .ok (.aload_n 0, 1) := by decide +kernel
theorem dX8_isBarge_11 : decode cX8_isBarge 11 = .ok (.getfield 22, 3) := by decide +kernel
theorem dX8_isBarge_14 : decode cX8_isBarge 14 = .ok (.iload_n 1, 1) := by decide +kernel
theorem dX8_isBarge_15 : decode cX8_isBarge 15 = .ok (.iaload, 1) := by decide +kernel
theorem dX8_isBarge_16 : decode cX8_isBarge 16 = .ok (.ifCond .le 7, 3) := by decide +kernel
theorem dX8_isBarge_19 : decode cX8_isBarge 19 = .ok (.iconst 1, 1) := by decide +kernel
theorem dX8_isBarge_20 : decode cX8_isBarge 20 = .ok (.goto 4, 3) := by decide +kernel
theorem dX8_isBarge_23 : decode cX8_isBarge 23 = .ok (.iconst 0, 1) := by decide +kernel
theorem dX8_isBarge_24 : decode cX8_isBarge 24 = .ok (.ireturn, 1) := by decide +kernel
theorem dX8_channelsOf_0 : decode cX8_channelsOf 0 = .ok (.aload_n 0, 1) := by decide +kernel
theorem dX8_channelsOf_1 : decode cX8_channelsOf 1 = .ok (.iload_n 1, 1) := by decide +kernel
theorem dX8_channelsOf_2 : decode cX8_channelsOf 2 = .ok (.invokevirtual 52, 3) := by decide +kernel
theorem dX8_channelsOf_5 : decode cX8_channelsOf 5 = .ok (.ifCond .eq 12, 3) := by decide +kernel
theorem dX8_channelsOf_8 : decode cX8_channelsOf 8 = .ok (.aload_n 0, 1) := by decide +kernel
theorem dX8_channelsOf_9 : decode cX8_channelsOf 9 = .ok (.getfield 22, 3) := by decide +kernel
theorem dX8_channelsOf_12 : decode cX8_channelsOf 12 = .ok (.iload_n 1, 1) := by decide +kernel
theorem dX8_channelsOf_13 : decode cX8_channelsOf 13 = .ok (.iaload, 1) := by decide +kernel
theorem dX8_channelsOf_14 : decode cX8_channelsOf 14 = .ok (.goto 4, 3) := by decide +kernel
theorem dX8_channelsOf_17 : decode cX8_channelsOf 17 = .ok (.iconst 0, 1) := by decide +kernel
theorem dX8_channelsOf_18 : decode cX8_channelsOf 18 = .ok (.ireturn, 1) := by decide +kernel
theorem dX8_bargesTold_0 : decode cX8_bargesTold 0 = .ok (.iconst 0, 1) := by decide +kernel
theorem dX8_bargesTold_1 : decode cX8_bargesTold 1 = .ok (.istore_n 1, 1) := by decide +kernel
theorem dX8_bargesTold_2 : decode cX8_bargesTold 2 = .ok (.iconst 0, 1) := by decide +kernel
theorem dX8_bargesTold_3 : decode cX8_bargesTold 3 = .ok (.istore_n 2, 1) := by decide +kernel
theorem dX8_bargesTold_4 : decode cX8_bargesTold 4 = .ok (.iload_n 2, 1) := by decide +kernel
theorem dX8_bargesTold_5 : decode cX8_bargesTold 5 = .ok (.bipush 6, 2) := by decide +kernel
theorem dX8_bargesTold_7 : decode cX8_bargesTold 7 = .ok (.if_icmp .ge 21, 3) := by decide +kernel
theorem dX8_bargesTold_10 : decode cX8_bargesTold 10 = .ok (.aload_n 0, 1) := by decide +kernel
theorem dX8_bargesTold_11 : decode cX8_bargesTold 11 = .ok (.getfield 22, 3) := by decide +kernel
theorem dX8_bargesTold_14 : decode cX8_bargesTold 14 = .ok (.iload_n 2, 1) := by decide +kernel
theorem dX8_bargesTold_15 : decode cX8_bargesTold 15 = .ok (.iaload, 1) := by decide +kernel
theorem dX8_bargesTold_16 : decode cX8_bargesTold 16 = .ok (.ifCond .le 6, 3) := by decide +kernel
theorem dX8_bargesTold_19 : decode cX8_bargesTold 19 = .ok (.iinc 1 1, 3) := by decide +kernel
theorem dX8_bargesTold_22 : decode cX8_bargesTold 22 = .ok (.iinc 2 1, 3) := by decide +kernel
theorem dX8_bargesTold_25 : decode cX8_bargesTold 25 = .ok (.goto (-21), 3) := by decide +kernel
theorem dX8_bargesTold_28 : decode cX8_bargesTold 28 = .ok (.iload_n 1, 1) := by decide +kernel
theorem dX8_bargesTold_29 : decode cX8_bargesTold 29 = .ok (.ireturn, 1) := by decide +kernel
theorem dX8_fireOf_0 : decode cX8_fireOf 0 = .ok (.aload_n 1, 1) := by decide +kernel
theorem dX8_fireOf_1 : decode cX8_fireOf 1 = .ok (.iload_n 2, 1) := by decide +kernel
theorem dX8_fireOf_2 : decode cX8_fireOf 2 = .ok (.invokevirtual 56, 3) := by decide +kernel
theorem dX8_fireOf_5 : decode cX8_fireOf 5 = .ok (.aload_n 0, 1) := by decide +kernel
theorem dX8_fireOf_6 : decode cX8_fireOf 6 = .ok (.getfield 28, 3) := by decide +kernel
theorem dX8_fireOf_9 : decode cX8_fireOf 9 = .ok (.aload_n 1, 1) := by decide +kernel
theorem dX8_fireOf_10 : decode cX8_fireOf 10 = .ok (.iload_n 2, 1) := by decide +kernel
theorem dX8_fireOf_11 : decode cX8_fireOf 11 = .ok (.invokevirtual 62, 3) := by decide +kernel
theorem dX8_fireOf_14 : decode cX8_fireOf 14 = .ok (.invokevirtual 65, 3) := by decide +kernel
theorem dX8_fireOf_17 : decode cX8_fireOf 17 = .ok (.isub, 1) := by decide +kernel
theorem dX8_fireOf_18 : decode cX8_fireOf 18 = .ok (.ireturn, 1) := by decide +kernel
theorem dX8_tellsAllOf_0 : decode cX8_tellsAllOf 0 = .ok (.iconst 0, 1) := by decide +kernel
theorem dX8_tellsAllOf_1 : decode cX8_tellsAllOf 1 = .ok (.istore_n 2, 1) := by decide +kernel
theorem dX8_tellsAllOf_2 : decode cX8_tellsAllOf 2 = .ok (.iload_n 2, 1) := by decide +kernel
theorem dX8_tellsAllOf_3 : decode cX8_tellsAllOf 3 = .ok (.aload_n 1, 1) := by decide +kernel
theorem dX8_tellsAllOf_4 : decode cX8_tellsAllOf 4 = .ok (.getfield 68, 3) := by decide +kernel
theorem dX8_tellsAllOf_7 : decode cX8_tellsAllOf 7 = .ok (.if_icmp .ge 45, 3) := by decide +kernel
theorem dX8_tellsAllOf_10 : decode cX8_tellsAllOf 10 = .ok (.aload_n 1, 1) := by decide +kernel
theorem dX8_tellsAllOf_11 : decode cX8_tellsAllOf 11 = .ok (.iload_n 2, 1) := by decide +kernel
theorem dX8_tellsAllOf_12 : decode cX8_tellsAllOf 12 = .ok (.invokevirtual 72, 3) := by decide +kernel
theorem dX8_tellsAllOf_15 : decode cX8_tellsAllOf 15 = .ok (.istore_n 3, 1) := by decide +kernel
theorem dX8_tellsAllOf_16 : decode cX8_tellsAllOf 16 = .ok (.aload_n 0, 1) := by decide +kernel
theorem dX8_tellsAllOf_17 : decode cX8_tellsAllOf 17 = .ok (.getfield 28, 3) := by decide +kernel
theorem dX8_tellsAllOf_20 : decode cX8_tellsAllOf 20 = .ok (.aload_n 1, 1) := by decide +kernel
theorem dX8_tellsAllOf_21 : decode cX8_tellsAllOf 21 = .ok (.iload_n 2, 1) := by decide +kernel
theorem dX8_tellsAllOf_22 : decode cX8_tellsAllOf 22 = .ok (.invokevirtual 62, 3) := by decide +kernel
theorem dX8_tellsAllOf_25 : decode cX8_tellsAllOf 25 = .ok (.invokevirtual 75, 3) := by decide +kernel
theorem dX8_tellsAllOf_28 : decode cX8_tellsAllOf 28 = .ok (.ifCond .eq 16, 3) := by decide +kernel
theorem dX8_tellsAllOf_31 : decode cX8_tellsAllOf 31 = .ok (.iload_n 3, 1) := by decide +kernel
theorem dX8_tellsAllOf_32 : decode cX8_tellsAllOf 32 = .ok (.iconst (-1), 1) := by decide +kernel
theorem dX8_tellsAllOf_33 : decode cX8_tellsAllOf 33 = .ok (.if_icmp .eq 13, 3) := by decide +kernel
theorem dX8_tellsAllOf_36 : decode cX8_tellsAllOf 36 = .ok (.aload_n 0, 1) := by decide +kernel
theorem dX8_tellsAllOf_37 : decode cX8_tellsAllOf 37 = .ok (.iload_n 3, 1) := by decide +kernel
theorem dX8_tellsAllOf_38 : decode cX8_tellsAllOf 38 = .ok (.invokevirtual 52, 3) := by decide +kernel
theorem dX8_tellsAllOf_41 : decode cX8_tellsAllOf 41 = .ok (.ifCond .ne 5, 3) := by decide +kernel
theorem dX8_tellsAllOf_44 : decode cX8_tellsAllOf 44 = .ok (.iconst 0, 1) := by decide +kernel
theorem dX8_tellsAllOf_45 : decode cX8_tellsAllOf 45 = .ok (.ireturn, 1) := by decide +kernel
theorem dX8_tellsAllOf_46 : decode cX8_tellsAllOf 46 = .ok (.iinc 2 1, 3) := by decide +kernel
theorem dX8_tellsAllOf_49 : decode cX8_tellsAllOf 49 = .ok (.goto (-47), 3) := by decide +kernel
theorem dX8_tellsAllOf_52 : decode cX8_tellsAllOf 52 = .ok (.iconst 1, 1) := by decide +kernel
theorem dX8_tellsAllOf_53 : decode cX8_tellsAllOf 53 = .ok (.ireturn, 1) := by decide +kernel
theorem dX8_holds_0 : decode cX8_holds 0 = .ok (.aload_n 0, 1) := by decide +kernel
theorem dX8_holds_1 : decode cX8_holds 1 = .ok (.iload_n 1, 1) := by decide +kernel
theorem dX8_holds_2 : decode cX8_holds 2 = .ok (.invokevirtual 52, 3) := by decide +kernel
theorem dX8_holds_5 : decode cX8_holds 5 = .ok (.ifCond .eq 14, 3) := by decide +kernel
theorem dX8_holds_8 : decode cX8_holds 8 = .ok (.aload_n 0, 1) := by decide +kernel
theorem dX8_holds_9 : decode cX8_holds 9 = .ok (.getfield 28, 3) := by decide +kernel
theorem dX8_holds_12 : decode cX8_holds 12 = .ok (.iload_n 2, 1) := by decide +kernel
theorem dX8_holds_13 : decode cX8_holds 13 = .ok (.invokevirtual 75, 3) := by decide +kernel
theorem dX8_holds_16 : decode cX8_holds 16 = .ok (.ifCond .ne 5, 3) := by decide +kernel
theorem dX8_holds_19 : decode cX8_holds 19 = .ok (.iconst 0, 1) := by decide +kernel
theorem dX8_holds_20 : decode cX8_holds 20 = .ok (.ireturn, 1) := by decide +kernel
theorem dX8_holds_21 : decode cX8_holds 21 = .ok (.iconst 5, 1) := by decide +kernel
theorem dX8_holds_22 : decode cX8_holds 22 = .ok (.aload_n 0, 1) := by decide +kernel
theorem dX8_holds_23 : decode cX8_holds 23 = .ok (.getfield 28, 3) := by decide +kernel
theorem dX8_holds_26 : decode cX8_holds 26 = .ok (.iload_n 2, 1) := by decide +kernel
theorem dX8_holds_27 : decode cX8_holds 27 = .ok (.invokevirtual 78, 3) := by decide +kernel
theorem dX8_holds_30 : decode cX8_holds 30 = .ok (.imul, 1) := by decide +kernel
theorem dX8_holds_31 : decode cX8_holds 31 = .ok (.sipush 200, 3) := by decide +kernel
theorem dX8_holds_34 : decode cX8_holds 34 = .ok (.idiv, 1) := by decide +kernel
theorem dX8_holds_35 : decode cX8_holds 35 = .ok (.istore_n 3, 1) := by decide +kernel
theorem dX8_holds_36 : decode cX8_holds 36 = .ok (.bipush 31, 2) := by decide +kernel
theorem dX8_holds_38 : decode cX8_holds 38 = .ok (.aload_n 0, 1) := by decide +kernel
theorem dX8_holds_39 : decode cX8_holds 39 = .ok (.getfield 15, 3) := by decide +kernel
theorem dX8_holds_42 : decode cX8_holds 42 = .ok (.iload_n 1, 1) := by decide +kernel
theorem dX8_holds_43 : decode cX8_holds 43 = .ok (.iaload, 1) := by decide +kernel
theorem dX8_holds_44 : decode cX8_holds 44 = .ok (.iload_n 3, 1) := by decide +kernel
theorem dX8_holds_45 : decode cX8_holds 45 = .ok (.iadd, 1) := by decide +kernel
theorem dX8_holds_46 : decode cX8_holds 46 = .ok (.invokestatic 81, 3) := by decide +kernel
theorem dX8_holds_49 : decode cX8_holds 49 = .ok (.istore 4, 2) := by decide +kernel
theorem dX8_holds_51 : decode cX8_holds 51 = .ok (.bipush 31, 2) := by decide +kernel
theorem dX8_holds_53 : decode cX8_holds 53 = .ok (.aload_n 0, 1) := by decide +kernel
theorem dX8_holds_54 : decode cX8_holds 54 = .ok (.getfield 19, 3) := by decide +kernel
theorem dX8_holds_57 : decode cX8_holds 57 = .ok (.iload_n 1, 1) := by decide +kernel
theorem dX8_holds_58 : decode cX8_holds 58 = .ok (.iaload, 1) := by decide +kernel
theorem dX8_holds_59 : decode cX8_holds 59 = .ok (.iload_n 3, 1) := by decide +kernel
theorem dX8_holds_60 : decode cX8_holds 60 = .ok (.iadd, 1) := by decide +kernel
theorem dX8_holds_61 : decode cX8_holds 61 = .ok (.invokestatic 81, 3) := by decide +kernel
theorem dX8_holds_64 : decode cX8_holds 64 = .ok (.istore 5, 2) := by decide +kernel
theorem dX8_holds_66 : decode cX8_holds 66 = .ok (.iconst 0, 1) := by decide +kernel
theorem dX8_holds_67 : decode cX8_holds 67 = .ok (.aload_n 0, 1) := by decide +kernel
theorem dX8_holds_68 : decode cX8_holds 68 = .ok (.getfield 19, 3) := by decide +kernel
theorem dX8_holds_71 : decode cX8_holds 71 = .ok (.iload_n 1, 1) := by decide +kernel
theorem dX8_holds_72 : decode cX8_holds 72 = .ok (.iaload, 1) := by decide +kernel
theorem dX8_holds_73 : decode cX8_holds 73 = .ok (.iload_n 3, 1) := by decide +kernel
theorem dX8_holds_74 : decode cX8_holds 74 = .ok (.isub, 1) := by decide +kernel
theorem dX8_holds_75 : decode cX8_holds 75 = .ok (.invokestatic 87, 3) := by decide +kernel
theorem dX8_holds_78 : decode cX8_holds 78 = .ok (.istore 6, 2) := by decide +kernel
theorem dX8_holds_80 : decode cX8_holds 80 = .ok (.iload 6, 2) := by decide +kernel
theorem dX8_holds_82 : decode cX8_holds 82 = .ok (.iload 5, 2) := by decide +kernel
theorem dX8_holds_84 : decode cX8_holds 84 = .ok (.if_icmp .gt 50, 3) := by decide +kernel
theorem dX8_holds_87 : decode cX8_holds 87 = .ok (.iconst 0, 1) := by decide +kernel
theorem dX8_holds_88 : decode cX8_holds 88 = .ok (.aload_n 0, 1) := by decide +kernel
theorem dX8_holds_89 : decode cX8_holds 89 = .ok (.getfield 15, 3) := by decide +kernel
theorem dX8_holds_92 : decode cX8_holds 92 = .ok (.iload_n 1, 1) := by decide +kernel
theorem dX8_holds_93 : decode cX8_holds 93 = .ok (.iaload, 1) := by decide +kernel
theorem dX8_holds_94 : decode cX8_holds 94 = .ok (.iload_n 3, 1) := by decide +kernel
theorem dX8_holds_95 : decode cX8_holds 95 = .ok (.isub, 1) := by decide +kernel
theorem dX8_holds_96 : decode cX8_holds 96 = .ok (.invokestatic 87, 3) := by decide +kernel
theorem dX8_holds_99 : decode cX8_holds 99 = .ok (.istore 7, 2) := by decide +kernel
theorem dX8_holds_101 : decode cX8_holds 101 = .ok (.iload 7, 2) := by decide +kernel
theorem dX8_holds_103 : decode cX8_holds 103 = .ok (.iload 4, 2) := by decide +kernel
theorem dX8_holds_105 : decode cX8_holds 105 = .ok (.if_icmp .gt 23, 3) := by decide +kernel
theorem dX8_holds_108 : decode cX8_holds 108 = .ok (.aload_n 0, 1) := by decide +kernel
theorem dX8_holds_109 : decode cX8_holds 109 = .ok (.iload 7, 2) := by decide +kernel
theorem dX8_holds_111 : decode cX8_holds 111 = .ok (.iload 6, 2) := by decide +kernel
theorem dX8_holds_113 : decode cX8_holds 113 = .ok (.invokevirtual 90, 3) := by decide +kernel
theorem dX8_holds_116 : decode cX8_holds 116 = .ok (.iconst 2, 1) := by decide +kernel
theorem dX8_holds_117 : decode cX8_holds 117 = .ok (.if_icmp .ne 5, 3) := by decide +kernel
theorem dX8_holds_120 : decode cX8_holds 120 = .ok (.iconst 0, 1) := by decide +kernel
theorem dX8_holds_121 : decode cX8_holds 121 = .ok (.ireturn, 1) := by decide +kernel
theorem dX8_holds_122 : decode cX8_holds 122 = .ok (.iinc 7 1, 3) := by decide +kernel
theorem dX8_holds_125 : decode cX8_holds 125 = .ok (.goto (-24), 3) := by decide +kernel
theorem dX8_holds_128 : decode cX8_holds 128 = .ok (.iinc 6 1, 3) := by decide +kernel
theorem dX8_holds_131 : decode cX8_holds 131 = .ok (.goto (-51), 3) := by decide +kernel
theorem dX8_holds_134 : decode cX8_holds 134 = .ok (.iconst 1, 1) := by decide +kernel
theorem dX8_holds_135 : decode cX8_holds 135 = .ok (.ireturn, 1) := by decide +kernel
theorem dX8_isSafe_0 : decode cX8_isSafe 0 = .ok (.aload_n 0, 1) := by decide +kernel
theorem dX8_isSafe_1 : decode cX8_isSafe 1 = .ok (.getfield 35, 3) := by decide +kernel
theorem dX8_isSafe_4 : decode cX8_isSafe 4 = .ok (.iload_n 1, 1) := by decide +kernel
theorem dX8_isSafe_5 : decode cX8_isSafe 5 = .ok (.iload 4, 2) := by decide +kernel
theorem dX8_isSafe_7 : decode cX8_isSafe 7 = .ok (.iconst 0, 1) := by decide +kernel
theorem dX8_isSafe_8 : decode cX8_isSafe 8 = .ok (.invokevirtual 93, 3) := by decide +kernel
theorem dX8_isSafe_11 : decode cX8_isSafe 11 = .ok (.istore 5, 2) := by decide +kernel
theorem dX8_isSafe_13 : decode cX8_isSafe 13 = .ok (.aload_n 0, 1) := by decide +kernel
theorem dX8_isSafe_14 : decode cX8_isSafe 14 = .ok (.getfield 35, 3) := by decide +kernel
theorem dX8_isSafe_17 : decode cX8_isSafe 17 = .ok (.iload_n 1, 1) := by decide +kernel
theorem dX8_isSafe_18 : decode cX8_isSafe 18 = .ok (.iload 4, 2) := by decide +kernel
theorem dX8_isSafe_20 : decode cX8_isSafe 20 = .ok (.iconst 1, 1) := by decide +kernel
theorem dX8_isSafe_21 : decode cX8_isSafe 21 = .ok (.invokevirtual 93, 3) := by decide +kernel
theorem dX8_isSafe_24 : decode cX8_isSafe 24 = .ok (.istore 6, 2) := by decide +kernel
theorem dX8_isSafe_26 : decode cX8_isSafe 26 = .ok (.iconst 0, 1) := by decide +kernel
theorem dX8_isSafe_27 : decode cX8_isSafe 27 = .ok (.istore 7, 2) := by decide +kernel
theorem dX8_isSafe_29 : decode cX8_isSafe 29 = .ok (.iload 7, 2) := by decide +kernel
theorem dX8_isSafe_31 : decode cX8_isSafe 31 = .ok (.iconst 5, 1) := by decide +kernel
theorem dX8_isSafe_32 : decode cX8_isSafe 32 = .ok (.if_icmp .ge 72, 3) := by decide +kernel
theorem dX8_isSafe_35 : decode cX8_isSafe 35 = .ok (.aload_n 0, 1) := by decide +kernel
theorem dX8_isSafe_36 : decode cX8_isSafe 36 = .ok (.iload_n 1, 1) := by decide +kernel
theorem dX8_isSafe_37 : decode cX8_isSafe 37 = .ok (.iload_n 2, 1) := by decide +kernel
theorem dX8_isSafe_38 : decode cX8_isSafe 38 = .ok (.iload_n 3, 1) := by decide +kernel
theorem dX8_isSafe_39 : decode cX8_isSafe 39 = .ok (.iload 5, 2) := by decide +kernel
theorem dX8_isSafe_41 : decode cX8_isSafe 41 = .ok (.iload 7, 2) := by decide +kernel
theorem dX8_isSafe_43 : decode cX8_isSafe 43 = .ok (.invokevirtual 97, 3) := by decide +kernel
theorem dX8_isSafe_46 : decode cX8_isSafe 46 = .ok (.istore 8, 2) := by decide +kernel
theorem dX8_isSafe_48 : decode cX8_isSafe 48 = .ok (.iload 8, 2) := by decide +kernel
theorem dX8_isSafe_50 : decode cX8_isSafe 50 = .ok (.bipush (-2), 2) := by decide +kernel
theorem dX8_isSafe_52 : decode cX8_isSafe 52 = .ok (.if_icmp .eq 14, 3) := by decide +kernel
theorem dX8_isSafe_55 : decode cX8_isSafe 55 = .ok (.aload_n 0, 1) := by decide +kernel
theorem dX8_isSafe_56 : decode cX8_isSafe 56 = .ok (.iload 8, 2) := by decide +kernel
theorem dX8_isSafe_58 : decode cX8_isSafe 58 = .ok (.invokevirtual 101, 3) := by decide +kernel
theorem dX8_isSafe_61 : decode cX8_isSafe 61 = .ok (.ifCond .eq 5, 3) := by decide +kernel
theorem dX8_isSafe_64 : decode cX8_isSafe 64 = .ok (.iconst 0, 1) := by decide +kernel
theorem dX8_isSafe_65 : decode cX8_isSafe 65 = .ok (.ireturn, 1) := by decide +kernel
theorem dX8_isSafe_66 : decode cX8_isSafe 66 = .ok (.aload_n 0, 1) := by decide +kernel
theorem dX8_isSafe_67 : decode cX8_isSafe 67 = .ok (.iload_n 1, 1) := by decide +kernel
theorem dX8_isSafe_68 : decode cX8_isSafe 68 = .ok (.iload_n 2, 1) := by decide +kernel
theorem dX8_isSafe_69 : decode cX8_isSafe 69 = .ok (.iload_n 3, 1) := by decide +kernel
theorem dX8_isSafe_70 : decode cX8_isSafe 70 = .ok (.iload 6, 2) := by decide +kernel
theorem dX8_isSafe_72 : decode cX8_isSafe 72 = .ok (.iload 7, 2) := by decide +kernel
theorem dX8_isSafe_74 : decode cX8_isSafe 74 = .ok (.invokevirtual 97, 3) := by decide +kernel
theorem dX8_isSafe_77 : decode cX8_isSafe 77 = .ok (.istore 9, 2) := by decide +kernel
theorem dX8_isSafe_79 : decode cX8_isSafe 79 = .ok (.iload 9, 2) := by decide +kernel
theorem dX8_isSafe_81 : decode cX8_isSafe 81 = .ok (.bipush (-2), 2) := by decide +kernel
theorem dX8_isSafe_83 : decode cX8_isSafe 83 = .ok (.if_icmp .eq 15, 3) := by decide +kernel
theorem dX8_isSafe_86 : decode cX8_isSafe 86 = .ok (.aload_n 0, 1) := by decide +kernel
theorem dX8_isSafe_87 : decode cX8_isSafe 87 = .ok (.iload 9, 2) := by decide +kernel
theorem dX8_isSafe_89 : decode cX8_isSafe 89 = .ok (.invokevirtual 101, 3) := by decide +kernel
theorem dX8_isSafe_92 : decode cX8_isSafe 92 = .ok (.iconst 2, 1) := by decide +kernel
theorem dX8_isSafe_93 : decode cX8_isSafe 93 = .ok (.if_icmp .ne 5, 3) := by decide +kernel
theorem dX8_isSafe_96 : decode cX8_isSafe 96 = .ok (.iconst 0, 1) := by decide +kernel
theorem dX8_isSafe_97 : decode cX8_isSafe 97 = .ok (.ireturn, 1) := by decide +kernel
theorem dX8_isSafe_98 : decode cX8_isSafe 98 = .ok (.iinc 7 1, 3) := by decide +kernel
theorem dX8_isSafe_101 : decode cX8_isSafe 101 = .ok (.goto (-72), 3) := by decide +kernel
theorem dX8_isSafe_104 : decode cX8_isSafe 104 = .ok (.iconst 1, 1) := by decide +kernel
theorem dX8_isSafe_105 : decode cX8_isSafe 105 = .ok (.ireturn, 1) := by decide +kernel
theorem dX8_landing_0 : decode cX8_landing 0 = .ok (.aload_n 0, 1) := by decide +kernel
theorem dX8_landing_1 : decode cX8_landing 1 = .ok (.iload_n 2, 1) := by decide +kernel
theorem dX8_landing_2 : decode cX8_landing 2 = .ok (.invokevirtual 52, 3) := by decide +kernel
theorem dX8_landing_5 : decode cX8_landing 5 = .ok (.ifCond .eq 15, 3) := by decide +kernel
theorem dX8_landing_8 : decode cX8_landing 8 = .ok (.aload_n 0, 1) := by decide +kernel
theorem dX8_landing_9 : decode cX8_landing 9 = .ok (.getfield 35, 3) := by decide +kernel
theorem dX8_landing_12 : decode cX8_landing 12 = .ok (.iload 4, 2) := by decide +kernel
theorem dX8_landing_14 : decode cX8_landing 14 = .ok (.invokevirtual 104, 3) := by decide +kernel
theorem dX8_landing_17 : decode cX8_landing 17 = .ok (.ifCond .ne 6, 3) := by decide +kernel
theorem dX8_landing_20 : decode cX8_landing 20 = .ok (.bipush (-2), 2) := by decide +kernel
theorem dX8_landing_22 : decode cX8_landing 22 = .ok (.ireturn, 1) := by decide +kernel
theorem dX8_landing_23 : decode cX8_landing 23 = .ok (.bipush 10, 2) := by decide +kernel
theorem dX8_landing_25 : decode cX8_landing 25 = .ok (.aload_n 0, 1) := by decide +kernel
theorem dX8_landing_26 : decode cX8_landing 26 = .ok (.getfield 28, 3) := by decide +kernel
theorem dX8_landing_29 : decode cX8_landing 29 = .ok (.iload_n 1, 1) := by decide +kernel
theorem dX8_landing_30 : decode cX8_landing 30 = .ok (.invokevirtual 107, 3) := by decide +kernel
theorem dX8_landing_33 : decode cX8_landing 33 = .ok (.imul, 1) := by decide +kernel
theorem dX8_landing_34 : decode cX8_landing 34 = .ok (.istore 6, 2) := by decide +kernel
theorem dX8_landing_36 : decode cX8_landing 36 = .ok (.sipush 200, 3) := by decide +kernel
theorem dX8_landing_39 : decode cX8_landing 39 = .ok (.aload_n 0, 1) := by decide +kernel
theorem dX8_landing_40 : decode cX8_landing 40 = .ok (.getfield 15, 3) := by decide +kernel
theorem dX8_landing_43 : decode cX8_landing 43 = .ok (.iload_n 2, 1) := by decide +kernel
theorem dX8_landing_44 : decode cX8_landing 44 = .ok (.iaload, 1) := by decide +kernel
theorem dX8_landing_45 : decode cX8_landing 45 = .ok (.imul, 1) := by decide +kernel
theorem dX8_landing_46 : decode cX8_landing 46 = .ok (.bipush 100, 2) := by decide +kernel
theorem dX8_landing_48 : decode cX8_landing 48 = .ok (.iadd, 1) := by decide +kernel
theorem dX8_landing_49 : decode cX8_landing 49 = .ok (.iload_n 3, 1) := by decide +kernel
theorem dX8_landing_50 : decode cX8_landing 50 = .ok (.aload_n 0, 1) := by decide +kernel
theorem dX8_landing_51 : decode cX8_landing 51 = .ok (.getfield 28, 3) := by decide +kernel
theorem dX8_landing_54 : decode cX8_landing 54 = .ok (.iload_n 1, 1) := by decide +kernel
theorem dX8_landing_55 : decode cX8_landing 55 = .ok (.invokevirtual 78, 3) := by decide +kernel
theorem dX8_landing_58 : decode cX8_landing 58 = .ok (.imul, 1) := by decide +kernel
theorem dX8_landing_59 : decode cX8_landing 59 = .ok (.iadd, 1) := by decide +kernel
theorem dX8_landing_60 : decode cX8_landing 60 = .ok (.aload_n 0, 1) := by decide +kernel
theorem dX8_landing_61 : decode cX8_landing 61 = .ok (.getfield 35, 3) := by decide +kernel
theorem dX8_landing_64 : decode cX8_landing 64 = .ok (.iload 4, 2) := by decide +kernel
theorem dX8_landing_66 : decode cX8_landing 66 = .ok (.invokevirtual 110, 3) := by decide +kernel
theorem dX8_landing_69 : decode cX8_landing 69 = .ok (.iadd, 1) := by decide +kernel
theorem dX8_landing_70 : decode cX8_landing 70 = .ok (.istore 7, 2) := by decide +kernel
theorem dX8_landing_72 : decode cX8_landing 72 = .ok (.sipush 200, 3) := by decide +kernel
theorem dX8_landing_75 : decode cX8_landing 75 = .ok (.aload_n 0, 1) := by decide +kernel
theorem dX8_landing_76 : decode cX8_landing 76 = .ok (.getfield 19, 3) := by decide +kernel
theorem dX8_landing_79 : decode cX8_landing 79 = .ok (.iload_n 2, 1) := by decide +kernel
theorem dX8_landing_80 : decode cX8_landing 80 = .ok (.iaload, 1) := by decide +kernel
theorem dX8_landing_81 : decode cX8_landing 81 = .ok (.imul, 1) := by decide +kernel
theorem dX8_landing_82 : decode cX8_landing 82 = .ok (.bipush 100, 2) := by decide +kernel
theorem dX8_landing_84 : decode cX8_landing 84 = .ok (.iadd, 1) := by decide +kernel
theorem dX8_landing_85 : decode cX8_landing 85 = .ok (.aload_n 0, 1) := by decide +kernel
theorem dX8_landing_86 : decode cX8_landing 86 = .ok (.getfield 35, 3) := by decide +kernel
theorem dX8_landing_89 : decode cX8_landing 89 = .ok (.iload 4, 2) := by decide +kernel
theorem dX8_landing_91 : decode cX8_landing 91 = .ok (.invokevirtual 113, 3) := by decide +kernel
theorem dX8_landing_94 : decode cX8_landing 94 = .ok (.iadd, 1) := by decide +kernel
theorem dX8_landing_95 : decode cX8_landing 95 = .ok (.istore 8, 2) := by decide +kernel
theorem dX8_landing_97 : decode cX8_landing 97 = .ok (.iload 7, 2) := by decide +kernel
theorem dX8_landing_99 : decode cX8_landing 99 = .ok (.iload 5, 2) := by decide +kernel
theorem dX8_landing_101 : decode cX8_landing 101 = .ok (.iconst 1, 1) := by decide +kernel
theorem dX8_landing_102 : decode cX8_landing 102 = .ok (.if_icmp .ne 8, 3) := by decide +kernel
theorem dX8_landing_105 : decode cX8_landing 105 = .ok (.iload 6, 2) := by decide +kernel
theorem dX8_landing_107 : decode cX8_landing 107 = .ok (.goto 16, 3) := by decide +kernel
theorem dX8_landing_110 : decode cX8_landing 110 = .ok (.iload 5, 2) := by decide +kernel
theorem dX8_landing_112 : decode cX8_landing 112 = .ok (.iconst 2, 1) := by decide +kernel
theorem dX8_landing_113 : decode cX8_landing 113 = .ok (.if_icmp .ne 9, 3) := by decide +kernel
theorem dX8_landing_116 : decode cX8_landing 116 = .ok (.iload 6, 2) := by decide +kernel
theorem dX8_landing_118 : decode cX8_landing 118 = .ok (.ineg, 1) := by decide +kernel
theorem dX8_landing_119 : decode cX8_landing 119 = .ok (.goto 4, 3) := by decide +kernel
theorem dX8_landing_122 : decode cX8_landing 122 = .ok (.iconst 0, 1) := by decide +kernel
theorem dX8_landing_123 : decode cX8_landing 123 = .ok (.iadd, 1) := by decide +kernel
theorem dX8_landing_124 : decode cX8_landing 124 = .ok (.istore 7, 2) := by decide +kernel
theorem dX8_landing_126 : decode cX8_landing 126 = .ok (.iload 8, 2) := by decide +kernel
theorem dX8_landing_128 : decode cX8_landing 128 = .ok (.iload 5, 2) := by decide +kernel
theorem dX8_landing_130 : decode cX8_landing 130 = .ok (.iconst 3, 1) := by decide +kernel
theorem dX8_landing_131 : decode cX8_landing 131 = .ok (.if_icmp .ne 8, 3) := by decide +kernel
theorem dX8_landing_134 : decode cX8_landing 134 = .ok (.iload 6, 2) := by decide +kernel
theorem dX8_landing_136 : decode cX8_landing 136 = .ok (.goto 16, 3) := by decide +kernel
theorem dX8_landing_139 : decode cX8_landing 139 = .ok (.iload 5, 2) := by decide +kernel
theorem dX8_landing_141 : decode cX8_landing 141 = .ok (.iconst 4, 1) := by decide +kernel
theorem dX8_landing_142 : decode cX8_landing 142 = .ok (.if_icmp .ne 9, 3) := by decide +kernel
theorem dX8_landing_145 : decode cX8_landing 145 = .ok (.iload 6, 2) := by decide +kernel
theorem dX8_landing_147 : decode cX8_landing 147 = .ok (.ineg, 1) := by decide +kernel
theorem dX8_landing_148 : decode cX8_landing 148 = .ok (.goto 4, 3) := by decide +kernel
theorem dX8_landing_151 : decode cX8_landing 151 = .ok (.iconst 0, 1) := by decide +kernel
theorem dX8_landing_152 : decode cX8_landing 152 = .ok (.iadd, 1) := by decide +kernel
theorem dX8_landing_153 : decode cX8_landing 153 = .ok (.istore 8, 2) := by decide +kernel
theorem dX8_landing_155 : decode cX8_landing 155 = .ok (.iload 7, 2) := by decide +kernel
theorem dX8_landing_157 : decode cX8_landing 157 = .ok (.sipush 200, 3) := by decide +kernel
theorem dX8_landing_160 : decode cX8_landing 160 = .ok (.invokestatic 116, 3) := by decide +kernel
theorem dX8_landing_163 : decode cX8_landing 163 = .ok (.istore 9, 2) := by decide +kernel
theorem dX8_landing_165 : decode cX8_landing 165 = .ok (.iload 8, 2) := by decide +kernel
theorem dX8_landing_167 : decode cX8_landing 167 = .ok (.sipush 200, 3) := by decide +kernel
theorem dX8_landing_170 : decode cX8_landing 170 = .ok (.invokestatic 116, 3) := by decide +kernel
theorem dX8_landing_173 : decode cX8_landing 173 = .ok (.istore 10, 2) := by decide +kernel
theorem dX8_landing_175 : decode cX8_landing 175 = .ok (.iload 9, 2) := by decide +kernel
theorem dX8_landing_177 : decode cX8_landing 177 = .ok (.ifCond .lt 22, 3) := by decide +kernel
theorem dX8_landing_180 : decode cX8_landing 180 = .ok (.iload 9, 2) := by decide +kernel
theorem dX8_landing_182 : decode cX8_landing 182 = .ok (.bipush 32, 2) := by decide +kernel
theorem dX8_landing_184 : decode cX8_landing 184 = .ok (.if_icmp .ge 15, 3) := by decide +kernel
theorem dX8_landing_187 : decode cX8_landing 187 = .ok (.iload 10, 2) := by decide +kernel
theorem dX8_landing_189 : decode cX8_landing 189 = .ok (.ifCond .lt 10, 3) := by decide +kernel
theorem dX8_landing_192 : decode cX8_landing 192 = .ok (.iload 10, 2) := by decide +kernel
theorem dX8_landing_194 : decode cX8_landing 194 = .ok (.bipush 32, 2) := by decide +kernel
theorem dX8_landing_196 : decode cX8_landing 196 = .ok (.if_icmp .lt 6, 3) := by decide +kernel
theorem dX8_landing_199 : decode cX8_landing 199 = .ok (.bipush (-3), 2) := by decide +kernel
theorem dX8_landing_201 : decode cX8_landing 201 = .ok (.ireturn, 1) := by decide +kernel
theorem dX8_landing_202 : decode cX8_landing 202 = .ok (.bipush 32, 2) := by decide +kernel
theorem dX8_landing_204 : decode cX8_landing 204 = .ok (.iload 10, 2) := by decide +kernel
theorem dX8_landing_206 : decode cX8_landing 206 = .ok (.imul, 1) := by decide +kernel
theorem dX8_landing_207 : decode cX8_landing 207 = .ok (.iload 9, 2) := by decide +kernel
theorem dX8_landing_209 : decode cX8_landing 209 = .ok (.iadd, 1) := by decide +kernel
theorem dX8_landing_210 : decode cX8_landing 210 = .ok (.ireturn, 1) := by decide +kernel
theorem dX8_groundAt_0 : decode cX8_groundAt 0 = .ok (.iload_n 1, 1) := by decide +kernel
theorem dX8_groundAt_1 : decode cX8_groundAt 1 = .ok (.ifCond .lt 21, 3) := by decide +kernel
theorem dX8_groundAt_4 : decode cX8_groundAt 4 = .ok (.iload_n 1, 1) := by decide +kernel
theorem dX8_groundAt_5 : decode cX8_groundAt 5 = .ok (.aload_n 0, 1) := by decide +kernel
theorem dX8_groundAt_6 : decode cX8_groundAt 6 = .ok (.getfield 9, 3) := by decide +kernel
theorem dX8_groundAt_9 : decode cX8_groundAt 9 = .ok (.arraylength, 1) := by decide +kernel
theorem dX8_groundAt_10 : decode cX8_groundAt 10 = .ok (.if_icmp .ge 12, 3) := by decide +kernel
theorem dX8_groundAt_13 : decode cX8_groundAt 13 = .ok (.aload_n 0, 1) := by decide +kernel
theorem dX8_groundAt_14 : decode cX8_groundAt 14 = .ok (.getfield 9, 3) := by decide +kernel
theorem dX8_groundAt_17 : decode cX8_groundAt 17 = .ok (.iload_n 1, 1) := by decide +kernel
theorem dX8_groundAt_18 : decode cX8_groundAt 18 = .ok (.baload, 1) := by decide +kernel
theorem dX8_groundAt_19 : decode cX8_groundAt 19 = .ok (.goto 4, 3) := by decide +kernel
theorem dX8_groundAt_22 : decode cX8_groundAt 22 = .ok (.iconst 1, 1) := by decide +kernel
theorem dX8_groundAt_23 : decode cX8_groundAt 23 = .ok (.ireturn, 1) := by decide +kernel
theorem dX9_init_0 : decode cX9_init 0 = .ok (.aload_n 0, 1) := by decide +kernel
theorem dX9_init_1 : decode cX9_init 1 = .ok (.invokespecial 3, 3) := by decide +kernel
theorem dX9_init_4 : decode cX9_init 4 = .ok (.aload_n 0, 1) := by decide +kernel
theorem dX9_init_5 : decode cX9_init 5 = .ok (.bipush 100, 2) := by decide +kernel
theorem dX9_init_7 : decode cX9_init 7 = .ok (.newarray .long, 2) := by decide +kernel
theorem dX9_init_9 : decode cX9_init 9 = .ok (.putfield 9, 3) := by decide +kernel
theorem dX9_init_12 : decode cX9_init 12 = .ok (.aload_n 0, 1) := by decide +kernel
theorem dX9_init_13 : decode cX9_init 13 = .ok (.new 15, 3) := by decide +kernel
theorem dX9_init_16 : decode cX9_init 16 = .ok (.dup, 1) := by decide +kernel
theorem dX9_init_17 : decode cX9_init 17 = .ok (.invokespecial 17, 3) := by decide +kernel
theorem dX9_init_20 : decode cX9_init 20 = .ok (.putfield 18, 3) := by decide +kernel
theorem dX9_init_23 : decode cX9_init 23 = .ok (.return_, 1) := by decide +kernel
theorem dX9_refusalAs_0 : decode cX9_refusalAs 0 = .ok (.aload_n 0, 1) := by decide +kernel
theorem dX9_refusalAs_1 : decode cX9_refusalAs 1 = .ok (.getfield 22, 3) := by decide +kernel
theorem dX9_refusalAs_4 : decode cX9_refusalAs 4 = .ok (.ifCond .ne 6, 3) := by decide +kernel
theorem dX9_refusalAs_7 : decode cX9_refusalAs 7 = .ok (.bipush (-11), 2) := by decide +kernel
theorem dX9_refusalAs_9 : decode cX9_refusalAs 9 = .ok (.ireturn, 1) := by decide +kernel
theorem dX9_refusalAs_10 : decode cX9_refusalAs 10 = .ok (.aload_n 0, 1) := by decide +kernel
theorem dX9_refusalAs_11 : decode cX9_refusalAs 11 = .ok (.getfield 22, 3) := by decide +kernel
theorem dX9_refusalAs_14 : decode cX9_refusalAs 14 = .ok (.iload_n 1, 1) := by decide +kernel
theorem dX9_refusalAs_15 : decode cX9_refusalAs 15 = .ok (.if_icmp .ne 7, 3) := by decide +kernel
theorem dX9_refusalAs_18 : decode cX9_refusalAs 18 = .ok (.iconst 0, 1) := by decide +kernel
theorem dX9_refusalAs_19 : decode cX9_refusalAs 19 = .ok (.goto 5, 3) := by decide +kernel
theorem dX9_refusalAs_22 : decode cX9_refusalAs 22 = .ok (.bipush (-12), 2) := by decide +kernel
theorem dX9_refusalAs_24 : decode cX9_refusalAs 24 = .ok (.ireturn, 1) := by decide +kernel
theorem dX9_isRow_0 : decode cX9_isRow 0 = .ok (.aload_n 0, 1) := by decide +kernel
theorem dX9_isRow_1 : decode cX9_isRow 1 = .ok (.getfield 22, 3) := by decide +kernel
theorem dX9_isRow_4 : decode cX9_isRow 4 = .ok (.iconst 1, 1) := by decide +kernel
theorem dX9_isRow_5 : decode cX9_isRow 5 = .ok (.if_icmp .lt 15, 3) := by decide +kernel
theorem dX9_isRow_8 : decode cX9_isRow 8 = .ok (.aload_n 0, 1) := by decide +kernel
theorem dX9_isRow_9 : decode cX9_isRow 9 = .ok (.getfield 22, 3) := by decide +kernel
theorem dX9_isRow_12 : decode cX9_isRow 12 = .ok (.iconst 4, 1) := by decide +kernel
theorem dX9_isRow_13 : decode cX9_isRow 13 = .ok (.if_icmp .gt 7, 3) := by decide +kernel
theorem dX9_isRow_16 : decode cX9_isRow 16 = .ok (.iconst 1, 1) := by decide +kernel
theorem dX9_isRow_17 : decode cX9_isRow 17 = .ok (.goto 4, 3) := by decide +kernel
theorem dX9_isRow_20 : decode cX9_isRow 20 = .ok (.iconst 0, 1) := by decide +kernel
theorem dX9_isRow_21 : decode cX9_isRow 21 = .ok (.ireturn, 1) := by decide +kernel
theorem dX9_hasPlace_0 : decode cX9_hasPlace 0 = .ok (.iload_n 1, 1) := by decide +kernel
theorem dX9_hasPlace_1 : decode cX9_hasPlace 1 = .ok (.ifCond .lt 21, 3) := by decide +kernel
theorem dX9_hasPlace_4 : decode cX9_hasPlace 4 = .ok (.iload_n 1, 1) := by decide +kernel
theorem dX9_hasPlace_5 : decode cX9_hasPlace 5 = .ok (.aload_n 0, 1) := by decide +kernel
theorem dX9_hasPlace_6 : decode cX9_hasPlace 6 = .ok (.getfield 26, 3) := by decide +kernel
theorem dX9_hasPlace_9 : decode cX9_hasPlace 9 = .ok (.if_icmp .ge 13, 3) := by decide +kernel
theorem dX9_hasPlace_12 : decode cX9_hasPlace 12 = .ok (.iload_n 1, 1) := by decide +kernel
theorem dX9_hasPlace_13 : decode cX9_hasPlace 13 = .ok (.bipush 100, 2) := by decide +kernel
theorem dX9_hasPlace_15 : decode cX9_hasPlace 15 = .ok (.if_icmp .ge 7, 3) := by decide +kernel
theorem dX9_hasPlace_18 : decode cX9_hasPlace 18 = .ok (.iconst 1, 1) := by decide +kernel
theorem dX9_hasPlace_19 : decode cX9_hasPlace 19 = .ok (.goto 4, 3) := by decide +kernel
theorem dX9_hasPlace_22 : decode cX9_hasPlace 22 = .ok (.iconst 0, 1) := by decide +kernel
theorem dX9_hasPlace_23 : decode cX9_hasPlace 23 = .ok (.ireturn, 1) := by decide +kernel
theorem dX9_hasPlaces_0 : decode cX9_hasPlaces 0 = .ok (.iload_n 1, 1) := by decide +kernel
theorem dX9_hasPlaces_1 : decode cX9_hasPlaces 1 = .ok (.ifCond .lt 38, 3) := by decide +kernel
theorem dX9_hasPlaces_4 : decode cX9_hasPlaces 4 = .ok (.iload_n 2, 1) := by decide +kernel
theorem dX9_hasPlaces_5 : decode cX9_hasPlaces 5 = .ok (.ifCond .lt 34, 3) := by decide +kernel
theorem dX9_hasPlaces_8 : decode cX9_hasPlaces 8 = .ok (.aload_n 0, 1) := by decide +kernel
theorem dX9_hasPlaces_9 : decode cX9_hasPlaces 9 = .ok (.getfield 26, 3) := by decide +kernel
theorem dX9_hasPlaces_12 : decode cX9_hasPlaces 12 = .ok (.bipush 100, 2) := by decide +kernel
theorem dX9_hasPlaces_14 : decode cX9_hasPlaces 14 = .ok (.if_icmp .gt 25, 3) := by decide +kernel
theorem dX9_hasPlaces_17 : decode cX9_hasPlaces 17 = .ok (.iload_n 2, 1) := by decide +kernel
theorem dX9_hasPlaces_18 : decode cX9_hasPlaces 18 = .ok (.aload_n 0, 1) := by decide +kernel
theorem dX9_hasPlaces_19 : decode cX9_hasPlaces 19 = .ok (.getfield 26, 3) := by decide +kernel
theorem dX9_hasPlaces_22 : decode cX9_hasPlaces 22 = .ok (.if_icmp .gt 17, 3) := by decide +kernel
theorem dX9_hasPlaces_25 : decode cX9_hasPlaces 25 = .ok (.iload_n 1, 1) := by decide +kernel
theorem dX9_hasPlaces_26 : decode cX9_hasPlaces 26 = .ok (.aload_n 0, 1) := by decide +kernel
theorem dX9_hasPlaces_27 : decode cX9_hasPlaces 27 = .ok (.getfield 26, 3) := by decide +kernel
theorem dX9_hasPlaces_30 : decode cX9_hasPlaces 30 = .ok (.iload_n 2, 1) := by decide +kernel
theorem dX9_hasPlaces_31 : decode cX9_hasPlaces 31 = .ok (.isub, 1) := by decide +kernel
theorem dX9_hasPlaces_32 : decode cX9_hasPlaces 32 = .ok (.if_icmp .gt 7, 3) := by decide +kernel
theorem dX9_hasPlaces_35 : decode cX9_hasPlaces 35 = .ok (.iconst 1, 1) := by decide +kernel
theorem dX9_hasPlaces_36 : decode cX9_hasPlaces 36 = .ok (.goto 4, 3) := by decide +kernel
theorem dX9_hasPlaces_39 : decode cX9_hasPlaces 39 = .ok (.iconst 0, 1) := by decide +kernel
theorem dX9_hasPlaces_40 : decode cX9_hasPlaces 40 = .ok (.ireturn, 1) := by decide +kernel
theorem dX9_makeRow_0 : decode cX9_makeRow 0 = .ok (.aload_n 0, 1) := by decide +kernel
theorem dX9_makeRow_1 : decode cX9_makeRow 1 = .ok (.iload_n 1, 1) := by decide +kernel
theorem dX9_makeRow_2 : decode cX9_makeRow 2 = .ok (.putfield 22, 3) := by decide +kernel
theorem dX9_makeRow_5 : decode cX9_makeRow 5 = .ok (.aload_n 0, 1) := by decide +kernel
theorem dX9_makeRow_6 : decode cX9_makeRow 6 = .ok (.iload_n 2, 1) := by decide +kernel
theorem dX9_makeRow_7 : decode cX9_makeRow 7 = .ok (.putfield 26, 3) := by decide +kernel
theorem dX9_makeRow_10 : decode cX9_makeRow 10 = .ok (.aload_n 0, 1) := by decide +kernel
theorem dX9_makeRow_11 : decode cX9_makeRow 11 = .ok (.getfield 9, 3) := by decide +kernel
theorem dX9_makeRow_14 : decode cX9_makeRow 14 = .ok (.lconst 0, 1) := by decide +kernel
theorem dX9_makeRow_15 : decode cX9_makeRow 15 = .ok (.invokestatic 29, 3) := by decide +kernel
theorem dX9_makeRow_18 : decode cX9_makeRow 18 = .ok (.return_, 1) := by decide +kernel
theorem dX9_makeShow_0 : decode cX9_makeShow 0 = .ok (.aload_n 0, 1) := by decide +kernel
theorem dX9_makeShow_1 : decode cX9_makeShow 1 = .ok (.iconst 5, 1) := by decide +kernel
theorem dX9_makeShow_2 : decode cX9_makeShow 2 = .ok (.putfield 22, 3) := by decide +kernel
theorem dX9_makeShow_5 : decode cX9_makeShow 5 = .ok (.aload_n 0, 1) := by decide +kernel
theorem dX9_makeShow_6 : decode cX9_makeShow 6 = .ok (.iconst 0, 1) := by decide +kernel
theorem dX9_makeShow_7 : decode cX9_makeShow 7 = .ok (.putfield 26, 3) := by decide +kernel
theorem dX9_makeShow_10 : decode cX9_makeShow 10 = .ok (.aload_n 0, 1) := by decide +kernel
theorem dX9_makeShow_11 : decode cX9_makeShow 11 = .ok (.getfield 18, 3) := by decide +kernel
theorem dX9_makeShow_14 : decode cX9_makeShow 14 = .ok (.aload_n 1, 1) := by decide +kernel
theorem dX9_makeShow_15 : decode cX9_makeShow 15 = .ok (.invokevirtual 35, 3) := by decide +kernel
theorem dX9_makeShow_18 : decode cX9_makeShow 18 = .ok (.return_, 1) := by decide +kernel
theorem dX9_valueAt_0 : decode cX9_valueAt 0 = .ok (.aload_n 0, 1) := by decide +kernel
theorem dX9_valueAt_1 : decode cX9_valueAt 1 = .ok (.iload_n 1, 1) := by decide +kernel
theorem dX9_valueAt_2 : decode cX9_valueAt 2 = .ok (.invokevirtual 39, 3) := by decide +kernel
theorem dX9_valueAt_5 : decode cX9_valueAt 5 = .ok (.ifCond .eq 12, 3) := by decide +kernel
theorem dX9_valueAt_8 : decode cX9_valueAt 8 = .ok (.aload_n 0, 1) := by decide +kernel
theorem dX9_valueAt_9 : decode cX9_valueAt 9 = .ok (.getfield 9, 3) := by decide +kernel
theorem dX9_valueAt_12 : decode cX9_valueAt 12 = .ok (.iload_n 1, 1) := by decide +kernel
theorem dX9_valueAt_13 : decode cX9_valueAt 13 = .ok (.laload, 1) := by decide +kernel
theorem dX9_valueAt_14 : decode cX9_valueAt 14 = .ok (.goto 4, 3) := by decide +kernel
theorem dX9_valueAt_17 : decode cX9_valueAt 17 = .ok (.lconst 0, 1) := by decide +kernel
theorem dX9_valueAt_18 : decode cX9_valueAt 18 = .ok (.lreturn, 1) := by decide +kernel
theorem dX9_numberAt_0 : decode cX9_numberAt 0 = .ok (.aload_n 0, 1) := by decide +kernel
theorem dX9_numberAt_1 : decode cX9_numberAt 1 = .ok (.iload_n 1, 1) := by decide +kernel
theorem dX9_numberAt_2 : decode cX9_numberAt 2 = .ok (.invokevirtual 43, 3) := by decide +kernel
theorem dX9_numberAt_5 : decode cX9_numberAt 5 = .ok (.l2i, 1) := by decide +kernel
theorem dX9_numberAt_6 : decode cX9_numberAt 6 = .ok (.ireturn, 1) := by decide +kernel
theorem dX9_setValue_0 : decode cX9_setValue 0 = .ok (.aload_n 0, 1) := by decide +kernel
theorem dX9_setValue_1 : decode cX9_setValue 1 = .ok (.iload_n 1, 1) := by decide +kernel
theorem dX9_setValue_2 : decode cX9_setValue 2 = .ok (.invokevirtual 39, 3) := by decide +kernel
theorem dX9_setValue_5 : decode cX9_setValue 5 = .ok (.ifCond .eq 14, 3) := by decide +kernel
theorem dX9_setValue_8 : decode cX9_setValue 8 = .ok (.aload_n 0, 1) := by decide +kernel
theorem dX9_setValue_9 : decode cX9_setValue 9 = .ok (.getfield 9, 3) := by decide +kernel
theorem dX9_setValue_12 : decode cX9_setValue 12 = .ok (.iload_n 1, 1) := by decide +kernel
theorem dX9_setValue_13 : decode cX9_setValue 13 = .ok (.aload_n 0, 1) := by decide +kernel
theorem dX9_setValue_14 : decode cX9_setValue 14 = .ok (.lload_n 2, 1) := by decide +kernel
theorem dX9_setValue_15 : decode cX9_setValue 15 = .ok (.invokevirtual 47, 3) := by decide +kernel
theorem dX9_setValue_18 : decode cX9_setValue 18 = .ok (.lastore, 1) := by decide +kernel
theorem dX9_setValue_19 : decode cX9_setValue 19 = .ok (.return_, 1) := by decide +kernel
theorem dX9_narrowed_0 : decode cX9_narrowed 0 = .ok (.aload_n 0, 1) := by decide +kernel
theorem dX9_narrowed_1 : decode cX9_narrowed 1 = .ok (.getfield 22, 3) := by decide +kernel
theorem dX9_narrowed_4 : decode cX9_narrowed 4 = .ok (.tableswitch 42 1 3 #[28, 33, 38], 28) := by decide +kernel
theorem dX9_narrowed_32 : decode cX9_narrowed 32 = .ok (.lload_n 1, 1) := by decide +kernel
theorem dX9_narrowed_33 : decode cX9_narrowed 33 = .ok (.l2i, 1) := by decide +kernel
theorem dX9_narrowed_34 : decode cX9_narrowed 34 = .ok (.i2b, 1) := by decide +kernel
theorem dX9_narrowed_35 : decode cX9_narrowed 35 = .ok (.i2l, 1) := by decide +kernel
theorem dX9_narrowed_36 : decode cX9_narrowed 36 = .ok (.lreturn, 1) := by decide +kernel
theorem dX9_narrowed_37 : decode cX9_narrowed 37 = .ok (.lload_n 1, 1) := by decide +kernel
theorem dX9_narrowed_38 : decode cX9_narrowed 38 = .ok (.l2i, 1) := by decide +kernel
theorem dX9_narrowed_39 : decode cX9_narrowed 39 = .ok (.i2s, 1) := by decide +kernel
theorem dX9_narrowed_40 : decode cX9_narrowed 40 = .ok (.i2l, 1) := by decide +kernel
theorem dX9_narrowed_41 : decode cX9_narrowed 41 = .ok (.lreturn, 1) := by decide +kernel
theorem dX9_narrowed_42 : decode cX9_narrowed 42 = .ok (.lload_n 1, 1) := by decide +kernel
theorem dX9_narrowed_43 : decode cX9_narrowed 43 = .ok (.l2i, 1) := by decide +kernel
theorem dX9_narrowed_44 : decode cX9_narrowed 44 = .ok (.i2l, 1) := by decide +kernel
theorem dX9_narrowed_45 : decode cX9_narrowed 45 = .ok (.lreturn, 1) := by decide +kernel
theorem dX9_narrowed_46 : decode cX9_narrowed 46 = .ok (.lload_n 1, 1) := by decide +kernel
theorem dX9_narrowed_47 : decode cX9_narrowed 47 = .ok (.lreturn, 1) := by decide +kernel
theorem dX9_throwFailure_0 : decode cX9_throwFailure 0 = .ok (.aload_n 0, 1) := by decide +kernel
theorem dX9_throwFailure_1 : decode cX9_throwFailure 1 = .ok (.getfield 18, 3) := by decide +kernel
theorem dX9_throwFailure_4 : decode cX9_throwFailure 4 = .ok (.invokevirtual 51, 3) := by decide +kernel
theorem dX9_throwFailure_7 : decode cX9_throwFailure 7 = .ok (.ifCond .le 13, 3) := by decide +kernel
theorem dX9_throwFailure_10 : decode cX9_throwFailure 10 = .ok (.new 55, 3) := by decide +kernel
theorem dX9_throwFailure_13 : decode cX9_throwFailure 13 = .ok (.dup, 1) := by decide +kernel
theorem dX9_throwFailure_14 : decode cX9_throwFailure 14 = .ok (.ldc 57, 2) := by decide +kernel
theorem dX9_throwFailure_16 : decode cX9_throwFailure 16 = .ok (.invokespecial 59, 3) := by decide +kernel
theorem dX9_throwFailure_19 : decode cX9_throwFailure 19 = .ok (.athrow, 1) := by decide +kernel
theorem dX9_throwFailure_20 : decode cX9_throwFailure 20 = .ok (.return_, 1) := by decide +kernel
theorem dX10_init_0 : decode cX10_init 0 = .ok (.aload_n 0, 1) := by decide +kernel
theorem dX10_init_1 : decode cX10_init 1 = .ok (.invokespecial 3, 3) := by decide +kernel
theorem dX10_init_4 : decode cX10_init 4 = .ok (.aload_n 0, 1) := by decide +kernel
theorem dX10_init_5 : decode cX10_init 5 = .ok (.bipush 60, 2) := by decide +kernel
theorem dX10_init_7 : decode cX10_init 7 = .ok (.newarray .int, 2) := by decide +kernel
theorem dX10_init_9 : decode cX10_init 9 = .ok (.putfield 9, 3) := by decide +kernel
theorem dX10_init_12 : decode cX10_init 12 = .ok (.aload_n 0, 1) := by decide +kernel
theorem dX10_init_13 : decode cX10_init 13 = .ok (.bipush 60, 2) := by decide +kernel
theorem dX10_init_15 : decode cX10_init 15 = .ok (.newarray .int, 2) := by decide +kernel
theorem dX10_init_17 : decode cX10_init 17 = .ok (.putfield 15, 3) := by decide +kernel
theorem dX10_init_20 : decode cX10_init 20 = .ok (.aload_n 0, 1) := by decide +kernel
theorem dX10_init_21 : decode cX10_init 21 = .ok (.bipush 120, 2) := by decide +kernel
theorem dX10_init_23 : decode cX10_init 23 = .ok (.newarray .boolean, 2) := by decide +kernel
theorem dX10_init_25 : decode cX10_init 25 = .ok (.putfield 18, 3) := by decide +kernel
theorem dX10_init_28 : decode cX10_init 28 = .ok (.aload_n 0, 1) := by decide +kernel
theorem dX10_init_29 : decode cX10_init 29 = .ok (.aload_n 1, 1) := by decide +kernel
theorem dX10_init_30 : decode cX10_init 30 = .ok (.putfield 22, 3) := by decide +kernel
theorem dX10_init_33 : decode cX10_init 33 = .ok (.aload_n 0, 1) := by decide +kernel
theorem dX10_init_34 : decode cX10_init 34 = .ok (.aload_n 2, 1) := by decide +kernel
theorem dX10_init_35 : decode cX10_init 35 = .ok (.putfield 26, 3) := by decide +kernel
theorem dX10_init_38 : decode cX10_init 38 = .ok (.aload_n 0, 1) := by decide +kernel
theorem dX10_init_39 : decode cX10_init 39 = .ok (.aload_n 3, 1) := by decide +kernel
theorem dX10_init_40 : decode cX10_init 40 = .ok (.putfield 30, 3) := by decide +kernel
theorem dX10_init_43 : decode cX10_init 43 = .ok (.return_, 1) := by decide +kernel
theorem dX10_tell_0 : decode cX10_tell 0 = .ok (.aload_n 0, 1) := by decide +kernel
theorem dX10_tell_1 : decode cX10_tell 1 = .ok (.getfield 34, 3) := by decide +kernel
theorem dX10_tell_4 : decode cX10_tell 4 = .ok (.ifCond .lt 12, 3) := by decide +kernel
theorem dX10_tell_7 : decode cX10_tell 7 = .ok (.aload_n 0, 1) := by decide +kernel
theorem dX10_tell_8 : decode cX10_tell 8 = .ok (.getfield 34, 3) := by decide +kernel
theorem dX10_tell_11 : decode cX10_tell 11 = .ok (.bipush 60, 2) := by decide +kernel
theorem dX10_tell_13 : decode cX10_tell 13 = .ok (.if_icmp .lt 4, 3) := by decide +kernel
theorem dX10_tell_16 : decode cX10_tell 16 = .ok (.return_, 1) := by decide +kernel
theorem dX10_tell_17 : decode cX10_tell 17 = .ok (.aload_n 0, 1) := by decide +kernel
theorem dX10_tell_18 : decode cX10_tell 18 = .ok (.getfield 34, 3) := by decide +kernel
theorem dX10_tell_21 : decode cX10_tell 21 = .ok (.istore_n 3, 1) := by decide +kernel
theorem dX10_tell_22 : decode cX10_tell 22 = .ok (.iload_n 3, 1) := by decide +kernel
theorem dX10_tell_23 : decode cX10_tell 23 = .ok (.ifCond .le 49, 3) := by decide +kernel
theorem dX10_tell_26 : decode cX10_tell 26 = .ok (.aload_n 0, 1) := by decide +kernel
theorem dX10_tell_27 : decode cX10_tell 27 = .ok (.getfield 9, 3) := by decide +kernel
theorem dX10_tell_30 : decode cX10_tell 30 = .ok (.iload_n 3, 1) := by decide +kernel
theorem dX10_tell_31 : decode cX10_tell 31 = .ok (.iconst 1, 1) := by decide +kernel
theorem dX10_tell_32 : decode cX10_tell 32 = .ok (.isub, 1) := by decide +kernel
theorem dX10_tell_33 : decode cX10_tell 33 = .ok (.iaload, 1) := by decide +kernel
theorem dX10_tell_34 : decode cX10_tell 34 = .ok (.iload_n 1, 1) := by decide +kernel
theorem dX10_tell_35 : decode cX10_tell 35 = .ok (.if_icmp .le 37, 3) := by decide +kernel
theorem dX10_tell_38 : decode cX10_tell 38 = .ok (.aload_n 0, 1) := by decide +kernel
theorem dX10_tell_39 : decode cX10_tell 39 = .ok (.getfield 9, 3) := by decide +kernel
theorem dX10_tell_42 : decode cX10_tell 42 = .ok (.iload_n 3, 1) := by decide +kernel
theorem dX10_tell_43 : decode cX10_tell 43 = .ok (.aload_n 0, 1) := by decide +kernel
theorem dX10_tell_44 : decode cX10_tell 44 = .ok (.getfield 9, 3) := by decide +kernel
theorem dX10_tell_47 : decode cX10_tell 47 = .ok (.iload_n 3, 1) := by decide +kernel
theorem dX10_tell_48 : decode cX10_tell 48 = .ok (.iconst 1, 1) := by decide +kernel
theorem dX10_tell_49 : decode cX10_tell 49 = .ok (.isub, 1) := by decide +kernel
theorem dX10_tell_50 : decode cX10_tell 50 = .ok (.iaload, 1) := by decide +kernel
theorem dX10_tell_51 : decode cX10_tell 51 = .ok (.iastore, 1) := by decide +kernel
theorem dX10_tell_52 : decode cX10_tell 52 = .ok (.aload_n 0, 1) := by decide +kernel
theorem dX10_tell_53 : decode cX10_tell 53 = .ok (.getfield 15, 3) := by decide +kernel
theorem dX10_tell_56 : decode cX10_tell 56 = .ok (.iload_n 3, 1) := by decide +kernel
theorem dX10_tell_57 : decode cX10_tell 57 = .ok (.aload_n 0, 1) := by decide +kernel
theorem dX10_tell_58 : decode cX10_tell 58 = .ok (.getfield 15, 3) := by decide +kernel
theorem dX10_tell_61 : decode cX10_tell 61 = .ok (.iload_n 3, 1) := by decide +kernel
theorem dX10_tell_62 : decode cX10_tell 62 = .ok (.iconst 1, 1) := by decide +kernel
theorem dX10_tell_63 : decode cX10_tell 63 = .ok (.isub, 1) := by decide +kernel
theorem dX10_tell_64 : decode cX10_tell 64 = .ok (.iaload, 1) := by decide +kernel
theorem dX10_tell_65 : decode cX10_tell 65 = .ok (.iastore, 1) := by decide +kernel
theorem dX10_tell_66 : decode cX10_tell 66 = .ok (.iinc 3 (-1), 3) := by decide +kernel
theorem dX10_tell_69 : decode cX10_tell 69 = .ok (.goto (-47), 3) := by decide +kernel
theorem dX10_tell_72 : decode cX10_tell 72 = .ok (.aload_n 0, 1) := by decide +kernel
theorem dX10_tell_73 : decode cX10_tell 73 = .ok (.getfield 9, 3) := by decide +kernel
theorem dX10_tell_76 : decode cX10_tell 76 = .ok (.iload_n 3, 1) := by decide +kernel
theorem dX10_tell_77 : decode cX10_tell 77 = .ok (.iload_n 1, 1) := by decide +kernel
theorem dX10_tell_78 : decode cX10_tell 78 = .ok (.iastore, 1) := by decide +kernel
theorem dX10_tell_79 : decode cX10_tell 79 = .ok (.aload_n 0, 1) := by decide +kernel
theorem dX10_tell_80 : decode cX10_tell 80 = .ok (.getfield 15, 3) := by decide +kernel
theorem dX10_tell_83 : decode cX10_tell 83 = .ok (.iload_n 3, 1) := by decide +kernel
theorem dX10_tell_84 : decode cX10_tell 84 = .ok (.iload_n 2, 1) := by decide +kernel
theorem dX10_tell_85 : decode cX10_tell 85 = .ok (.iastore, 1) := by decide +kernel
theorem dX10_tell_86 : decode cX10_tell 86 = .ok (.aload_n 0, 1) := by decide +kernel
theorem dX10_tell_87 : decode cX10_tell 87 = .ok (.dup, 1) := by decide +kernel
theorem dX10_tell_88 : decode cX10_tell 88 = .ok (.getfield 34, 3) := by decide +kernel
theorem dX10_tell_91 : decode cX10_tell 91 = .ok (.iconst 1, 1) := by decide +kernel
theorem dX10_tell_92 : decode cX10_tell 92 = .ok (.iadd, 1) := by decide +kernel
theorem dX10_tell_93 : decode cX10_tell 93 = .ok (.putfield 34, 3) := by decide +kernel
theorem dX10_tell_96 : decode cX10_tell 96 = .ok (.return_, 1) := by decide +kernel
theorem dX10_expected_0 : decode cX10_expected 0 = .ok (.iconst 0, 1) := by decide +kernel
theorem dX10_expected_1 : decode cX10_expected 1 = .ok (.istore_n 1, 1) := by decide +kernel
theorem dX10_expected_2 : decode cX10_expected 2 = .ok (.iconst 0, 1) := by decide +kernel
theorem dX10_expected_3 : decode cX10_expected 3 = .ok (.istore_n 2, 1) := by decide +kernel
theorem dX10_expected_4 : decode cX10_expected 4 = .ok (.iload_n 2, 1) := by decide +kernel
theorem dX10_expected_5 : decode cX10_expected 5 = .ok (.aload_n 0, 1) := by decide +kernel
theorem dX10_expected_6 : decode cX10_expected 6 = .ok (.getfield 26, 3) := by decide +kernel
theorem dX10_expected_9 : decode cX10_expected 9 = .ok (.getfield 38, 3) := by decide +kernel
theorem dX10_expected_12 : decode cX10_expected 12 = .ok (.if_icmp .ge 23, 3) := by decide +kernel
theorem dX10_expected_15 : decode cX10_expected 15 = .ok (.aload_n 0, 1) := by decide +kernel
theorem dX10_expected_16 : decode cX10_expected 16 = .ok (.getfield 30, 3) := by decide +kernel
theorem dX10_expected_19 : decode cX10_expected 19 = .ok (.iload_n 2, 1) := by decide +kernel
theorem dX10_expected_20 : decode cX10_expected 20 = .ok (.invokevirtual 41, 3) := by decide +kernel
theorem dX10_expected_23 : decode cX10_expected 23 = .ok (.ifCond .eq 6, 3) := by decide +kernel
theorem dX10_expected_26 : decode cX10_expected 26 = .ok (.iinc 1 1, 3) := by decide +kernel
theorem dX10_expected_29 : decode cX10_expected 29 = .ok (.iinc 2 1, 3) := by decide +kernel
theorem dX10_expected_32 : decode cX10_expected 32 = .ok (.goto (-28), 3) := by decide +kernel
theorem dX10_expected_35 : decode cX10_expected 35 = .ok (.iload_n 1, 1) := by decide +kernel
theorem dX10_expected_36 : decode cX10_expected 36 = .ok (.ireturn, 1) := by decide +kernel
theorem dX10_mayBeSeen_0 : decode cX10_mayBeSeen 0 = .ok (.iconst 0, 1) := by decide +kernel
theorem dX10_mayBeSeen_1 : decode cX10_mayBeSeen 1 = .ok (.istore_n 2, 1) := by decide +kernel
theorem dX10_mayBeSeen_2 : decode cX10_mayBeSeen 2 = .ok (.iload_n 2, 1) := by decide +kernel
theorem dX10_mayBeSeen_3 : decode cX10_mayBeSeen 3 = .ok (.aload_n 0, 1) := by decide +kernel
theorem dX10_mayBeSeen_4 : decode cX10_mayBeSeen 4 = .ok (.getfield 34, 3) := by decide +kernel
theorem dX10_mayBeSeen_7 : decode cX10_mayBeSeen 7 = .ok (.if_icmp .ge 37, 3) := by decide +kernel
theorem dX10_mayBeSeen_10 : decode cX10_mayBeSeen 10 = .ok (.iload_n 2, 1) := by decide +kernel
theorem dX10_mayBeSeen_11 : decode cX10_mayBeSeen 11 = .ok (.bipush 60, 2) := by decide +kernel
theorem dX10_mayBeSeen_13 : decode cX10_mayBeSeen 13 = .ok (.if_icmp .ge 31, 3) := by decide +kernel
theorem dX10_mayBeSeen_16 : decode cX10_mayBeSeen 16 = .ok (.aload_n 0, 1) := by decide +kernel
theorem dX10_mayBeSeen_17 : decode cX10_mayBeSeen 17 = .ok (.iload_n 1, 1) := by decide +kernel
theorem dX10_mayBeSeen_18 : decode cX10_mayBeSeen 18 = .ok (.aload_n 0, 1) := by decide +kernel
theorem dX10_mayBeSeen_19 : decode cX10_mayBeSeen 19 = .ok (.getfield 9, 3) := by decide +kernel
theorem dX10_mayBeSeen_22 : decode cX10_mayBeSeen 22 = .ok (.iload_n 2, 1) := by decide +kernel
theorem dX10_mayBeSeen_23 : decode cX10_mayBeSeen 23 = .ok (.iaload, 1) := by decide +kernel
theorem dX10_mayBeSeen_24 : decode cX10_mayBeSeen 24 = .ok (.aload_n 0, 1) := by decide +kernel
theorem dX10_mayBeSeen_25 : decode cX10_mayBeSeen 25 = .ok (.getfield 15, 3) := by decide +kernel
theorem dX10_mayBeSeen_28 : decode cX10_mayBeSeen 28 = .ok (.iload_n 2, 1) := by decide +kernel
theorem dX10_mayBeSeen_29 : decode cX10_mayBeSeen 29 = .ok (.iaload, 1) := by decide +kernel
theorem dX10_mayBeSeen_30 : decode cX10_mayBeSeen 30 = .ok (.invokevirtual 47, 3) := by decide +kernel
theorem dX10_mayBeSeen_33 : decode cX10_mayBeSeen 33 = .ok (.ifCond .eq 5, 3) := by decide +kernel
theorem dX10_mayBeSeen_36 : decode cX10_mayBeSeen 36 = .ok (.iconst 1, 1) := by decide +kernel
theorem dX10_mayBeSeen_37 : decode cX10_mayBeSeen 37 = .ok (.ireturn, 1) := by decide +kernel
theorem dX10_mayBeSeen_38 : decode cX10_mayBeSeen 38 = .ok (.iinc 2 1, 3) := by decide +kernel
theorem dX10_mayBeSeen_41 : decode cX10_mayBeSeen 41 = .ok (.goto (-39), 3) := by decide +kernel
theorem dX10_mayBeSeen_44 : decode cX10_mayBeSeen 44 = .ok (.iconst 0, 1) := by decide +kernel
theorem dX10_mayBeSeen_45 : decode cX10_mayBeSeen 45 = .ok (.ireturn, 1) := by decide +kernel
theorem dX10_greatestMatching_0 : decode cX10_greatestMatching 0 = .ok (.iconst 0, 1) := by decide +kernel
theorem dX10_greatestMatching_1 : decode cX10_greatestMatching 1 = .ok (.istore_n 2, 1) := by decide +kernel
theorem dX10_greatestMatching_2 : decode cX10_greatestMatching 2 = .ok (.iload_n 2, 1) := by decide +kernel
theorem dX10_greatestMatching_3 : decode cX10_greatestMatching 3 = .ok (.bipush 120, 2) := by decide +kernel
theorem dX10_greatestMatching_5 : decode cX10_greatestMatching 5 = .ok (.if_icmp .ge 16, 3) := by decide +kernel
theorem dX10_greatestMatching_8 : decode cX10_greatestMatching 8 = .ok (.aload_n 0, 1) := by decide +kernel
theorem dX10_greatestMatching_9 : decode cX10_greatestMatching 9 = .ok (.getfield 18, 3) := by decide +kernel
theorem dX10_greatestMatching_12 : decode cX10_greatestMatching 12 = .ok (.iload_n 2, 1) := by decide +kernel
theorem dX10_greatestMatching_13 : decode cX10_greatestMatching 13 = .ok (.iconst 0, 1) := by decide +kernel
theorem dX10_greatestMatching_14 : decode cX10_greatestMatching 14 = .ok (.bastore, 1) := by decide +kernel
theorem dX10_greatestMatching_15 : decode cX10_greatestMatching 15 = .ok (.iinc 2 1, 3) := by decide +kernel
theorem dX10_greatestMatching_18 : decode cX10_greatestMatching 18 = .ok (.goto (-16), 3) := by decide +kernel
theorem dX10_greatestMatching_21 : decode cX10_greatestMatching 21 = .ok (.iconst 0, 1) := by decide +kernel
theorem dX10_greatestMatching_22 : decode cX10_greatestMatching 22 = .ok (.istore_n 2, 1) := by decide +kernel
theorem dX10_greatestMatching_23 : decode cX10_greatestMatching 23 = .ok (.iconst 0, 1) := by decide +kernel
theorem dX10_greatestMatching_24 : decode cX10_greatestMatching 24 = .ok (.istore_n 3, 1) := by decide +kernel
theorem dX10_greatestMatching_25 : decode cX10_greatestMatching 25 = .ok (.iload_n 3, 1) := by decide +kernel
theorem dX10_greatestMatching_26 : decode cX10_greatestMatching 26 = .ok (.aload_n 0, 1) := by decide +kernel
theorem dX10_greatestMatching_27 : decode cX10_greatestMatching 27 = .ok (.getfield 34, 3) := by decide +kernel
theorem dX10_greatestMatching_30 : decode cX10_greatestMatching 30 = .ok (.if_icmp .ge 57, 3) := by decide +kernel
theorem dX10_greatestMatching_33 : decode cX10_greatestMatching 33 = .ok (.iload_n 3, 1) := by decide +kernel
theorem dX10_greatestMatching_34 : decode cX10_greatestMatching 34 = .ok (.bipush 60, 2) := by decide +kernel
theorem dX10_greatestMatching_36 : decode cX10_greatestMatching 36 = .ok (.if_icmp .ge 51, 3) := by decide +kernel
theorem dX10_greatestMatching_39 : decode cX10_greatestMatching 39 = .ok (.aload_n 0, 1) := by decide +kernel
theorem dX10_greatestMatching_40 : decode cX10_greatestMatching 40 = .ok (.aload_n 0, 1) := by decide +kernel
theorem dX10_greatestMatching_41 : decode cX10_greatestMatching 41 = .ok (.getfield 9, 3) := by decide +kernel
theorem dX10_greatestMatching_44 : decode cX10_greatestMatching 44 = .ok (.iload_n 3, 1) := by decide +kernel
theorem dX10_greatestMatching_45 : decode cX10_greatestMatching 45 = .ok (.iaload, 1) := by decide +kernel
theorem dX10_greatestMatching_46 : decode cX10_greatestMatching 46 = .ok (.aload_n 0, 1) := by decide +kernel
theorem dX10_greatestMatching_47 : decode cX10_greatestMatching 47 = .ok (.getfield 15, 3) := by decide +kernel
theorem dX10_greatestMatching_50 : decode cX10_greatestMatching 50 = .ok (.iload_n 3, 1) := by decide +kernel
theorem dX10_greatestMatching_51 : decode cX10_greatestMatching 51 = .ok (.iaload, 1) := by decide +kernel
theorem dX10_greatestMatching_52 : decode cX10_greatestMatching 52 = .ok (.iload_n 1, 1) := by decide +kernel
theorem dX10_greatestMatching_53 : decode cX10_greatestMatching 53 = .ok (.invokevirtual 51, 3) := by decide +kernel
theorem dX10_greatestMatching_56 : decode cX10_greatestMatching 56 = .ok (.istore 4, 2) := by decide +kernel
theorem dX10_greatestMatching_58 : decode cX10_greatestMatching 58 = .ok (.iload 4, 2) := by decide +kernel
theorem dX10_greatestMatching_60 : decode cX10_greatestMatching 60 = .ok (.ifCond .lt 21, 3) := by decide +kernel
theorem dX10_greatestMatching_63 : decode cX10_greatestMatching 63 = .ok (.iload 4, 2) := by decide +kernel
theorem dX10_greatestMatching_65 : decode cX10_greatestMatching 65 = .ok (.bipush 120, 2) := by decide +kernel
theorem dX10_greatestMatching_67 : decode cX10_greatestMatching 67 = .ok (.if_icmp .ge 14, 3) := by decide +kernel
theorem dX10_greatestMatching_70 : decode cX10_greatestMatching 70 = .ok (.aload_n 0, 1) := by decide +kernel
theorem dX10_greatestMatching_71 : decode cX10_greatestMatching 71 = .ok (.getfield 18, 3) := by decide +kernel
theorem dX10_greatestMatching_74 : decode cX10_greatestMatching 74 = .ok (.iload 4, 2) := by decide +kernel
theorem dX10_greatestMatching_76 : decode cX10_greatestMatching 76 = .ok (.iconst 1, 1) := by decide +kernel
theorem dX10_greatestMatching_77 : decode cX10_greatestMatching 77 = .ok (.bastore, 1) := by decide +kernel
theorem dX10_greatestMatching_78 : decode cX10_greatestMatching 78 = .ok (.iinc 2 1, 3) := by decide +kernel
theorem dX10_greatestMatching_81 : decode cX10_greatestMatching 81 = .ok (.iinc 3 1, 3) := by decide +kernel
theorem dX10_greatestMatching_84 : decode cX10_greatestMatching 84 = .ok (.goto (-59), 3) := by decide +kernel
theorem dX10_greatestMatching_87 : decode cX10_greatestMatching 87 = .ok (.iload_n 2, 1) := by decide +kernel
theorem dX10_greatestMatching_88 : decode cX10_greatestMatching 88 = .ok (.ireturn, 1) := by decide +kernel
theorem dX10_firstToEnd_0 : decode cX10_firstToEnd 0 = .ok (.iconst (-1), 1) := by decide +kernel
theorem dX10_firstToEnd_1 : decode cX10_firstToEnd 1 = .ok (.istore 4, 2) := by decide +kernel
theorem dX10_firstToEnd_3 : decode cX10_firstToEnd 3 = .ok (.iconst 0, 1) := by decide +kernel
theorem dX10_firstToEnd_4 : decode cX10_firstToEnd 4 = .ok (.istore 5, 2) := by decide +kernel
theorem dX10_firstToEnd_6 : decode cX10_firstToEnd 6 = .ok (.iconst 0, 1) := by decide +kernel
theorem dX10_firstToEnd_7 : decode cX10_firstToEnd 7 = .ok (.istore 6, 2) := by decide +kernel
theorem dX10_firstToEnd_9 : decode cX10_firstToEnd 9 = .ok (.iload 6, 2) := by decide +kernel
theorem dX10_firstToEnd_11 : decode cX10_firstToEnd 11 = .ok (.aload_n 0, 1) := by decide +kernel
theorem dX10_firstToEnd_12 : decode cX10_firstToEnd 12 = .ok (.getfield 26, 3) := by decide +kernel
theorem dX10_firstToEnd_15 : decode cX10_firstToEnd 15 = .ok (.getfield 38, 3) := by decide +kernel
theorem dX10_firstToEnd_18 : decode cX10_firstToEnd 18 = .ok (.if_icmp .ge 82, 3) := by decide +kernel
theorem dX10_firstToEnd_21 : decode cX10_firstToEnd 21 = .ok (.iload 6, 2) := by decide +kernel
theorem dX10_firstToEnd_23 : decode cX10_firstToEnd 23 = .ok (.bipush 120, 2) := by decide +kernel
theorem dX10_firstToEnd_25 : decode cX10_firstToEnd 25 = .ok (.if_icmp .ge 75, 3) := by decide +kernel
theorem dX10_firstToEnd_28 : decode cX10_firstToEnd 28 = .ok (.iload 6, 2) := by decide +kernel
theorem dX10_firstToEnd_30 : decode cX10_firstToEnd 30 = .ok (.iload_n 3, 1) := by decide +kernel
theorem dX10_firstToEnd_31 : decode cX10_firstToEnd 31 = .ok (.if_icmp .eq 63, 3) := by decide +kernel
theorem dX10_firstToEnd_34 : decode cX10_firstToEnd 34 = .ok (.aload_n 0, 1) := by decide +kernel
theorem dX10_firstToEnd_35 : decode cX10_firstToEnd 35 = .ok (.getfield 18, 3) := by decide +kernel
theorem dX10_firstToEnd_38 : decode cX10_firstToEnd 38 = .ok (.iload 6, 2) := by decide +kernel
theorem dX10_firstToEnd_40 : decode cX10_firstToEnd 40 = .ok (.baload, 1) := by decide +kernel
theorem dX10_firstToEnd_41 : decode cX10_firstToEnd 41 = .ok (.ifCond .ne 53, 3) := by decide +kernel
theorem dX10_firstToEnd_44 : decode cX10_firstToEnd 44 = .ok (.aload_n 0, 1) := by decide +kernel
theorem dX10_firstToEnd_45 : decode cX10_firstToEnd 45 = .ok (.iload 6, 2) := by decide +kernel
theorem dX10_firstToEnd_47 : decode cX10_firstToEnd 47 = .ok (.iload_n 1, 1) := by decide +kernel
theorem dX10_firstToEnd_48 : decode cX10_firstToEnd 48 = .ok (.iload_n 2, 1) := by decide +kernel
theorem dX10_firstToEnd_49 : decode cX10_firstToEnd 49 = .ok (.invokevirtual 47, 3) := by decide +kernel
theorem dX10_firstToEnd_52 : decode cX10_firstToEnd 52 = .ok (.ifCond .eq 42, 3) := by decide +kernel
theorem dX10_firstToEnd_55 : decode cX10_firstToEnd 55 = .ok (.aload_n 0, 1) := by decide +kernel
theorem dX10_firstToEnd_56 : decode cX10_firstToEnd 56 = .ok (.getfield 26, 3) := by decide +kernel
theorem dX10_firstToEnd_59 : decode cX10_firstToEnd 59 = .ok (.iload 6, 2) := by decide +kernel
theorem dX10_firstToEnd_61 : decode cX10_firstToEnd 61 = .ok (.invokevirtual 55, 3) := by decide +kernel
theorem dX10_firstToEnd_64 : decode cX10_firstToEnd 64 = .ok (.aload_n 0, 1) := by decide +kernel
theorem dX10_firstToEnd_65 : decode cX10_firstToEnd 65 = .ok (.iload 6, 2) := by decide +kernel
theorem dX10_firstToEnd_67 : decode cX10_firstToEnd 67 = .ok (.invokevirtual 59, 3) := by decide +kernel
theorem dX10_firstToEnd_70 : decode cX10_firstToEnd 70 = .ok (.iadd, 1) := by decide +kernel
theorem dX10_firstToEnd_71 : decode cX10_firstToEnd 71 = .ok (.istore 7, 2) := by decide +kernel
theorem dX10_firstToEnd_73 : decode cX10_firstToEnd 73 = .ok (.iload 4, 2) := by decide +kernel
theorem dX10_firstToEnd_75 : decode cX10_firstToEnd 75 = .ok (.iconst (-1), 1) := by decide +kernel
theorem dX10_firstToEnd_76 : decode cX10_firstToEnd 76 = .ok (.if_icmp .eq 10, 3) := by decide +kernel
theorem dX10_firstToEnd_79 : decode cX10_firstToEnd 79 = .ok (.iload 7, 2) := by decide +kernel
theorem dX10_firstToEnd_81 : decode cX10_firstToEnd 81 = .ok (.iload 5, 2) := by decide +kernel
theorem dX10_firstToEnd_83 : decode cX10_firstToEnd 83 = .ok (.if_icmp .ge 11, 3) := by decide +kernel
theorem dX10_firstToEnd_86 : decode cX10_firstToEnd 86 = .ok (.iload 6, 2) := by decide +kernel
theorem dX10_firstToEnd_88 : decode cX10_firstToEnd 88 = .ok (.istore 4, 2) := by decide +kernel
theorem dX10_firstToEnd_90 : decode cX10_firstToEnd 90 = .ok (.iload 7, 2) := by decide +kernel
theorem dX10_firstToEnd_92 : decode cX10_firstToEnd 92 = .ok (.istore 5, 2) := by decide +kernel
theorem dX10_firstToEnd_94 : decode cX10_firstToEnd 94 = .ok (.iinc 6 1, 3) := by decide +kernel
theorem dX10_firstToEnd_97 : decode cX10_firstToEnd 97 = .ok (.goto (-88), 3) := by decide +kernel
theorem dX10_firstToEnd_100 : decode cX10_firstToEnd 100 = .ok (.iload 4, 2) := by decide +kernel
theorem dX10_firstToEnd_102 : decode cX10_firstToEnd 102 = .ok (.ireturn, 1) := by decide +kernel
theorem dX10_mayBe_0 : decode cX10_mayBe 0 = .ok (.aload_n 0, 1) := by decide +kernel
theorem dX10_mayBe_1 : decode cX10_mayBe 1 = .ok (.getfield 30, 3) := by decide +kernel
theorem dX10_mayBe_4 : decode cX10_mayBe 4 = .ok (.iload_n 1, 1) := by decide +kernel
theorem dX10_mayBe_5 : decode cX10_mayBe 5 = .ok (.invokevirtual 41, 3) := by decide +kernel
theorem dX10_mayBe_8 : decode cX10_mayBe 8 = .ok (.ifCond .eq 50, 3) := by decide +kernel
theorem dX10_mayBe_11 : decode cX10_mayBe 11 = .ok (.aload_n 0, 1) := by decide +kernel
theorem dX10_mayBe_12 : decode cX10_mayBe 12 = .ok (.getfield 22, 3) := by decide +kernel
theorem dX10_mayBe_15 : decode cX10_mayBe 15 = .ok (.getfield 62, 3) := by decide +kernel
theorem dX10_mayBe_18 : decode cX10_mayBe 18 = .ok (.aload_n 0, 1) := by decide +kernel
theorem dX10_mayBe_19 : decode cX10_mayBe 19 = .ok (.getfield 30, 3) := by decide +kernel
theorem dX10_mayBe_22 : decode cX10_mayBe 22 = .ok (.iload_n 1, 1) := by decide +kernel
theorem dX10_mayBe_23 : decode cX10_mayBe 23 = .ok (.invokevirtual 68, 3) := by decide +kernel
theorem dX10_mayBe_26 : decode cX10_mayBe 26 = .ok (.invokevirtual 71, 3) := by decide +kernel
theorem dX10_mayBe_29 : decode cX10_mayBe 29 = .ok (.iload_n 3, 1) := by decide +kernel
theorem dX10_mayBe_30 : decode cX10_mayBe 30 = .ok (.if_icmp .ne 28, 3) := by decide +kernel
theorem dX10_mayBe_33 : decode cX10_mayBe 33 = .ok (.aload_n 0, 1) := by decide +kernel
theorem dX10_mayBe_34 : decode cX10_mayBe 34 = .ok (.getfield 26, 3) := by decide +kernel
theorem dX10_mayBe_37 : decode cX10_mayBe 37 = .ok (.iload_n 1, 1) := by decide +kernel
theorem dX10_mayBe_38 : decode cX10_mayBe 38 = .ok (.invokevirtual 55, 3) := by decide +kernel
theorem dX10_mayBe_41 : decode cX10_mayBe 41 = .ok (.iload_n 2, 1) := by decide +kernel
theorem dX10_mayBe_42 : decode cX10_mayBe 42 = .ok (.isub, 1) := by decide +kernel
theorem dX10_mayBe_43 : decode cX10_mayBe 43 = .ok (.invokestatic 76, 3) := by decide +kernel
theorem dX10_mayBe_46 : decode cX10_mayBe 46 = .ok (.aload_n 0, 1) := by decide +kernel
theorem dX10_mayBe_47 : decode cX10_mayBe 47 = .ok (.iload_n 1, 1) := by decide +kernel
theorem dX10_mayBe_48 : decode cX10_mayBe 48 = .ok (.invokevirtual 59, 3) := by decide +kernel
theorem dX10_mayBe_51 : decode cX10_mayBe 51 = .ok (.if_icmp .gt 7, 3) := by decide +kernel
theorem dX10_mayBe_54 : decode cX10_mayBe 54 = .ok (.iconst 1, 1) := by decide +kernel
theorem dX10_mayBe_55 : decode cX10_mayBe 55 = .ok (.goto 4, 3) := by decide +kernel
theorem dX10_mayBe_58 : decode cX10_mayBe 58 = .ok (.iconst 0, 1) := by decide +kernel
theorem dX10_mayBe_59 : decode cX10_mayBe 59 = .ok (.ireturn, 1) := by decide +kernel
theorem dX10_lateOf_0 : decode cX10_lateOf 0 = .ok (.aload_n 0, 1) := by decide +kernel
theorem dX10_lateOf_1 : decode cX10_lateOf 1 = .ok (.getfield 22, 3) := by decide +kernel
theorem dX10_lateOf_4 : decode cX10_lateOf 4 = .ok (.getfield 62, 3) := by decide +kernel
theorem dX10_lateOf_7 : decode cX10_lateOf 7 = .ok (.aload_n 0, 1) := by decide +kernel
theorem dX10_lateOf_8 : decode cX10_lateOf 8 = .ok (.getfield 30, 3) := by decide +kernel
theorem dX10_lateOf_11 : decode cX10_lateOf 11 = .ok (.iload_n 1, 1) := by decide +kernel
theorem dX10_lateOf_12 : decode cX10_lateOf 12 = .ok (.invokevirtual 68, 3) := by decide +kernel
theorem dX10_lateOf_15 : decode cX10_lateOf 15 = .ok (.invokevirtual 81, 3) := by decide +kernel
theorem dX10_lateOf_18 : decode cX10_lateOf 18 = .ok (.ireturn, 1) := by decide +kernel
theorem dX11_init_0 : decode cX11_init 0 = .ok (.aload_n 0, 1) := by decide +kernel
theorem dX11_init_1 : decode cX11_init 1 = .ok (.invokespecial 1, 3) := by decide +kernel
theorem dX11_init_4 : decode cX11_init 4 = .ok (.aload_n 0, 1) := by decide +kernel
theorem dX11_init_5 : decode cX11_init 5 = .ok (.new 7, 3) := by decide +kernel
theorem dX11_init_8 : decode cX11_init 8 = .ok (.dup, 1) := by decide +kernel
theorem dX11_init_9 : decode cX11_init 9 = .ok (.invokespecial 9, 3) := by decide +kernel
theorem dX11_init_12 : decode cX11_init 12 = .ok (.putfield 10, 3) := by decide +kernel
theorem dX11_init_15 : decode cX11_init 15 = .ok (.aload_n 0, 1) := by decide +kernel
theorem dX11_init_16 : decode cX11_init 16 = .ok (.new 16, 3) := by decide +kernel
theorem dX11_init_19 : decode cX11_init 19 = .ok (.dup, 1) := by decide +kernel
theorem dX11_init_20 : decode cX11_init 20 = .ok (.invokespecial 18, 3) := by decide +kernel
theorem dX11_init_23 : decode cX11_init 23 = .ok (.putfield 19, 3) := by decide +kernel
theorem dX11_init_26 : decode cX11_init 26 = .ok (.aload_n 0, 1) := by decide +kernel
theorem dX11_init_27 : decode cX11_init 27 = .ok (.new 23, 3) := by decide +kernel
theorem dX11_init_30 : decode cX11_init 30 = .ok (.dup, 1) := by decide +kernel
theorem dX11_init_31 : decode cX11_init 31 = .ok (.aload_n 0, 1) := by decide +kernel
theorem dX11_init_32 : decode cX11_init 32 = .ok (.getfield 10, 3) := by decide +kernel
theorem dX11_init_35 : decode cX11_init 35 = .ok (.invokespecial 25, 3) := by decide +kernel
theorem dX11_init_38 : decode cX11_init 38 = .ok (.putfield 28, 3) := by decide +kernel
theorem dX11_init_41 : decode cX11_init 41 = .ok (.aload_n 0, 1) := by decide +kernel
theorem dX11_init_42 : decode cX11_init 42 = .ok (.new 32, 3) := by decide +kernel
theorem dX11_init_45 : decode cX11_init 45 = .ok (.dup, 1) := by decide +kernel
theorem dX11_init_46 : decode cX11_init 46 = .ok (.aload_n 0, 1) := by decide +kernel
theorem dX11_init_47 : decode cX11_init 47 = .ok (.getfield 10, 3) := by decide +kernel
theorem dX11_init_50 : decode cX11_init 50 = .ok (.aload_n 0, 1) := by decide +kernel
theorem dX11_init_51 : decode cX11_init 51 = .ok (.getfield 19, 3) := by decide +kernel
theorem dX11_init_54 : decode cX11_init 54 = .ok (.invokespecial 34, 3) := by decide +kernel
theorem dX11_init_57 : decode cX11_init 57 = .ok (.putfield 37, 3) := by decide +kernel
theorem dX11_init_60 : decode cX11_init 60 = .ok (.aload_n 0, 1) := by decide +kernel
theorem dX11_init_61 : decode cX11_init 61 = .ok (.new 41, 3) := by decide +kernel
theorem dX11_init_64 : decode cX11_init 64 = .ok (.dup, 1) := by decide +kernel
theorem dX11_init_65 : decode cX11_init 65 = .ok (.invokespecial 43, 3) := by decide +kernel
theorem dX11_init_68 : decode cX11_init 68 = .ok (.putfield 44, 3) := by decide +kernel
theorem dX11_init_71 : decode cX11_init 71 = .ok (.aload_n 0, 1) := by decide +kernel
theorem dX11_init_72 : decode cX11_init 72 = .ok (.new 48, 3) := by decide +kernel
theorem dX11_init_75 : decode cX11_init 75 = .ok (.dup, 1) := by decide +kernel
theorem dX11_init_76 : decode cX11_init 76 = .ok (.invokespecial 50, 3) := by decide +kernel
theorem dX11_init_79 : decode cX11_init 79 = .ok (.putfield 51, 3) := by decide +kernel
theorem dX11_init_82 : decode cX11_init 82 = .ok (.aload_n 0, 1) := by decide +kernel
theorem dX11_init_83 : decode cX11_init 83 = .ok (.new 55, 3) := by decide +kernel
theorem dX11_init_86 : decode cX11_init 86 = .ok (.dup, 1) := by decide +kernel
theorem dX11_init_87 : decode cX11_init 87 = .ok (.aload_n 0, 1) := by decide +kernel
theorem dX11_init_88 : decode cX11_init 88 = .ok (.getfield 10, 3) := by decide +kernel
theorem dX11_init_91 : decode cX11_init 91 = .ok (.aload_n 0, 1) := by decide +kernel
theorem dX11_init_92 : decode cX11_init 92 = .ok (.getfield 19, 3) := by decide +kernel
theorem dX11_init_95 : decode cX11_init 95 = .ok (.aload_n 0, 1) := by decide +kernel
theorem dX11_init_96 : decode cX11_init 96 = .ok (.getfield 44, 3) := by decide +kernel
theorem dX11_init_99 : decode cX11_init 99 = .ok (.aload_n 0, 1) := by decide +kernel
theorem dX11_init_100 : decode cX11_init 100 = .ok (.getfield 51, 3) := by decide +kernel
theorem dX11_init_103 : decode cX11_init 103 = .ok (.invokespecial 57, 3) := by decide +kernel
theorem dX11_init_106 : decode cX11_init 106 = .ok (.putfield 60, 3) := by decide +kernel
theorem dX11_init_109 : decode cX11_init 109 = .ok (.aload_n 0, 1) := by decide +kernel
theorem dX11_init_110 : decode cX11_init 110 = .ok (.new 64, 3) := by decide +kernel
theorem dX11_init_113 : decode cX11_init 113 = .ok (.dup, 1) := by decide +kernel
theorem dX11_init_114 : decode cX11_init 114 = .ok (.aload_n 0, 1) := by decide +kernel
theorem dX11_init_115 : decode cX11_init 115 = .ok (.getfield 10, 3) := by decide +kernel
theorem dX11_init_118 : decode cX11_init 118 = .ok (.aload_n 0, 1) := by decide +kernel
theorem dX11_init_119 : decode cX11_init 119 = .ok (.getfield 19, 3) := by decide +kernel
theorem dX11_init_122 : decode cX11_init 122 = .ok (.aload_n 0, 1) := by decide +kernel
theorem dX11_init_123 : decode cX11_init 123 = .ok (.getfield 60, 3) := by decide +kernel
theorem dX11_init_126 : decode cX11_init 126 = .ok (.invokespecial 66, 3) := by decide +kernel
theorem dX11_init_129 : decode cX11_init 129 = .ok (.putfield 69, 3) := by decide +kernel
theorem dX11_init_132 : decode cX11_init 132 = .ok (.aload_n 0, 1) := by decide +kernel
theorem dX11_init_133 : decode cX11_init 133 = .ok (.bipush 6, 2) := by decide +kernel
theorem dX11_init_135 : decode cX11_init 135 = .ok (.anewarray 73, 3) := by decide +kernel
theorem dX11_init_138 : decode cX11_init 138 = .ok (.putfield 75, 3) := by decide +kernel
theorem dX11_init_141 : decode cX11_init 141 = .ok (.iconst 0, 1) := by decide +kernel
theorem dX11_init_142 : decode cX11_init 142 = .ok (.istore_n 1, 1) := by decide +kernel
theorem dX11_init_143 : decode cX11_init 143 = .ok (.iload_n 1, 1) := by decide +kernel
theorem dX11_init_144 : decode cX11_init 144 = .ok (.bipush 6, 2) := by decide +kernel
theorem dX11_init_146 : decode cX11_init 146 = .ok (.if_icmp .ge 22, 3) := by decide +kernel
theorem dX11_init_149 : decode cX11_init 149 = .ok (.aload_n 0, 1) := by decide +kernel
theorem dX11_init_150 : decode cX11_init 150 = .ok (.getfield 75, 3) := by decide +kernel
theorem dX11_init_153 : decode cX11_init 153 = .ok (.iload_n 1, 1) := by decide +kernel
theorem dX11_init_154 : decode cX11_init 154 = .ok (.new 73, 3) := by decide +kernel
theorem dX11_init_157 : decode cX11_init 157 = .ok (.dup, 1) := by decide +kernel
theorem dX11_init_158 : decode cX11_init 158 = .ok (.invokespecial 79, 3) := by decide +kernel
theorem dX11_init_161 : decode cX11_init 161 = .ok (.aastore, 1) := by decide +kernel
theorem dX11_init_162 : decode cX11_init 162 = .ok (.iinc 1 1, 3) := by decide +kernel
theorem dX11_init_165 : decode cX11_init 165 = .ok (.goto (-22), 3) := by decide +kernel
theorem dX11_init_168 : decode cX11_init 168 = .ok (.aload_n 0, 1) := by decide +kernel
theorem dX11_init_169 : decode cX11_init 169 = .ok (.iconst 2, 1) := by decide +kernel
theorem dX11_init_170 : decode cX11_init 170 = .ok (.putfield 80, 3) := by decide +kernel
theorem dX11_init_173 : decode cX11_init 173 = .ok (.aload_n 0, 1) := by decide +kernel
theorem dX11_init_174 : decode cX11_init 174 = .ok (.iconst 0, 1) := by decide +kernel
theorem dX11_init_175 : decode cX11_init 175 = .ok (.putfield 84, 3) := by decide +kernel
theorem dX11_init_178 : decode cX11_init 178 = .ok (.return_, 1) := by decide +kernel
theorem dX11_begin_0 : decode cX11_begin 0 = .ok (.aload_n 0, 1) := by decide +kernel
theorem dX11_begin_1 : decode cX11_begin 1 = .ok (.getfield 10, 3) := by decide +kernel
theorem dX11_begin_4 : decode cX11_begin 4 = .ok (.invokevirtual 87, 3) := by decide +kernel
theorem dX11_begin_7 : decode cX11_begin 7 = .ok (.aload_n 0, 1) := by decide +kernel
theorem dX11_begin_8 : decode cX11_begin 8 = .ok (.getfield 19, 3) := by decide +kernel
theorem dX11_begin_11 : decode cX11_begin 11 = .ok (.iconst 0, 1) := by decide +kernel
theorem dX11_begin_12 : decode cX11_begin 12 = .ok (.putfield 90, 3) := by decide +kernel
theorem dX11_begin_15 : decode cX11_begin 15 = .ok (.aload_n 0, 1) := by decide +kernel
theorem dX11_begin_16 : decode cX11_begin 16 = .ok (.getfield 44, 3) := by decide +kernel
theorem dX11_begin_19 : decode cX11_begin 19 = .ok (.iconst 0, 1) := by decide +kernel
theorem dX11_begin_20 : decode cX11_begin 20 = .ok (.putfield 93, 3) := by decide +kernel
theorem dX11_begin_23 : decode cX11_begin 23 = .ok (.aload_n 0, 1) := by decide +kernel
theorem dX11_begin_24 : decode cX11_begin 24 = .ok (.getfield 51, 3) := by decide +kernel
theorem dX11_begin_27 : decode cX11_begin 27 = .ok (.iconst 0, 1) := by decide +kernel
theorem dX11_begin_28 : decode cX11_begin 28 = .ok (.putfield 94, 3) := by decide +kernel
theorem dX11_begin_31 : decode cX11_begin 31 = .ok (.aload_n 0, 1) := by decide +kernel
theorem dX11_begin_32 : decode cX11_begin 32 = .ok (.getfield 60, 3) := by decide +kernel
theorem dX11_begin_35 : decode cX11_begin 35 = .ok (.invokevirtual 95, 3) := by decide +kernel
theorem dX11_begin_38 : decode cX11_begin 38 = .ok (.aload_n 0, 1) := by decide +kernel
theorem dX11_begin_39 : decode cX11_begin 39 = .ok (.getfield 69, 3) := by decide +kernel
theorem dX11_begin_42 : decode cX11_begin 42 = .ok (.iconst 0, 1) := by decide +kernel
theorem dX11_begin_43 : decode cX11_begin 43 = .ok (.putfield 96, 3) := by decide +kernel
theorem dX11_begin_46 : decode cX11_begin 46 = .ok (.aload_n 0, 1) := by decide +kernel
theorem dX11_begin_47 : decode cX11_begin 47 = .ok (.iconst 2, 1) := by decide +kernel
theorem dX11_begin_48 : decode cX11_begin 48 = .ok (.putfield 80, 3) := by decide +kernel
theorem dX11_begin_51 : decode cX11_begin 51 = .ok (.aload_n 0, 1) := by decide +kernel
theorem dX11_begin_52 : decode cX11_begin 52 = .ok (.iconst 0, 1) := by decide +kernel
theorem dX11_begin_53 : decode cX11_begin 53 = .ok (.putfield 84, 3) := by decide +kernel
theorem dX11_begin_56 : decode cX11_begin 56 = .ok (.iconst 0, 1) := by decide +kernel
theorem dX11_begin_57 : decode cX11_begin 57 = .ok (.ireturn, 1) := by decide +kernel
theorem dX11_cell_0 : decode cX11_cell 0 = .ok (.iload_n 1, 1) := by decide +kernel
theorem dX11_cell_1 : decode cX11_cell 1 = .ok (.ifCond .lt 28, 3) := by decide +kernel
theorem dX11_cell_4 : decode cX11_cell 4 = .ok (.iload_n 1, 1) := by decide +kernel
theorem dX11_cell_5 : decode cX11_cell 5 = .ok (.bipush 32, 2) := by decide +kernel
theorem dX11_cell_7 : decode cX11_cell 7 = .ok (.if_icmp .ge 22, 3) := by decide +kernel
theorem dX11_cell_10 : decode cX11_cell 10 = .ok (.iload_n 2, 1) := by decide +kernel
theorem dX11_cell_11 : decode cX11_cell 11 = .ok (.ifCond .lt 18, 3) := by decide +kernel
theorem dX11_cell_14 : decode cX11_cell 14 = .ok (.iload_n 2, 1) := by decide +kernel
theorem dX11_cell_15 : decode cX11_cell 15 = .ok (.bipush 32, 2) := by decide +kernel
theorem dX11_cell_17 : decode cX11_cell 17 = .ok (.if_icmp .ge 12, 3) := by decide +kernel
theorem dX11_cell_20 : decode cX11_cell 20 = .ok (.iload_n 3, 1) := by decide +kernel
theorem dX11_cell_21 : decode cX11_cell 21 = .ok (.ifCond .lt 8, 3) := by decide +kernel
theorem dX11_cell_24 : decode cX11_cell 24 = .ok (.iload_n 3, 1) := by decide +kernel
theorem dX11_cell_25 : decode cX11_cell 25 = .ok (.iconst 2, 1) := by decide +kernel
theorem dX11_cell_26 : decode cX11_cell 26 = .ok (.if_icmp .le 5, 3) := by decide +kernel
theorem dX11_cell_29 : decode cX11_cell 29 = .ok (.iconst (-1), 1) := by decide +kernel
theorem dX11_cell_30 : decode cX11_cell 30 = .ok (.ireturn, 1) := by decide +kernel
theorem dX11_cell_31 : decode cX11_cell 31 = .ok (.aload_n 0, 1) := by decide +kernel
theorem dX11_cell_32 : decode cX11_cell 32 = .ok (.getfield 10, 3) := by decide +kernel
theorem dX11_cell_35 : decode cX11_cell 35 = .ok (.iload_n 1, 1) := by decide +kernel
theorem dX11_cell_36 : decode cX11_cell 36 = .ok (.iload_n 2, 1) := by decide +kernel
theorem dX11_cell_37 : decode cX11_cell 37 = .ok (.invokevirtual 97, 3) := by decide +kernel
theorem dX11_cell_40 : decode cX11_cell 40 = .ok (.istore 4, 2) := by decide +kernel
theorem dX11_cell_42 : decode cX11_cell 42 = .ok (.aload_n 0, 1) := by decide +kernel
theorem dX11_cell_43 : decode cX11_cell 43 = .ok (.getfield 10, 3) := by decide +kernel
theorem dX11_cell_46 : decode cX11_cell 46 = .ok (.iload_n 1, 1) := by decide +kernel
theorem dX11_cell_47 : decode cX11_cell 47 = .ok (.iload_n 2, 1) := by decide +kernel
theorem dX11_cell_48 : decode cX11_cell 48 = .ok (.iload_n 3, 1) := by decide +kernel
theorem dX11_cell_49 : decode cX11_cell 49 = .ok (.invokevirtual 101, 3) := by decide +kernel
theorem dX11_cell_52 : decode cX11_cell 52 = .ok (.iload 4, 2) := by decide +kernel
theorem dX11_cell_54 : decode cX11_cell 54 = .ok (.ireturn, 1) := by decide +kernel
theorem dX11_kind_0 : decode cX11_kind 0 = .ok (.iload_n 1, 1) := by decide +kernel
theorem dX11_kind_1 : decode cX11_kind 1 = .ok (.ifCond .lt 21, 3) := by decide +kernel
theorem dX11_kind_4 : decode cX11_kind 4 = .ok (.iload_n 1, 1) := by decide +kernel
theorem dX11_kind_5 : decode cX11_kind 5 = .ok (.bipush 12, 2) := by decide +kernel
theorem dX11_kind_7 : decode cX11_kind 7 = .ok (.if_icmp .ge 15, 3) := by decide +kernel
theorem dX11_kind_10 : decode cX11_kind 10 = .ok (.iload_n 2, 1) := by decide +kernel
theorem dX11_kind_11 : decode cX11_kind 11 = .ok (.iload_n 3, 1) := by decide +kernel
theorem dX11_kind_12 : decode cX11_kind 12 = .ok (.iload 4, 2) := by decide +kernel
theorem dX11_kind_14 : decode cX11_kind 14 = .ok (.iload 5, 2) := by decide +kernel
theorem dX11_kind_16 : decode cX11_kind 16 = .ok (.invokestatic 105, 3) := by decide +kernel
theorem dX11_kind_19 : decode cX11_kind 19 = .ok (.ifCond .ne 5, 3) := by decide +kernel
theorem dX11_kind_22 : decode cX11_kind 22 = .ok (.iconst (-1), 1) := by decide +kernel
theorem dX11_kind_23 : decode cX11_kind 23 = .ok (.ireturn, 1) := by decide +kernel
theorem dX11_kind_24 : decode cX11_kind 24 = .ok (.aload_n 0, 1) := by decide +kernel
theorem dX11_kind_25 : decode cX11_kind 25 = .ok (.getfield 19, 3) := by decide +kernel
theorem dX11_kind_28 : decode cX11_kind 28 = .ok (.iload_n 1, 1) := by decide +kernel
theorem dX11_kind_29 : decode cX11_kind 29 = .ok (.invokevirtual 111, 3) := by decide +kernel
theorem dX11_kind_32 : decode cX11_kind 32 = .ok (.iload_n 2, 1) := by decide +kernel
theorem dX11_kind_33 : decode cX11_kind 33 = .ok (.if_icmp .ge 6, 3) := by decide +kernel
theorem dX11_kind_36 : decode cX11_kind 36 = .ok (.bipush (-5), 2) := by decide +kernel
theorem dX11_kind_38 : decode cX11_kind 38 = .ok (.ireturn, 1) := by decide +kernel
theorem dX11_kind_39 : decode cX11_kind 39 = .ok (.aload_n 0, 1) := by decide +kernel
theorem dX11_kind_40 : decode cX11_kind 40 = .ok (.getfield 10, 3) := by decide +kernel
theorem dX11_kind_43 : decode cX11_kind 43 = .ok (.getfield 115, 3) := by decide +kernel
theorem dX11_kind_46 : decode cX11_kind 46 = .ok (.iload_n 1, 1) := by decide +kernel
theorem dX11_kind_47 : decode cX11_kind 47 = .ok (.iload_n 2, 1) := by decide +kernel
theorem dX11_kind_48 : decode cX11_kind 48 = .ok (.iload_n 3, 1) := by decide +kernel
theorem dX11_kind_49 : decode cX11_kind 49 = .ok (.iload 4, 2) := by decide +kernel
theorem dX11_kind_51 : decode cX11_kind 51 = .ok (.iload 5, 2) := by decide +kernel
theorem dX11_kind_53 : decode cX11_kind 53 = .ok (.invokevirtual 119, 3) := by decide +kernel
theorem dX11_kind_56 : decode cX11_kind 56 = .ok (.aload_n 0, 1) := by decide +kernel
theorem dX11_kind_57 : decode cX11_kind 57 = .ok (.getfield 10, 3) := by decide +kernel
theorem dX11_kind_60 : decode cX11_kind 60 = .ok (.getfield 123, 3) := by decide +kernel
theorem dX11_kind_63 : decode cX11_kind 63 = .ok (.aload_n 0, 1) := by decide +kernel
theorem dX11_kind_64 : decode cX11_kind 64 = .ok (.getfield 10, 3) := by decide +kernel
theorem dX11_kind_67 : decode cX11_kind 67 = .ok (.getfield 115, 3) := by decide +kernel
theorem dX11_kind_70 : decode cX11_kind 70 = .ok (.iload_n 1, 1) := by decide +kernel
theorem dX11_kind_71 : decode cX11_kind 71 = .ok (.invokevirtual 127, 3) := by decide +kernel
theorem dX11_kind_74 : decode cX11_kind 74 = .ok (.iload_n 1, 1) := by decide +kernel
theorem dX11_kind_75 : decode cX11_kind 75 = .ok (.ireturn, 1) := by decide +kernel
theorem dX11_barge_0 : decode cX11_barge 0 = .ok (.iload_n 1, 1) := by decide +kernel
theorem dX11_barge_1 : decode cX11_barge 1 = .ok (.ifCond .lt 29, 3) := by decide +kernel
theorem dX11_barge_4 : decode cX11_barge 4 = .ok (.iload_n 1, 1) := by decide +kernel
theorem dX11_barge_5 : decode cX11_barge 5 = .ok (.bipush 6, 2) := by decide +kernel
theorem dX11_barge_7 : decode cX11_barge 7 = .ok (.if_icmp .ge 23, 3) := by decide +kernel
theorem dX11_barge_10 : decode cX11_barge 10 = .ok (.iload_n 2, 1) := by decide +kernel
theorem dX11_barge_11 : decode cX11_barge 11 = .ok (.ifCond .lt 19, 3) := by decide +kernel
theorem dX11_barge_14 : decode cX11_barge 14 = .ok (.iload_n 2, 1) := by decide +kernel
theorem dX11_barge_15 : decode cX11_barge 15 = .ok (.bipush 32, 2) := by decide +kernel
theorem dX11_barge_17 : decode cX11_barge 17 = .ok (.if_icmp .ge 13, 3) := by decide +kernel
theorem dX11_barge_20 : decode cX11_barge 20 = .ok (.iload_n 3, 1) := by decide +kernel
theorem dX11_barge_21 : decode cX11_barge 21 = .ok (.ifCond .lt 9, 3) := by decide +kernel
theorem dX11_barge_24 : decode cX11_barge 24 = .ok (.iload_n 3, 1) := by decide +kernel
theorem dX11_barge_25 : decode cX11_barge 25 = .ok (.bipush 32, 2) := by decide +kernel
theorem dX11_barge_27 : decode cX11_barge 27 = .ok (.if_icmp .lt 5, 3) := by decide +kernel
theorem dX11_barge_30 : decode cX11_barge 30 = .ok (.iconst (-1), 1) := by decide +kernel
theorem dX11_barge_31 : decode cX11_barge 31 = .ok (.ireturn, 1) := by decide +kernel
theorem dX11_barge_32 : decode cX11_barge 32 = .ok (.iload 4, 2) := by decide +kernel
theorem dX11_barge_34 : decode cX11_barge 34 = .ok (.iconst 1, 1) := by decide +kernel
theorem dX11_barge_35 : decode cX11_barge 35 = .ok (.if_icmp .lt 10, 3) := by decide +kernel
theorem dX11_barge_38 : decode cX11_barge 38 = .ok (.iload 4, 2) := by decide +kernel
theorem dX11_barge_40 : decode cX11_barge 40 = .ok (.bipush 40, 2) := by decide +kernel
theorem dX11_barge_42 : decode cX11_barge 42 = .ok (.if_icmp .le 5, 3) := by decide +kernel
theorem dX11_barge_45 : decode cX11_barge 45 = .ok (.iconst (-1), 1) := by decide +kernel
theorem dX11_barge_46 : decode cX11_barge 46 = .ok (.ireturn, 1) := by decide +kernel
theorem dX11_barge_47 : decode cX11_barge 47 = .ok (.aload_n 0, 1) := by decide +kernel
theorem dX11_barge_48 : decode cX11_barge 48 = .ok (.getfield 10, 3) := by decide +kernel
theorem dX11_barge_51 : decode cX11_barge 51 = .ok (.iload_n 1, 1) := by decide +kernel
theorem dX11_barge_52 : decode cX11_barge 52 = .ok (.iload_n 2, 1) := by decide +kernel
theorem dX11_barge_53 : decode cX11_barge 53 = .ok (.iload_n 3, 1) := by decide +kernel
theorem dX11_barge_54 : decode cX11_barge 54 = .ok (.iload 4, 2) := by decide +kernel
theorem dX11_barge_56 : decode cX11_barge 56 = .ok (.invokevirtual 133, 3) := by decide +kernel
theorem dX11_barge_59 : decode cX11_barge 59 = .ok (.iload_n 1, 1) := by decide +kernel
theorem dX11_barge_60 : decode cX11_barge 60 = .ok (.ireturn, 1) := by decide +kernel
theorem dX11_wind_0 : decode cX11_wind 0 = .ok (.iload_n 1, 1) := by decide +kernel
theorem dX11_wind_1 : decode cX11_wind 1 = .ok (.ifCond .lt 32, 3) := by decide +kernel
theorem dX11_wind_4 : decode cX11_wind 4 = .ok (.iload_n 1, 1) := by decide +kernel
theorem dX11_wind_5 : decode cX11_wind 5 = .ok (.iconst 4, 1) := by decide +kernel
theorem dX11_wind_6 : decode cX11_wind 6 = .ok (.if_icmp .ge 27, 3) := by decide +kernel
theorem dX11_wind_9 : decode cX11_wind 9 = .ok (.iload_n 2, 1) := by decide +kernel
theorem dX11_wind_10 : decode cX11_wind 10 = .ok (.ifCond .lt 23, 3) := by decide +kernel
theorem dX11_wind_13 : decode cX11_wind 13 = .ok (.iload_n 2, 1) := by decide +kernel
theorem dX11_wind_14 : decode cX11_wind 14 = .ok (.iconst 5, 1) := by decide +kernel
theorem dX11_wind_15 : decode cX11_wind 15 = .ok (.if_icmp .ge 18, 3) := by decide +kernel
theorem dX11_wind_18 : decode cX11_wind 18 = .ok (.iload_n 3, 1) := by decide +kernel
theorem dX11_wind_19 : decode cX11_wind 19 = .ok (.invokestatic 137, 3) := by decide +kernel
theorem dX11_wind_22 : decode cX11_wind 22 = .ok (.ifCond .eq 11, 3) := by decide +kernel
theorem dX11_wind_25 : decode cX11_wind 25 = .ok (.iload 4, 2) := by decide +kernel
theorem dX11_wind_27 : decode cX11_wind 27 = .ok (.invokestatic 137, 3) := by decide +kernel
theorem dX11_wind_30 : decode cX11_wind 30 = .ok (.ifCond .ne 5, 3) := by decide +kernel
theorem dX11_wind_33 : decode cX11_wind 33 = .ok (.iconst (-1), 1) := by decide +kernel
theorem dX11_wind_34 : decode cX11_wind 34 = .ok (.ireturn, 1) := by decide +kernel
theorem dX11_wind_35 : decode cX11_wind 35 = .ok (.aload_n 0, 1) := by decide +kernel
theorem dX11_wind_36 : decode cX11_wind 36 = .ok (.getfield 10, 3) := by decide +kernel
theorem dX11_wind_39 : decode cX11_wind 39 = .ok (.getfield 123, 3) := by decide +kernel
theorem dX11_wind_42 : decode cX11_wind 42 = .ok (.iload_n 1, 1) := by decide +kernel
theorem dX11_wind_43 : decode cX11_wind 43 = .ok (.iload_n 2, 1) := by decide +kernel
theorem dX11_wind_44 : decode cX11_wind 44 = .ok (.iload_n 3, 1) := by decide +kernel
theorem dX11_wind_45 : decode cX11_wind 45 = .ok (.iload 4, 2) := by decide +kernel
theorem dX11_wind_47 : decode cX11_wind 47 = .ok (.invokevirtual 141, 3) := by decide +kernel
theorem dX11_wind_50 : decode cX11_wind 50 = .ok (.aload_n 0, 1) := by decide +kernel
theorem dX11_wind_51 : decode cX11_wind 51 = .ok (.getfield 10, 3) := by decide +kernel
theorem dX11_wind_54 : decode cX11_wind 54 = .ok (.getfield 123, 3) := by decide +kernel
theorem dX11_wind_57 : decode cX11_wind 57 = .ok (.aload_n 0, 1) := by decide +kernel
theorem dX11_wind_58 : decode cX11_wind 58 = .ok (.getfield 10, 3) := by decide +kernel
theorem dX11_wind_61 : decode cX11_wind 61 = .ok (.getfield 115, 3) := by decide +kernel
theorem dX11_wind_64 : decode cX11_wind 64 = .ok (.iload_n 1, 1) := by decide +kernel
theorem dX11_wind_65 : decode cX11_wind 65 = .ok (.invokevirtual 144, 3) := by decide +kernel
theorem dX11_wind_68 : decode cX11_wind 68 = .ok (.iconst 0, 1) := by decide +kernel
theorem dX11_wind_69 : decode cX11_wind 69 = .ok (.ireturn, 1) := by decide +kernel
theorem dX11_apart_0 : decode cX11_apart 0 = .ok (.iload_n 1, 1) := by decide +kernel
theorem dX11_apart_1 : decode cX11_apart 1 = .ok (.ifCond .lt 9, 3) := by decide +kernel
theorem dX11_apart_4 : decode cX11_apart 4 = .ok (.iload_n 1, 1) := by decide +kernel
theorem dX11_apart_5 : decode cX11_apart 5 = .ok (.bipush 20, 2) := by decide +kernel
theorem dX11_apart_7 : decode cX11_apart 7 = .ok (.if_icmp .le 5, 3) := by decide +kernel
theorem dX11_apart_10 : decode cX11_apart 10 = .ok (.iconst (-1), 1) := by decide +kernel
theorem dX11_apart_11 : decode cX11_apart 11 = .ok (.ireturn, 1) := by decide +kernel
theorem dX11_apart_12 : decode cX11_apart 12 = .ok (.aload_n 0, 1) := by decide +kernel
theorem dX11_apart_13 : decode cX11_apart 13 = .ok (.getfield 80, 3) := by decide +kernel
theorem dX11_apart_16 : decode cX11_apart 16 = .ok (.istore_n 2, 1) := by decide +kernel
theorem dX11_apart_17 : decode cX11_apart 17 = .ok (.aload_n 0, 1) := by decide +kernel
theorem dX11_apart_18 : decode cX11_apart 18 = .ok (.iload_n 1, 1) := by decide +kernel
theorem dX11_apart_19 : decode cX11_apart 19 = .ok (.putfield 80, 3) := by decide +kernel
theorem dX11_apart_22 : decode cX11_apart 22 = .ok (.iload_n 2, 1) := by decide +kernel
theorem dX11_apart_23 : decode cX11_apart 23 = .ok (.ireturn, 1) := by decide +kernel
theorem dX11_may_0 : decode cX11_may 0 = .ok (.aload_n 0, 1) := by decide +kernel
theorem dX11_may_1 : decode cX11_may 1 = .ok (.getfield 10, 3) := by decide +kernel
theorem dX11_may_4 : decode cX11_may 4 = .ok (.iload_n 1, 1) := by decide +kernel
theorem dX11_may_5 : decode cX11_may 5 = .ok (.invokevirtual 147, 3) := by decide +kernel
theorem dX11_may_8 : decode cX11_may 8 = .ok (.ifCond .eq 17, 3) := by decide +kernel
theorem dX11_may_11 : decode cX11_may 11 = .ok (.aload_n 0, 1) := by decide +kernel
theorem dX11_may_12 : decode cX11_may 12 = .ok (.getfield 10, 3) := by decide +kernel
theorem dX11_may_15 : decode cX11_may 15 = .ok (.getfield 115, 3) := by decide +kernel
theorem dX11_may_18 : decode cX11_may 18 = .ok (.iload_n 2, 1) := by decide +kernel
theorem dX11_may_19 : decode cX11_may 19 = .ok (.invokevirtual 150, 3) := by decide +kernel
theorem dX11_may_22 : decode cX11_may 22 = .ok (.ifCond .ne 5, 3) := by decide +kernel
theorem dX11_may_25 : decode cX11_may 25 = .ok (.iconst (-1), 1) := by decide +kernel
theorem dX11_may_26 : decode cX11_may 26 = .ok (.ireturn, 1) := by decide +kernel
theorem dX11_may_27 : decode cX11_may 27 = .ok (.aload_n 0, 1) := by decide +kernel
theorem dX11_may_28 : decode cX11_may 28 = .ok (.getfield 10, 3) := by decide +kernel
theorem dX11_may_31 : decode cX11_may 31 = .ok (.iload_n 1, 1) := by decide +kernel
theorem dX11_may_32 : decode cX11_may 32 = .ok (.iload_n 2, 1) := by decide +kernel
theorem dX11_may_33 : decode cX11_may 33 = .ok (.invokevirtual 153, 3) := by decide +kernel
theorem dX11_may_36 : decode cX11_may 36 = .ok (.ifCond .eq 7, 3) := by decide +kernel
theorem dX11_may_39 : decode cX11_may 39 = .ok (.iconst 1, 1) := by decide +kernel
theorem dX11_may_40 : decode cX11_may 40 = .ok (.goto 4, 3) := by decide +kernel
theorem dX11_may_43 : decode cX11_may 43 = .ok (.iconst 0, 1) := by decide +kernel
theorem dX11_may_44 : decode cX11_may 44 = .ok (.ireturn, 1) := by decide +kernel
theorem dX11_safe_0 : decode cX11_safe 0 = .ok (.aload_n 0, 1) := by decide +kernel
theorem dX11_safe_1 : decode cX11_safe 1 = .ok (.iload_n 1, 1) := by decide +kernel
theorem dX11_safe_2 : decode cX11_safe 2 = .ok (.iload_n 2, 1) := by decide +kernel
theorem dX11_safe_3 : decode cX11_safe 3 = .ok (.iload_n 3, 1) := by decide +kernel
theorem dX11_safe_4 : decode cX11_safe 4 = .ok (.iload 4, 2) := by decide +kernel
theorem dX11_safe_6 : decode cX11_safe 6 = .ok (.invokevirtual 157, 3) := by decide +kernel
theorem dX11_safe_9 : decode cX11_safe 9 = .ok (.ifCond .ne 5, 3) := by decide +kernel
theorem dX11_safe_12 : decode cX11_safe 12 = .ok (.iconst (-1), 1) := by decide +kernel
theorem dX11_safe_13 : decode cX11_safe 13 = .ok (.ireturn, 1) := by decide +kernel
theorem dX11_safe_14 : decode cX11_safe 14 = .ok (.aload_n 0, 1) := by decide +kernel
theorem dX11_safe_15 : decode cX11_safe 15 = .ok (.getfield 10, 3) := by decide +kernel
theorem dX11_safe_18 : decode cX11_safe 18 = .ok (.iload_n 1, 1) := by decide +kernel
theorem dX11_safe_19 : decode cX11_safe 19 = .ok (.iload_n 2, 1) := by decide +kernel
theorem dX11_safe_20 : decode cX11_safe 20 = .ok (.iload_n 3, 1) := by decide +kernel
theorem dX11_safe_21 : decode cX11_safe 21 = .ok (.iload 4, 2) := by decide +kernel
theorem dX11_safe_23 : decode cX11_safe 23 = .ok (.invokevirtual 160, 3) := by decide +kernel
theorem dX11_safe_26 : decode cX11_safe 26 = .ok (.ifCond .eq 7, 3) := by decide +kernel
theorem dX11_safe_29 : decode cX11_safe 29 = .ok (.iconst 1, 1) := by decide +kernel
theorem dX11_safe_30 : decode cX11_safe 30 = .ok (.goto 4, 3) := by decide +kernel
theorem dX11_safe_33 : decode cX11_safe 33 = .ok (.iconst 0, 1) := by decide +kernel
theorem dX11_safe_34 : decode cX11_safe 34 = .ok (.ireturn, 1) := by decide +kernel
theorem dX11_hot_0 : decode cX11_hot 0 = .ok (.aload_n 0, 1) := by decide +kernel
theorem dX11_hot_1 : decode cX11_hot 1 = .ok (.iload_n 1, 1) := by decide +kernel
theorem dX11_hot_2 : decode cX11_hot 2 = .ok (.iload_n 2, 1) := by decide +kernel
theorem dX11_hot_3 : decode cX11_hot 3 = .ok (.iload_n 3, 1) := by decide +kernel
theorem dX11_hot_4 : decode cX11_hot 4 = .ok (.iload 4, 2) := by decide +kernel
theorem dX11_hot_6 : decode cX11_hot 6 = .ok (.invokevirtual 157, 3) := by decide +kernel
theorem dX11_hot_9 : decode cX11_hot 9 = .ok (.ifCond .eq 14, 3) := by decide +kernel
theorem dX11_hot_12 : decode cX11_hot 12 = .ok (.iload 5, 2) := by decide +kernel
theorem dX11_hot_14 : decode cX11_hot 14 = .ok (.ifCond .lt 9, 3) := by decide +kernel
theorem dX11_hot_17 : decode cX11_hot 17 = .ok (.iload 5, 2) := by decide +kernel
theorem dX11_hot_19 : decode cX11_hot 19 = .ok (.iconst 5, 1) := by decide +kernel
theorem dX11_hot_20 : decode cX11_hot 20 = .ok (.if_icmp .lt 5, 3) := by decide +kernel
theorem dX11_hot_23 : decode cX11_hot 23 = .ok (.iconst (-1), 1) := by decide +kernel
theorem dX11_hot_24 : decode cX11_hot 24 = .ok (.ireturn, 1) := by decide +kernel
theorem dX11_hot_25 : decode cX11_hot 25 = .ok (.aload_n 0, 1) := by decide +kernel
theorem dX11_hot_26 : decode cX11_hot 26 = .ok (.getfield 10, 3) := by decide +kernel
theorem dX11_hot_29 : decode cX11_hot 29 = .ok (.iload_n 1, 1) := by decide +kernel
theorem dX11_hot_30 : decode cX11_hot 30 = .ok (.iload_n 2, 1) := by decide +kernel
theorem dX11_hot_31 : decode cX11_hot 31 = .ok (.iload_n 3, 1) := by decide +kernel
theorem dX11_hot_32 : decode cX11_hot 32 = .ok (.aload_n 0, 1) := by decide +kernel
theorem dX11_hot_33 : decode cX11_hot 33 = .ok (.getfield 10, 3) := by decide +kernel
theorem dX11_hot_36 : decode cX11_hot 36 = .ok (.getfield 123, 3) := by decide +kernel
theorem dX11_hot_39 : decode cX11_hot 39 = .ok (.iload_n 1, 1) := by decide +kernel
theorem dX11_hot_40 : decode cX11_hot 40 = .ok (.iload 4, 2) := by decide +kernel
theorem dX11_hot_42 : decode cX11_hot 42 = .ok (.iconst 0, 1) := by decide +kernel
theorem dX11_hot_43 : decode cX11_hot 43 = .ok (.invokevirtual 163, 3) := by decide +kernel
theorem dX11_hot_46 : decode cX11_hot 46 = .ok (.iload 5, 2) := by decide +kernel
theorem dX11_hot_48 : decode cX11_hot 48 = .ok (.invokevirtual 167, 3) := by decide +kernel
theorem dX11_hot_51 : decode cX11_hot 51 = .ok (.ireturn, 1) := by decide +kernel
theorem dX11_write_0 : decode cX11_write 0 = .ok (.aload_n 0, 1) := by decide +kernel
theorem dX11_write_1 : decode cX11_write 1 = .ok (.iload_n 1, 1) := by decide +kernel
theorem dX11_write_2 : decode cX11_write 2 = .ok (.invokevirtual 171, 3) := by decide +kernel
theorem dX11_write_5 : decode cX11_write 5 = .ok (.astore_n 2, 1) := by decide +kernel
theorem dX11_write_6 : decode cX11_write 6 = .ok (.aload_n 2, 1) := by decide +kernel
theorem dX11_write_7 : decode cX11_write 7 = .ok (.ifnonnull 5, 3) := by decide +kernel
theorem dX11_write_10 : decode cX11_write 10 = .ok (.iconst (-1), 1) := by decide +kernel
theorem dX11_write_11 : decode cX11_write 11 = .ok (.ireturn, 1) := by decide +kernel
theorem dX11_write_12 : decode cX11_write 12 = .ok (.aload_n 2, 1) := by decide +kernel
theorem dX11_write_13 : decode cX11_write 13 = .ok (.iconst 1, 1) := by decide +kernel
theorem dX11_write_14 : decode cX11_write 14 = .ok (.invokevirtual 175, 3) := by decide +kernel
theorem dX11_write_17 : decode cX11_write 17 = .ok (.istore_n 3, 1) := by decide +kernel
theorem dX11_write_18 : decode cX11_write 18 = .ok (.iload_n 3, 1) := by decide +kernel
theorem dX11_write_19 : decode cX11_write 19 = .ok (.ifCond .eq 9, 3) := by decide +kernel
theorem dX11_write_22 : decode cX11_write 22 = .ok (.aload_n 0, 1) := by decide +kernel
theorem dX11_write_23 : decode cX11_write 23 = .ok (.iload_n 3, 1) := by decide +kernel
theorem dX11_write_24 : decode cX11_write 24 = .ok (.invokevirtual 178, 3) := by decide +kernel
theorem dX11_write_27 : decode cX11_write 27 = .ok (.ireturn, 1) := by decide +kernel
theorem dX11_write_28 : decode cX11_write 28 = .ok (.aload_n 0, 1) := by decide +kernel
theorem dX11_write_29 : decode cX11_write 29 = .ok (.getfield 28, 3) := by decide +kernel
theorem dX11_write_32 : decode cX11_write 32 = .ok (.aload_n 2, 1) := by decide +kernel
theorem dX11_write_33 : decode cX11_write 33 = .ok (.invokevirtual 181, 3) := by decide +kernel
theorem dX11_write_36 : decode cX11_write 36 = .ok (.istore 4, 2) := by decide +kernel
theorem dX11_write_38 : decode cX11_write 38 = .ok (.iload 4, 2) := by decide +kernel
theorem dX11_write_40 : decode cX11_write 40 = .ok (.ifCond .lt 9, 3) := by decide +kernel
theorem dX11_write_43 : decode cX11_write 43 = .ok (.bipush (-100), 2) := by decide +kernel
theorem dX11_write_45 : decode cX11_write 45 = .ok (.iload 4, 2) := by decide +kernel
theorem dX11_write_47 : decode cX11_write 47 = .ok (.isub, 1) := by decide +kernel
theorem dX11_write_48 : decode cX11_write 48 = .ok (.ireturn, 1) := by decide +kernel
theorem dX11_write_49 : decode cX11_write 49 = .ok (.aload_n 0, 1) := by decide +kernel
theorem dX11_write_50 : decode cX11_write 50 = .ok (.aload_n 0, 1) := by decide +kernel
theorem dX11_write_51 : decode cX11_write 51 = .ok (.getfield 28, 3) := by decide +kernel
theorem dX11_write_54 : decode cX11_write 54 = .ok (.getfield 185, 3) := by decide +kernel
theorem dX11_write_57 : decode cX11_write 57 = .ok (.invokevirtual 188, 3) := by decide +kernel
theorem dX11_write_60 : decode cX11_write 60 = .ok (.aload_n 0, 1) := by decide +kernel
theorem dX11_write_61 : decode cX11_write 61 = .ok (.getfield 19, 3) := by decide +kernel
theorem dX11_write_64 : decode cX11_write 64 = .ok (.getfield 90, 3) := by decide +kernel
theorem dX11_write_67 : decode cX11_write 67 = .ok (.ireturn, 1) := by decide +kernel
theorem dX11_cue_0 : decode cX11_cue 0 = .ok (.iload_n 2, 1) := by decide +kernel
theorem dX11_cue_1 : decode cX11_cue 1 = .ok (.ifCond .lt 8, 3) := by decide +kernel
theorem dX11_cue_4 : decode cX11_cue 4 = .ok (.iload_n 2, 1) := by decide +kernel
theorem dX11_cue_5 : decode cX11_cue 5 = .ok (.iconst 4, 1) := by decide +kernel
theorem dX11_cue_6 : decode cX11_cue 6 = .ok (.if_icmp .le 13, 3) := by decide +kernel
theorem dX11_cue_9 : decode cX11_cue 9 = .ok (.new 192, 3) := by decide +kernel
theorem dX11_cue_12 : decode cX11_cue 12 = .ok (.dup, 1) := by decide +kernel
theorem dX11_cue_13 : decode cX11_cue 13 = .ok (.ldc 194, 2) := by decide +kernel
theorem dX11_cue_15 : decode cX11_cue 15 = .ok (.invokespecial 196, 3) := by decide +kernel
theorem dX11_cue_18 : decode cX11_cue 18 = .ok (.athrow, 1) := by decide +kernel
theorem dX11_cue_19 : decode cX11_cue 19 = .ok (.aload_n 0, 1) := by decide +kernel
theorem dX11_cue_20 : decode cX11_cue 20 = .ok (.getfield 19, 3) := by decide +kernel
theorem dX11_cue_23 : decode cX11_cue 23 = .ok (.iload_n 1, 1) := by decide +kernel
theorem dX11_cue_24 : decode cX11_cue 24 = .ok (.invokevirtual 199, 3) := by decide +kernel
theorem dX11_cue_27 : decode cX11_cue 27 = .ok (.ifCond .ne 13, 3) := by decide +kernel
theorem dX11_cue_30 : decode cX11_cue 30 = .ok (.new 202, 3) := by decide +kernel
theorem dX11_cue_33 : decode cX11_cue 33 = .ok (.dup, 1) := by decide +kernel
theorem dX11_cue_34 : decode cX11_cue 34 = .ok (.ldc 204, 2) := by decide +kernel
theorem dX11_cue_36 : decode cX11_cue 36 = .ok (.invokespecial 206, 3) := by decide +kernel
theorem dX11_cue_39 : decode cX11_cue 39 = .ok (.athrow, 1) := by decide +kernel
theorem dX11_cue_40 : decode cX11_cue 40 = .ok (.iload_n 2, 1) := by decide +kernel
theorem dX11_cue_41 : decode cX11_cue 41 = .ok (.tableswitch 67 0 3 #[31, 40, 49, 58], 31) := by decide +kernel
theorem dX11_cue_72 : decode cX11_cue 72 = .ok (.aload_n 0, 1) := by decide +kernel
theorem dX11_cue_73 : decode cX11_cue 73 = .ok (.getfield 19, 3) := by decide +kernel
theorem dX11_cue_76 : decode cX11_cue 76 = .ok (.iload_n 1, 1) := by decide +kernel
theorem dX11_cue_77 : decode cX11_cue 77 = .ok (.invokevirtual 207, 3) := by decide +kernel
theorem dX11_cue_80 : decode cX11_cue 80 = .ok (.ireturn, 1) := by decide +kernel
theorem dX11_cue_81 : decode cX11_cue 81 = .ok (.aload_n 0, 1) := by decide +kernel
theorem dX11_cue_82 : decode cX11_cue 82 = .ok (.getfield 19, 3) := by decide +kernel
theorem dX11_cue_85 : decode cX11_cue 85 = .ok (.iload_n 1, 1) := by decide +kernel
theorem dX11_cue_86 : decode cX11_cue 86 = .ok (.invokevirtual 210, 3) := by decide +kernel
theorem dX11_cue_89 : decode cX11_cue 89 = .ok (.ireturn, 1) := by decide +kernel
theorem dX11_cue_90 : decode cX11_cue 90 = .ok (.aload_n 0, 1) := by decide +kernel
theorem dX11_cue_91 : decode cX11_cue 91 = .ok (.getfield 19, 3) := by decide +kernel
theorem dX11_cue_94 : decode cX11_cue 94 = .ok (.iload_n 1, 1) := by decide +kernel
theorem dX11_cue_95 : decode cX11_cue 95 = .ok (.invokevirtual 213, 3) := by decide +kernel
theorem dX11_cue_98 : decode cX11_cue 98 = .ok (.ireturn, 1) := by decide +kernel
theorem dX11_cue_99 : decode cX11_cue 99 = .ok (.aload_n 0, 1) := by decide +kernel
theorem dX11_cue_100 : decode cX11_cue 100 = .ok (.getfield 19, 3) := by decide +kernel
theorem dX11_cue_103 : decode cX11_cue 103 = .ok (.iload_n 1, 1) := by decide +kernel
theorem dX11_cue_104 : decode cX11_cue 104 = .ok (.invokevirtual 216, 3) := by decide +kernel
theorem dX11_cue_107 : decode cX11_cue 107 = .ok (.ireturn, 1) := by decide +kernel
theorem dX11_cue_108 : decode cX11_cue 108 = .ok (.aload_n 0, 1) := by decide +kernel
theorem dX11_cue_109 : decode cX11_cue 109 = .ok (.getfield 10, 3) := by decide +kernel
theorem dX11_cue_112 : decode cX11_cue 112 = .ok (.aload_n 0, 1) := by decide +kernel
theorem dX11_cue_113 : decode cX11_cue 113 = .ok (.getfield 19, 3) := by decide +kernel
theorem dX11_cue_116 : decode cX11_cue 116 = .ok (.iload_n 1, 1) := by decide +kernel
theorem dX11_cue_117 : decode cX11_cue 117 = .ok (.invokevirtual 219, 3) := by decide +kernel
theorem dX11_cue_120 : decode cX11_cue 120 = .ok (.ireturn, 1) := by decide +kernel
theorem dX11_stretch_0 : decode cX11_stretch 0 = .ok (.iload_n 1, 1) := by decide +kernel
theorem dX11_stretch_1 : decode cX11_stretch 1 = .ok (.ifCond .lt 32, 3) := by decide +kernel
theorem dX11_stretch_4 : decode cX11_stretch 4 = .ok (.iload_n 1, 1) := by decide +kernel
theorem dX11_stretch_5 : decode cX11_stretch 5 = .ok (.sipush 20000, 3) := by decide +kernel
theorem dX11_stretch_8 : decode cX11_stretch 8 = .ok (.if_icmp .gt 25, 3) := by decide +kernel
theorem dX11_stretch_11 : decode cX11_stretch 11 = .ok (.iload_n 2, 1) := by decide +kernel
theorem dX11_stretch_12 : decode cX11_stretch 12 = .ok (.iconst 1, 1) := by decide +kernel
theorem dX11_stretch_13 : decode cX11_stretch 13 = .ok (.if_icmp .lt 20, 3) := by decide +kernel
theorem dX11_stretch_16 : decode cX11_stretch 16 = .ok (.iload_n 2, 1) := by decide +kernel
theorem dX11_stretch_17 : decode cX11_stretch 17 = .ok (.bipush 100, 2) := by decide +kernel
theorem dX11_stretch_19 : decode cX11_stretch 19 = .ok (.if_icmp .gt 14, 3) := by decide +kernel
theorem dX11_stretch_22 : decode cX11_stretch 22 = .ok (.iload_n 3, 1) := by decide +kernel
theorem dX11_stretch_23 : decode cX11_stretch 23 = .ok (.iconst 1, 1) := by decide +kernel
theorem dX11_stretch_24 : decode cX11_stretch 24 = .ok (.if_icmp .lt 9, 3) := by decide +kernel
theorem dX11_stretch_27 : decode cX11_stretch 27 = .ok (.iload_n 3, 1) := by decide +kernel
theorem dX11_stretch_28 : decode cX11_stretch 28 = .ok (.bipush 100, 2) := by decide +kernel
theorem dX11_stretch_30 : decode cX11_stretch 30 = .ok (.if_icmp .le 5, 3) := by decide +kernel
theorem dX11_stretch_33 : decode cX11_stretch 33 = .ok (.iconst (-1), 1) := by decide +kernel
theorem dX11_stretch_34 : decode cX11_stretch 34 = .ok (.ireturn, 1) := by decide +kernel
theorem dX11_stretch_35 : decode cX11_stretch 35 = .ok (.iconst 0, 1) := by decide +kernel
theorem dX11_stretch_36 : decode cX11_stretch 36 = .ok (.istore 4, 2) := by decide +kernel
theorem dX11_stretch_38 : decode cX11_stretch 38 = .ok (.iconst 0, 1) := by decide +kernel
theorem dX11_stretch_39 : decode cX11_stretch 39 = .ok (.istore 5, 2) := by decide +kernel
theorem dX11_stretch_41 : decode cX11_stretch 41 = .ok (.iload 5, 2) := by decide +kernel
theorem dX11_stretch_43 : decode cX11_stretch 43 = .ok (.aload_n 0, 1) := by decide +kernel
theorem dX11_stretch_44 : decode cX11_stretch 44 = .ok (.getfield 19, 3) := by decide +kernel
theorem dX11_stretch_47 : decode cX11_stretch 47 = .ok (.getfield 90, 3) := by decide +kernel
theorem dX11_stretch_50 : decode cX11_stretch 50 = .ok (.if_icmp .ge 73, 3) := by decide +kernel
theorem dX11_stretch_53 : decode cX11_stretch 53 = .ok (.aload_n 0, 1) := by decide +kernel
theorem dX11_stretch_54 : decode cX11_stretch 54 = .ok (.getfield 19, 3) := by decide +kernel
theorem dX11_stretch_57 : decode cX11_stretch 57 = .ok (.iload 5, 2) := by decide +kernel
theorem dX11_stretch_59 : decode cX11_stretch 59 = .ok (.invokevirtual 207, 3) := by decide +kernel
theorem dX11_stretch_62 : decode cX11_stretch 62 = .ok (.iload_n 1, 1) := by decide +kernel
theorem dX11_stretch_63 : decode cX11_stretch 63 = .ok (.iload_n 2, 1) := by decide +kernel
theorem dX11_stretch_64 : decode cX11_stretch 64 = .ok (.iload_n 3, 1) := by decide +kernel
theorem dX11_stretch_65 : decode cX11_stretch 65 = .ok (.invokestatic 223, 3) := by decide +kernel
theorem dX11_stretch_68 : decode cX11_stretch 68 = .ok (.istore 6, 2) := by decide +kernel
theorem dX11_stretch_70 : decode cX11_stretch 70 = .ok (.iload 6, 2) := by decide +kernel
theorem dX11_stretch_72 : decode cX11_stretch 72 = .ok (.aload_n 0, 1) := by decide +kernel
theorem dX11_stretch_73 : decode cX11_stretch 73 = .ok (.getfield 10, 3) := by decide +kernel
theorem dX11_stretch_76 : decode cX11_stretch 76 = .ok (.getfield 115, 3) := by decide +kernel
theorem dX11_stretch_79 : decode cX11_stretch 79 = .ok (.aload_n 0, 1) := by decide +kernel
theorem dX11_stretch_80 : decode cX11_stretch 80 = .ok (.getfield 19, 3) := by decide +kernel
theorem dX11_stretch_83 : decode cX11_stretch 83 = .ok (.iload 5, 2) := by decide +kernel
theorem dX11_stretch_85 : decode cX11_stretch 85 = .ok (.invokevirtual 210, 3) := by decide +kernel
theorem dX11_stretch_88 : decode cX11_stretch 88 = .ok (.invokevirtual 227, 3) := by decide +kernel
theorem dX11_stretch_91 : decode cX11_stretch 91 = .ok (.if_icmp .ge 6, 3) := by decide +kernel
theorem dX11_stretch_94 : decode cX11_stretch 94 = .ok (.bipush (-5), 2) := by decide +kernel
theorem dX11_stretch_96 : decode cX11_stretch 96 = .ok (.ireturn, 1) := by decide +kernel
theorem dX11_stretch_97 : decode cX11_stretch 97 = .ok (.iload 4, 2) := by decide +kernel
theorem dX11_stretch_99 : decode cX11_stretch 99 = .ok (.ifCond .ne 11, 3) := by decide +kernel
theorem dX11_stretch_102 : decode cX11_stretch 102 = .ok (.iload 6, 2) := by decide +kernel
theorem dX11_stretch_104 : decode cX11_stretch 104 = .ok (.sipush 20000, 3) := by decide +kernel
theorem dX11_stretch_107 : decode cX11_stretch 107 = .ok (.if_icmp .le 7, 3) := by decide +kernel
theorem dX11_stretch_110 : decode cX11_stretch 110 = .ok (.iconst 1, 1) := by decide +kernel
theorem dX11_stretch_111 : decode cX11_stretch 111 = .ok (.goto 4, 3) := by decide +kernel
theorem dX11_stretch_114 : decode cX11_stretch 114 = .ok (.iconst 0, 1) := by decide +kernel
theorem dX11_stretch_115 : decode cX11_stretch 115 = .ok (.istore 4, 2) := by decide +kernel
theorem dX11_stretch_117 : decode cX11_stretch 117 = .ok (.iinc 5 1, 3) := by decide +kernel
theorem dX11_stretch_120 : decode cX11_stretch 120 = .ok (.goto (-79), 3) := by decide +kernel
theorem dX11_stretch_123 : decode cX11_stretch 123 = .ok (.iload 4, 2) := by decide +kernel
theorem dX11_stretch_125 : decode cX11_stretch 125 = .ok (.ifCond .eq 6, 3) := by decide +kernel
theorem dX11_stretch_128 : decode cX11_stretch 128 = .ok (.bipush (-2), 2) := by decide +kernel
theorem dX11_stretch_130 : decode cX11_stretch 130 = .ok (.ireturn, 1) := by decide +kernel
theorem dX11_stretch_131 : decode cX11_stretch 131 = .ok (.iconst 0, 1) := by decide +kernel
theorem dX11_stretch_132 : decode cX11_stretch 132 = .ok (.istore 5, 2) := by decide +kernel
theorem dX11_stretch_134 : decode cX11_stretch 134 = .ok (.iconst 0, 1) := by decide +kernel
theorem dX11_stretch_135 : decode cX11_stretch 135 = .ok (.istore 6, 2) := by decide +kernel
theorem dX11_stretch_137 : decode cX11_stretch 137 = .ok (.iload 6, 2) := by decide +kernel
theorem dX11_stretch_139 : decode cX11_stretch 139 = .ok (.aload_n 0, 1) := by decide +kernel
theorem dX11_stretch_140 : decode cX11_stretch 140 = .ok (.getfield 19, 3) := by decide +kernel
theorem dX11_stretch_143 : decode cX11_stretch 143 = .ok (.getfield 90, 3) := by decide +kernel
theorem dX11_stretch_146 : decode cX11_stretch 146 = .ok (.if_icmp .ge 54, 3) := by decide +kernel
theorem dX11_stretch_149 : decode cX11_stretch 149 = .ok (.aload_n 0, 1) := by decide +kernel
theorem dX11_stretch_150 : decode cX11_stretch 150 = .ok (.getfield 19, 3) := by decide +kernel
theorem dX11_stretch_153 : decode cX11_stretch 153 = .ok (.iload 6, 2) := by decide +kernel
theorem dX11_stretch_155 : decode cX11_stretch 155 = .ok (.invokevirtual 207, 3) := by decide +kernel
theorem dX11_stretch_158 : decode cX11_stretch 158 = .ok (.iload_n 1, 1) := by decide +kernel
theorem dX11_stretch_159 : decode cX11_stretch 159 = .ok (.iload_n 2, 1) := by decide +kernel
theorem dX11_stretch_160 : decode cX11_stretch 160 = .ok (.iload_n 3, 1) := by decide +kernel
theorem dX11_stretch_161 : decode cX11_stretch 161 = .ok (.invokestatic 223, 3) := by decide +kernel
theorem dX11_stretch_164 : decode cX11_stretch 164 = .ok (.istore 7, 2) := by decide +kernel
theorem dX11_stretch_166 : decode cX11_stretch 166 = .ok (.iload 7, 2) := by decide +kernel
theorem dX11_stretch_168 : decode cX11_stretch 168 = .ok (.aload_n 0, 1) := by decide +kernel
theorem dX11_stretch_169 : decode cX11_stretch 169 = .ok (.getfield 19, 3) := by decide +kernel
theorem dX11_stretch_172 : decode cX11_stretch 172 = .ok (.iload 6, 2) := by decide +kernel
theorem dX11_stretch_174 : decode cX11_stretch 174 = .ok (.invokevirtual 207, 3) := by decide +kernel
theorem dX11_stretch_177 : decode cX11_stretch 177 = .ok (.if_icmp .eq 17, 3) := by decide +kernel
theorem dX11_stretch_180 : decode cX11_stretch 180 = .ok (.aload_n 0, 1) := by decide +kernel
theorem dX11_stretch_181 : decode cX11_stretch 181 = .ok (.getfield 19, 3) := by decide +kernel
theorem dX11_stretch_184 : decode cX11_stretch 184 = .ok (.iload 6, 2) := by decide +kernel
theorem dX11_stretch_186 : decode cX11_stretch 186 = .ok (.iload 7, 2) := by decide +kernel
theorem dX11_stretch_188 : decode cX11_stretch 188 = .ok (.invokevirtual 230, 3) := by decide +kernel
theorem dX11_stretch_191 : decode cX11_stretch 191 = .ok (.iinc 5 1, 3) := by decide +kernel
theorem dX11_stretch_194 : decode cX11_stretch 194 = .ok (.iinc 6 1, 3) := by decide +kernel
theorem dX11_stretch_197 : decode cX11_stretch 197 = .ok (.goto (-60), 3) := by decide +kernel
theorem dX11_stretch_200 : decode cX11_stretch 200 = .ok (.iload 5, 2) := by decide +kernel
theorem dX11_stretch_202 : decode cX11_stretch 202 = .ok (.ireturn, 1) := by decide +kernel
theorem dX11_lay_0 : decode cX11_lay 0 = .ok (.iload_n 1, 1) := by decide +kernel
theorem dX11_lay_1 : decode cX11_lay 1 = .ok (.ifCond .lt 8, 3) := by decide +kernel
theorem dX11_lay_4 : decode cX11_lay 4 = .ok (.iload_n 1, 1) := by decide +kernel
theorem dX11_lay_5 : decode cX11_lay 5 = .ok (.iconst 4, 1) := by decide +kernel
theorem dX11_lay_6 : decode cX11_lay 6 = .ok (.if_icmp .le 5, 3) := by decide +kernel
theorem dX11_lay_9 : decode cX11_lay 9 = .ok (.iconst (-1), 1) := by decide +kernel
theorem dX11_lay_10 : decode cX11_lay 10 = .ok (.ireturn, 1) := by decide +kernel
theorem dX11_lay_11 : decode cX11_lay 11 = .ok (.aload_n 0, 1) := by decide +kernel
theorem dX11_lay_12 : decode cX11_lay 12 = .ok (.getfield 19, 3) := by decide +kernel
theorem dX11_lay_15 : decode cX11_lay 15 = .ok (.invokevirtual 234, 3) := by decide +kernel
theorem dX11_lay_18 : decode cX11_lay 18 = .ok (.bipush 8, 2) := by decide +kernel
theorem dX11_lay_20 : decode cX11_lay 20 = .ok (.if_icmp .le 6, 3) := by decide +kernel
theorem dX11_lay_23 : decode cX11_lay 23 = .ok (.bipush (-4), 2) := by decide +kernel
theorem dX11_lay_25 : decode cX11_lay 25 = .ok (.ireturn, 1) := by decide +kernel
theorem dX11_lay_26 : decode cX11_lay 26 = .ok (.aload_n 0, 1) := by decide +kernel
theorem dX11_lay_27 : decode cX11_lay 27 = .ok (.getfield 37, 3) := by decide +kernel
theorem dX11_lay_30 : decode cX11_lay 30 = .ok (.aload_n 0, 1) := by decide +kernel
theorem dX11_lay_31 : decode cX11_lay 31 = .ok (.getfield 80, 3) := by decide +kernel
theorem dX11_lay_34 : decode cX11_lay 34 = .ok (.iload_n 1, 1) := by decide +kernel
theorem dX11_lay_35 : decode cX11_lay 35 = .ok (.invokevirtual 238, 3) := by decide +kernel
theorem dX11_lay_38 : decode cX11_lay 38 = .ok (.aload_n 0, 1) := by decide +kernel
theorem dX11_lay_39 : decode cX11_lay 39 = .ok (.getfield 37, 3) := by decide +kernel
theorem dX11_lay_42 : decode cX11_lay 42 = .ok (.invokevirtual 241, 3) := by decide +kernel
theorem dX11_lay_45 : decode cX11_lay 45 = .ok (.ifCond .ne 6, 3) := by decide +kernel
theorem dX11_lay_48 : decode cX11_lay 48 = .ok (.bipush (-3), 2) := by decide +kernel
theorem dX11_lay_50 : decode cX11_lay 50 = .ok (.ireturn, 1) := by decide +kernel
theorem dX11_lay_51 : decode cX11_lay 51 = .ok (.aload_n 0, 1) := by decide +kernel
theorem dX11_lay_52 : decode cX11_lay 52 = .ok (.getfield 37, 3) := by decide +kernel
theorem dX11_lay_55 : decode cX11_lay 55 = .ok (.invokevirtual 245, 3) := by decide +kernel
theorem dX11_lay_58 : decode cX11_lay 58 = .ok (.aload_n 0, 1) := by decide +kernel
theorem dX11_lay_59 : decode cX11_lay 59 = .ok (.getfield 37, 3) := by decide +kernel
theorem dX11_lay_62 : decode cX11_lay 62 = .ok (.getfield 248, 3) := by decide +kernel
theorem dX11_lay_65 : decode cX11_lay 65 = .ok (.ireturn, 1) := by decide +kernel
theorem dX11_proof_0 : decode cX11_proof 0 = .ok (.aload_n 0, 1) := by decide +kernel
theorem dX11_proof_1 : decode cX11_proof 1 = .ok (.iload_n 1, 1) := by decide +kernel
theorem dX11_proof_2 : decode cX11_proof 2 = .ok (.invokevirtual 171, 3) := by decide +kernel
theorem dX11_proof_5 : decode cX11_proof 5 = .ok (.astore_n 3, 1) := by decide +kernel
theorem dX11_proof_6 : decode cX11_proof 6 = .ok (.aload_n 3, 1) := by decide +kernel
theorem dX11_proof_7 : decode cX11_proof 7 = .ok (.ifnull 12, 3) := by decide +kernel
theorem dX11_proof_10 : decode cX11_proof 10 = .ok (.iload_n 2, 1) := by decide +kernel
theorem dX11_proof_11 : decode cX11_proof 11 = .ok (.ifCond .lt 8, 3) := by decide +kernel
theorem dX11_proof_14 : decode cX11_proof 14 = .ok (.iload_n 2, 1) := by decide +kernel
theorem dX11_proof_15 : decode cX11_proof 15 = .ok (.iconst 4, 1) := by decide +kernel
theorem dX11_proof_16 : decode cX11_proof 16 = .ok (.if_icmp .le 5, 3) := by decide +kernel
theorem dX11_proof_19 : decode cX11_proof 19 = .ok (.iconst (-1), 1) := by decide +kernel
theorem dX11_proof_20 : decode cX11_proof 20 = .ok (.ireturn, 1) := by decide +kernel
theorem dX11_proof_21 : decode cX11_proof 21 = .ok (.aload_n 0, 1) := by decide +kernel
theorem dX11_proof_22 : decode cX11_proof 22 = .ok (.getfield 19, 3) := by decide +kernel
theorem dX11_proof_25 : decode cX11_proof 25 = .ok (.invokevirtual 234, 3) := by decide +kernel
theorem dX11_proof_28 : decode cX11_proof 28 = .ok (.bipush 8, 2) := by decide +kernel
theorem dX11_proof_30 : decode cX11_proof 30 = .ok (.if_icmp .le 6, 3) := by decide +kernel
theorem dX11_proof_33 : decode cX11_proof 33 = .ok (.bipush (-4), 2) := by decide +kernel
theorem dX11_proof_35 : decode cX11_proof 35 = .ok (.ireturn, 1) := by decide +kernel
theorem dX11_proof_36 : decode cX11_proof 36 = .ok (.aload_n 3, 1) := by decide +kernel
theorem dX11_proof_37 : decode cX11_proof 37 = .ok (.iconst 1, 1) := by decide +kernel
theorem dX11_proof_38 : decode cX11_proof 38 = .ok (.invokevirtual 175, 3) := by decide +kernel
theorem dX11_proof_41 : decode cX11_proof 41 = .ok (.istore 4, 2) := by decide +kernel
theorem dX11_proof_43 : decode cX11_proof 43 = .ok (.iload 4, 2) := by decide +kernel
theorem dX11_proof_45 : decode cX11_proof 45 = .ok (.ifCond .eq 10, 3) := by decide +kernel
theorem dX11_proof_48 : decode cX11_proof 48 = .ok (.aload_n 0, 1) := by decide +kernel
theorem dX11_proof_49 : decode cX11_proof 49 = .ok (.iload 4, 2) := by decide +kernel
theorem dX11_proof_51 : decode cX11_proof 51 = .ok (.invokevirtual 178, 3) := by decide +kernel
theorem dX11_proof_54 : decode cX11_proof 54 = .ok (.ireturn, 1) := by decide +kernel
theorem dX11_proof_55 : decode cX11_proof 55 = .ok (.aload_n 0, 1) := by decide +kernel
theorem dX11_proof_56 : decode cX11_proof 56 = .ok (.getfield 37, 3) := by decide +kernel
theorem dX11_proof_59 : decode cX11_proof 59 = .ok (.aload_n 0, 1) := by decide +kernel
theorem dX11_proof_60 : decode cX11_proof 60 = .ok (.getfield 80, 3) := by decide +kernel
theorem dX11_proof_63 : decode cX11_proof 63 = .ok (.iload_n 2, 1) := by decide +kernel
theorem dX11_proof_64 : decode cX11_proof 64 = .ok (.invokevirtual 238, 3) := by decide +kernel
theorem dX11_proof_67 : decode cX11_proof 67 = .ok (.aload_n 0, 1) := by decide +kernel
theorem dX11_proof_68 : decode cX11_proof 68 = .ok (.getfield 37, 3) := by decide +kernel
theorem dX11_proof_71 : decode cX11_proof 71 = .ok (.aload_n 3, 1) := by decide +kernel
theorem dX11_proof_72 : decode cX11_proof 72 = .ok (.invokevirtual 251, 3) := by decide +kernel
theorem dX11_proof_75 : decode cX11_proof 75 = .ok (.istore 5, 2) := by decide +kernel
theorem dX11_proof_77 : decode cX11_proof 77 = .ok (.iload 5, 2) := by decide +kernel
theorem dX11_proof_79 : decode cX11_proof 79 = .ok (.ifCond .lt 9, 3) := by decide +kernel
theorem dX11_proof_82 : decode cX11_proof 82 = .ok (.bipush (-100), 2) := by decide +kernel
theorem dX11_proof_84 : decode cX11_proof 84 = .ok (.iload 5, 2) := by decide +kernel
theorem dX11_proof_86 : decode cX11_proof 86 = .ok (.isub, 1) := by decide +kernel
theorem dX11_proof_87 : decode cX11_proof 87 = .ok (.ireturn, 1) := by decide +kernel
theorem dX11_proof_88 : decode cX11_proof 88 = .ok (.aload_n 3, 1) := by decide +kernel
theorem dX11_proof_89 : decode cX11_proof 89 = .ok (.getfield 254, 3) := by decide +kernel
theorem dX11_proof_92 : decode cX11_proof 92 = .ok (.aload_n 0, 1) := by decide +kernel
theorem dX11_proof_93 : decode cX11_proof 93 = .ok (.getfield 37, 3) := by decide +kernel
theorem dX11_proof_96 : decode cX11_proof 96 = .ok (.getfield 257, 3) := by decide +kernel
theorem dX11_proof_99 : decode cX11_proof 99 = .ok (.if_icmp .ge 10, 3) := by decide +kernel
theorem dX11_proof_102 : decode cX11_proof 102 = .ok (.aload_n 0, 1) := by decide +kernel
theorem dX11_proof_103 : decode cX11_proof 103 = .ok (.bipush (-13), 2) := by decide +kernel
theorem dX11_proof_105 : decode cX11_proof 105 = .ok (.invokevirtual 178, 3) := by decide +kernel
theorem dX11_proof_108 : decode cX11_proof 108 = .ok (.ireturn, 1) := by decide +kernel
theorem dX11_proof_109 : decode cX11_proof 109 = .ok (.aload_n 0, 1) := by decide +kernel
theorem dX11_proof_110 : decode cX11_proof 110 = .ok (.getfield 37, 3) := by decide +kernel
theorem dX11_proof_113 : decode cX11_proof 113 = .ok (.invokevirtual 260, 3) := by decide +kernel
theorem dX11_proof_116 : decode cX11_proof 116 = .ok (.ireturn, 1) := by decide +kernel
theorem dX11_place_0 : decode cX11_place 0 = .ok (.aload_n 0, 1) := by decide +kernel
theorem dX11_place_1 : decode cX11_place 1 = .ok (.getfield 19, 3) := by decide +kernel
theorem dX11_place_4 : decode cX11_place 4 = .ok (.iload_n 1, 1) := by decide +kernel
theorem dX11_place_5 : decode cX11_place 5 = .ok (.invokevirtual 199, 3) := by decide +kernel
theorem dX11_place_8 : decode cX11_place 8 = .ok (.ifCond .eq 19, 3) := by decide +kernel
theorem dX11_place_11 : decode cX11_place 11 = .ok (.iload_n 2, 1) := by decide +kernel
theorem dX11_place_12 : decode cX11_place 12 = .ok (.iconst (-1), 1) := by decide +kernel
theorem dX11_place_13 : decode cX11_place 13 = .ok (.if_icmp .eq 16, 3) := by decide +kernel
theorem dX11_place_16 : decode cX11_place 16 = .ok (.aload_n 0, 1) := by decide +kernel
theorem dX11_place_17 : decode cX11_place 17 = .ok (.getfield 10, 3) := by decide +kernel
theorem dX11_place_20 : decode cX11_place 20 = .ok (.iload_n 2, 1) := by decide +kernel
theorem dX11_place_21 : decode cX11_place 21 = .ok (.invokevirtual 147, 3) := by decide +kernel
theorem dX11_place_24 : decode cX11_place 24 = .ok (.ifCond .ne 5, 3) := by decide +kernel
theorem dX11_place_27 : decode cX11_place 27 = .ok (.iconst (-1), 1) := by decide +kernel
theorem dX11_place_28 : decode cX11_place 28 = .ok (.ireturn, 1) := by decide +kernel
theorem dX11_place_29 : decode cX11_place 29 = .ok (.aload_n 0, 1) := by decide +kernel
theorem dX11_place_30 : decode cX11_place 30 = .ok (.getfield 19, 3) := by decide +kernel
theorem dX11_place_33 : decode cX11_place 33 = .ok (.iload_n 1, 1) := by decide +kernel
theorem dX11_place_34 : decode cX11_place 34 = .ok (.invokevirtual 213, 3) := by decide +kernel
theorem dX11_place_37 : decode cX11_place 37 = .ok (.istore_n 3, 1) := by decide +kernel
theorem dX11_place_38 : decode cX11_place 38 = .ok (.aload_n 0, 1) := by decide +kernel
theorem dX11_place_39 : decode cX11_place 39 = .ok (.getfield 19, 3) := by decide +kernel
theorem dX11_place_42 : decode cX11_place 42 = .ok (.iload_n 1, 1) := by decide +kernel
theorem dX11_place_43 : decode cX11_place 43 = .ok (.iload_n 2, 1) := by decide +kernel
theorem dX11_place_44 : decode cX11_place 44 = .ok (.invokevirtual 263, 3) := by decide +kernel
theorem dX11_place_47 : decode cX11_place 47 = .ok (.iload_n 3, 1) := by decide +kernel
theorem dX11_place_48 : decode cX11_place 48 = .ok (.ireturn, 1) := by decide +kernel
theorem dX11_meter_0 : decode cX11_meter 0 = .ok (.iload_n 1, 1) := by decide +kernel
theorem dX11_meter_1 : decode cX11_meter 1 = .ok (.ifCond .lt 27, 3) := by decide +kernel
theorem dX11_meter_4 : decode cX11_meter 4 = .ok (.iload_n 1, 1) := by decide +kernel
theorem dX11_meter_5 : decode cX11_meter 5 = .ok (.iconst 4, 1) := by decide +kernel
theorem dX11_meter_6 : decode cX11_meter 6 = .ok (.if_icmp .ge 22, 3) := by decide +kernel
theorem dX11_meter_9 : decode cX11_meter 9 = .ok (.iload_n 2, 1) := by decide +kernel
theorem dX11_meter_10 : decode cX11_meter 10 = .ok (.invokestatic 266, 3) := by decide +kernel
theorem dX11_meter_13 : decode cX11_meter 13 = .ok (.ifCond .eq 15, 3) := by decide +kernel
theorem dX11_meter_16 : decode cX11_meter 16 = .ok (.iload_n 3, 1) := by decide +kernel
theorem dX11_meter_17 : decode cX11_meter 17 = .ok (.invokestatic 266, 3) := by decide +kernel
theorem dX11_meter_20 : decode cX11_meter 20 = .ok (.ifCond .eq 8, 3) := by decide +kernel
theorem dX11_meter_23 : decode cX11_meter 23 = .ok (.iload_n 3, 1) := by decide +kernel
theorem dX11_meter_24 : decode cX11_meter 24 = .ok (.iload_n 2, 1) := by decide +kernel
theorem dX11_meter_25 : decode cX11_meter 25 = .ok (.if_icmp .ge 5, 3) := by decide +kernel
theorem dX11_meter_28 : decode cX11_meter 28 = .ok (.iconst (-1), 1) := by decide +kernel
theorem dX11_meter_29 : decode cX11_meter 29 = .ok (.ireturn, 1) := by decide +kernel
theorem dX11_meter_30 : decode cX11_meter 30 = .ok (.aload_n 0, 1) := by decide +kernel
theorem dX11_meter_31 : decode cX11_meter 31 = .ok (.getfield 44, 3) := by decide +kernel
theorem dX11_meter_34 : decode cX11_meter 34 = .ok (.getfield 93, 3) := by decide +kernel
theorem dX11_meter_37 : decode cX11_meter 37 = .ok (.bipush 20, 2) := by decide +kernel
theorem dX11_meter_39 : decode cX11_meter 39 = .ok (.if_icmp .lt 6, 3) := by decide +kernel
theorem dX11_meter_42 : decode cX11_meter 42 = .ok (.bipush (-2), 2) := by decide +kernel
theorem dX11_meter_44 : decode cX11_meter 44 = .ok (.ireturn, 1) := by decide +kernel
theorem dX11_meter_45 : decode cX11_meter 45 = .ok (.aload_n 0, 1) := by decide +kernel
theorem dX11_meter_46 : decode cX11_meter 46 = .ok (.getfield 44, 3) := by decide +kernel
theorem dX11_meter_49 : decode cX11_meter 49 = .ok (.iload_n 1, 1) := by decide +kernel
theorem dX11_meter_50 : decode cX11_meter 50 = .ok (.iload_n 2, 1) := by decide +kernel
theorem dX11_meter_51 : decode cX11_meter 51 = .ok (.iload_n 3, 1) := by decide +kernel
theorem dX11_meter_52 : decode cX11_meter 52 = .ok (.invokevirtual 269, 3) := by decide +kernel
theorem dX11_meter_55 : decode cX11_meter 55 = .ok (.aload_n 0, 1) := by decide +kernel
theorem dX11_meter_56 : decode cX11_meter 56 = .ok (.getfield 44, 3) := by decide +kernel
theorem dX11_meter_59 : decode cX11_meter 59 = .ok (.getfield 93, 3) := by decide +kernel
theorem dX11_meter_62 : decode cX11_meter 62 = .ok (.ireturn, 1) := by decide +kernel
theorem dX11_knows_0 : decode cX11_knows 0 = .ok (.iload_n 1, 1) := by decide +kernel
theorem dX11_knows_1 : decode cX11_knows 1 = .ok (.invokestatic 266, 3) := by decide +kernel
theorem dX11_knows_4 : decode cX11_knows 4 = .ok (.ifCond .eq 14, 3) := by decide +kernel
theorem dX11_knows_7 : decode cX11_knows 7 = .ok (.aload_n 0, 1) := by decide +kernel
theorem dX11_knows_8 : decode cX11_knows 8 = .ok (.getfield 44, 3) := by decide +kernel
theorem dX11_knows_11 : decode cX11_knows 11 = .ok (.iload_n 1, 1) := by decide +kernel
theorem dX11_knows_12 : decode cX11_knows 12 = .ok (.invokevirtual 271, 3) := by decide +kernel
theorem dX11_knows_15 : decode cX11_knows 15 = .ok (.goto 4, 3) := by decide +kernel
theorem dX11_knows_18 : decode cX11_knows 18 = .ok (.iconst (-1), 1) := by decide +kernel
theorem dX11_knows_19 : decode cX11_knows 19 = .ok (.ireturn, 1) := by decide +kernel
theorem dX11_hold_0 : decode cX11_hold 0 = .ok (.aload_n 0, 1) := by decide +kernel
theorem dX11_hold_1 : decode cX11_hold 1 = .ok (.iload_n 1, 1) := by decide +kernel
theorem dX11_hold_2 : decode cX11_hold 2 = .ok (.invokevirtual 171, 3) := by decide +kernel
theorem dX11_hold_5 : decode cX11_hold 5 = .ok (.astore_n 2, 1) := by decide +kernel
theorem dX11_hold_6 : decode cX11_hold 6 = .ok (.aload_n 2, 1) := by decide +kernel
theorem dX11_hold_7 : decode cX11_hold 7 = .ok (.ifnonnull 5, 3) := by decide +kernel
theorem dX11_hold_10 : decode cX11_hold 10 = .ok (.iconst (-1), 1) := by decide +kernel
theorem dX11_hold_11 : decode cX11_hold 11 = .ok (.ireturn, 1) := by decide +kernel
theorem dX11_hold_12 : decode cX11_hold 12 = .ok (.aload_n 2, 1) := by decide +kernel
theorem dX11_hold_13 : decode cX11_hold 13 = .ok (.iconst 1, 1) := by decide +kernel
theorem dX11_hold_14 : decode cX11_hold 14 = .ok (.invokevirtual 175, 3) := by decide +kernel
theorem dX11_hold_17 : decode cX11_hold 17 = .ok (.istore_n 3, 1) := by decide +kernel
theorem dX11_hold_18 : decode cX11_hold 18 = .ok (.iload_n 3, 1) := by decide +kernel
theorem dX11_hold_19 : decode cX11_hold 19 = .ok (.ifCond .eq 9, 3) := by decide +kernel
theorem dX11_hold_22 : decode cX11_hold 22 = .ok (.aload_n 0, 1) := by decide +kernel
theorem dX11_hold_23 : decode cX11_hold 23 = .ok (.iload_n 3, 1) := by decide +kernel
theorem dX11_hold_24 : decode cX11_hold 24 = .ok (.invokevirtual 178, 3) := by decide +kernel
theorem dX11_hold_27 : decode cX11_hold 27 = .ok (.ireturn, 1) := by decide +kernel
theorem dX11_hold_28 : decode cX11_hold 28 = .ok (.aload_n 0, 1) := by decide +kernel
theorem dX11_hold_29 : decode cX11_hold 29 = .ok (.getfield 51, 3) := by decide +kernel
theorem dX11_hold_32 : decode cX11_hold 32 = .ok (.aload_n 2, 1) := by decide +kernel
theorem dX11_hold_33 : decode cX11_hold 33 = .ok (.invokevirtual 274, 3) := by decide +kernel
theorem dX11_hold_36 : decode cX11_hold 36 = .ok (.istore 4, 2) := by decide +kernel
theorem dX11_hold_38 : decode cX11_hold 38 = .ok (.iload 4, 2) := by decide +kernel
theorem dX11_hold_40 : decode cX11_hold 40 = .ok (.ifCond .lt 9, 3) := by decide +kernel
theorem dX11_hold_43 : decode cX11_hold 43 = .ok (.bipush (-100), 2) := by decide +kernel
theorem dX11_hold_45 : decode cX11_hold 45 = .ok (.iload 4, 2) := by decide +kernel
theorem dX11_hold_47 : decode cX11_hold 47 = .ok (.isub, 1) := by decide +kernel
theorem dX11_hold_48 : decode cX11_hold 48 = .ok (.ireturn, 1) := by decide +kernel
theorem dX11_hold_49 : decode cX11_hold 49 = .ok (.aload_n 0, 1) := by decide +kernel
theorem dX11_hold_50 : decode cX11_hold 50 = .ok (.getfield 51, 3) := by decide +kernel
theorem dX11_hold_53 : decode cX11_hold 53 = .ok (.getfield 94, 3) := by decide +kernel
theorem dX11_hold_56 : decode cX11_hold 56 = .ok (.bipush 8, 2) := by decide +kernel
theorem dX11_hold_58 : decode cX11_hold 58 = .ok (.if_icmp .ge 15, 3) := by decide +kernel
theorem dX11_hold_61 : decode cX11_hold 61 = .ok (.aload_n 0, 1) := by decide +kernel
theorem dX11_hold_62 : decode cX11_hold 62 = .ok (.getfield 51, 3) := by decide +kernel
theorem dX11_hold_65 : decode cX11_hold 65 = .ok (.getfield 275, 3) := by decide +kernel
theorem dX11_hold_68 : decode cX11_hold 68 = .ok (.bipush 20, 2) := by decide +kernel
theorem dX11_hold_70 : decode cX11_hold 70 = .ok (.if_icmp .le 6, 3) := by decide +kernel
theorem dX11_hold_73 : decode cX11_hold 73 = .ok (.bipush (-2), 2) := by decide +kernel
theorem dX11_hold_75 : decode cX11_hold 75 = .ok (.ireturn, 1) := by decide +kernel
theorem dX11_hold_76 : decode cX11_hold 76 = .ok (.aload_n 0, 1) := by decide +kernel
theorem dX11_hold_77 : decode cX11_hold 77 = .ok (.getfield 51, 3) := by decide +kernel
theorem dX11_hold_80 : decode cX11_hold 80 = .ok (.aload_n 2, 1) := by decide +kernel
theorem dX11_hold_81 : decode cX11_hold 81 = .ok (.invokevirtual 278, 3) := by decide +kernel
theorem dX11_hold_84 : decode cX11_hold 84 = .ok (.aload_n 0, 1) := by decide +kernel
theorem dX11_hold_85 : decode cX11_hold 85 = .ok (.getfield 51, 3) := by decide +kernel
theorem dX11_hold_88 : decode cX11_hold 88 = .ok (.getfield 94, 3) := by decide +kernel
theorem dX11_hold_91 : decode cX11_hold 91 = .ok (.iconst 1, 1) := by decide +kernel
theorem dX11_hold_92 : decode cX11_hold 92 = .ok (.isub, 1) := by decide +kernel
theorem dX11_hold_93 : decode cX11_hold 93 = .ok (.ireturn, 1) := by decide +kernel
theorem dX11_holdless_0 : decode cX11_holdless 0 = .ok (.aload_n 0, 1) := by decide +kernel
theorem dX11_holdless_1 : decode cX11_holdless 1 = .ok (.getfield 51, 3) := by decide +kernel
theorem dX11_holdless_4 : decode cX11_holdless 4 = .ok (.getfield 94, 3) := by decide +kernel
theorem dX11_holdless_7 : decode cX11_holdless 7 = .ok (.istore_n 1, 1) := by decide +kernel
theorem dX11_holdless_8 : decode cX11_holdless 8 = .ok (.aload_n 0, 1) := by decide +kernel
theorem dX11_holdless_9 : decode cX11_holdless 9 = .ok (.getfield 51, 3) := by decide +kernel
theorem dX11_holdless_12 : decode cX11_holdless 12 = .ok (.iconst 0, 1) := by decide +kernel
theorem dX11_holdless_13 : decode cX11_holdless 13 = .ok (.putfield 94, 3) := by decide +kernel
theorem dX11_holdless_16 : decode cX11_holdless 16 = .ok (.iload_n 1, 1) := by decide +kernel
theorem dX11_holdless_17 : decode cX11_holdless 17 = .ok (.ireturn, 1) := by decide +kernel
theorem dX11_fault_0 : decode cX11_fault 0 = .ok (.aload_n 0, 1) := by decide +kernel
theorem dX11_fault_1 : decode cX11_fault 1 = .ok (.getfield 19, 3) := by decide +kernel
theorem dX11_fault_4 : decode cX11_fault 4 = .ok (.iload_n 1, 1) := by decide +kernel
theorem dX11_fault_5 : decode cX11_fault 5 = .ok (.invokevirtual 199, 3) := by decide +kernel
theorem dX11_fault_8 : decode cX11_fault 8 = .ok (.ifCond .eq 13, 3) := by decide +kernel
theorem dX11_fault_11 : decode cX11_fault 11 = .ok (.iload_n 2, 1) := by decide +kernel
theorem dX11_fault_12 : decode cX11_fault 12 = .ok (.ifCond .lt 9, 3) := by decide +kernel
theorem dX11_fault_15 : decode cX11_fault 15 = .ok (.iload_n 2, 1) := by decide +kernel
theorem dX11_fault_16 : decode cX11_fault 16 = .ok (.bipush 6, 2) := by decide +kernel
theorem dX11_fault_18 : decode cX11_fault 18 = .ok (.if_icmp .le 5, 3) := by decide +kernel
theorem dX11_fault_21 : decode cX11_fault 21 = .ok (.iconst (-1), 1) := by decide +kernel
theorem dX11_fault_22 : decode cX11_fault 22 = .ok (.ireturn, 1) := by decide +kernel
theorem dX11_fault_23 : decode cX11_fault 23 = .ok (.aload_n 0, 1) := by decide +kernel
theorem dX11_fault_24 : decode cX11_fault 24 = .ok (.getfield 60, 3) := by decide +kernel
theorem dX11_fault_27 : decode cX11_fault 27 = .ok (.iload_n 1, 1) := by decide +kernel
theorem dX11_fault_28 : decode cX11_fault 28 = .ok (.invokevirtual 282, 3) := by decide +kernel
theorem dX11_fault_31 : decode cX11_fault 31 = .ok (.istore_n 3, 1) := by decide +kernel
theorem dX11_fault_32 : decode cX11_fault 32 = .ok (.aload_n 0, 1) := by decide +kernel
theorem dX11_fault_33 : decode cX11_fault 33 = .ok (.getfield 60, 3) := by decide +kernel
theorem dX11_fault_36 : decode cX11_fault 36 = .ok (.iload_n 1, 1) := by decide +kernel
theorem dX11_fault_37 : decode cX11_fault 37 = .ok (.iload_n 2, 1) := by decide +kernel
theorem dX11_fault_38 : decode cX11_fault 38 = .ok (.invokevirtual 285, 3) := by decide +kernel
theorem dX11_fault_41 : decode cX11_fault 41 = .ok (.iload_n 3, 1) := by decide +kernel
theorem dX11_fault_42 : decode cX11_fault 42 = .ok (.ireturn, 1) := by decide +kernel
theorem dX11_halt_0 : decode cX11_halt 0 = .ok (.iload_n 1, 1) := by decide +kernel
theorem dX11_halt_1 : decode cX11_halt 1 = .ok (.iconst (-1), 1) := by decide +kernel
theorem dX11_halt_2 : decode cX11_halt 2 = .ok (.if_icmp .eq 12, 3) := by decide +kernel
theorem dX11_halt_5 : decode cX11_halt 5 = .ok (.iload_n 1, 1) := by decide +kernel
theorem dX11_halt_6 : decode cX11_halt 6 = .ok (.invokestatic 266, 3) := by decide +kernel
theorem dX11_halt_9 : decode cX11_halt 9 = .ok (.ifCond .ne 5, 3) := by decide +kernel
theorem dX11_halt_12 : decode cX11_halt 12 = .ok (.iconst (-1), 1) := by decide +kernel
theorem dX11_halt_13 : decode cX11_halt 13 = .ok (.ireturn, 1) := by decide +kernel
theorem dX11_halt_14 : decode cX11_halt 14 = .ok (.aload_n 0, 1) := by decide +kernel
theorem dX11_halt_15 : decode cX11_halt 15 = .ok (.getfield 60, 3) := by decide +kernel
theorem dX11_halt_18 : decode cX11_halt 18 = .ok (.getfield 288, 3) := by decide +kernel
theorem dX11_halt_21 : decode cX11_halt 21 = .ok (.istore_n 2, 1) := by decide +kernel
theorem dX11_halt_22 : decode cX11_halt 22 = .ok (.aload_n 0, 1) := by decide +kernel
theorem dX11_halt_23 : decode cX11_halt 23 = .ok (.getfield 60, 3) := by decide +kernel
theorem dX11_halt_26 : decode cX11_halt 26 = .ok (.iload_n 1, 1) := by decide +kernel
theorem dX11_halt_27 : decode cX11_halt 27 = .ok (.putfield 288, 3) := by decide +kernel
theorem dX11_halt_30 : decode cX11_halt 30 = .ok (.iload_n 2, 1) := by decide +kernel
theorem dX11_halt_31 : decode cX11_halt 31 = .ok (.ireturn, 1) := by decide +kernel
theorem dX11_fate_0 : decode cX11_fate 0 = .ok (.aload_n 0, 1) := by decide +kernel
theorem dX11_fate_1 : decode cX11_fate 1 = .ok (.getfield 19, 3) := by decide +kernel
theorem dX11_fate_4 : decode cX11_fate 4 = .ok (.iload_n 1, 1) := by decide +kernel
theorem dX11_fate_5 : decode cX11_fate 5 = .ok (.invokevirtual 199, 3) := by decide +kernel
theorem dX11_fate_8 : decode cX11_fate 8 = .ok (.ifCond .ne 5, 3) := by decide +kernel
theorem dX11_fate_11 : decode cX11_fate 11 = .ok (.iconst (-1), 1) := by decide +kernel
theorem dX11_fate_12 : decode cX11_fate 12 = .ok (.ireturn, 1) := by decide +kernel
theorem dX11_fate_13 : decode cX11_fate 13 = .ok (.aload_n 0, 1) := by decide +kernel
theorem dX11_fate_14 : decode cX11_fate 14 = .ok (.getfield 60, 3) := by decide +kernel
theorem dX11_fate_17 : decode cX11_fate 17 = .ok (.invokevirtual 291, 3) := by decide +kernel
theorem dX11_fate_20 : decode cX11_fate 20 = .ok (.aload_n 0, 1) := by decide +kernel
theorem dX11_fate_21 : decode cX11_fate 21 = .ok (.getfield 60, 3) := by decide +kernel
theorem dX11_fate_24 : decode cX11_fate 24 = .ok (.iload_n 1, 1) := by decide +kernel
theorem dX11_fate_25 : decode cX11_fate 25 = .ok (.invokevirtual 294, 3) := by decide +kernel
theorem dX11_fate_28 : decode cX11_fate 28 = .ok (.ireturn, 1) := by decide +kernel
theorem dX11_goes_0 : decode cX11_goes 0 = .ok (.aload_n 0, 1) := by decide +kernel
theorem dX11_goes_1 : decode cX11_goes 1 = .ok (.getfield 19, 3) := by decide +kernel
theorem dX11_goes_4 : decode cX11_goes 4 = .ok (.iload_n 1, 1) := by decide +kernel
theorem dX11_goes_5 : decode cX11_goes 5 = .ok (.invokevirtual 199, 3) := by decide +kernel
theorem dX11_goes_8 : decode cX11_goes 8 = .ok (.ifCond .eq 12, 3) := by decide +kernel
theorem dX11_goes_11 : decode cX11_goes 11 = .ok (.iload_n 2, 1) := by decide +kernel
theorem dX11_goes_12 : decode cX11_goes 12 = .ok (.ifCond .lt 8, 3) := by decide +kernel
theorem dX11_goes_15 : decode cX11_goes 15 = .ok (.iload_n 2, 1) := by decide +kernel
theorem dX11_goes_16 : decode cX11_goes 16 = .ok (.iconst 2, 1) := by decide +kernel
theorem dX11_goes_17 : decode cX11_goes 17 = .ok (.if_icmp .le 14, 3) := by decide +kernel
theorem dX11_goes_20 : decode cX11_goes 20 = .ok (.new 192, 3) := by decide +kernel
theorem dX11_goes_23 : decode cX11_goes 23 = .ok (.dup, 1) := by decide +kernel
theorem dX11_goes_24 : decode cX11_goes 24 = .ok (.ldc_w 297, 3) := by decide +kernel
theorem dX11_goes_27 : decode cX11_goes 27 = .ok (.invokespecial 196, 3) := by decide +kernel
theorem dX11_goes_30 : decode cX11_goes 30 = .ok (.athrow, 1) := by decide +kernel
theorem dX11_goes_31 : decode cX11_goes 31 = .ok (.aload_n 0, 1) := by decide +kernel
theorem dX11_goes_32 : decode cX11_goes 32 = .ok (.getfield 60, 3) := by decide +kernel
theorem dX11_goes_35 : decode cX11_goes 35 = .ok (.invokevirtual 291, 3) := by decide +kernel
theorem dX11_goes_38 : decode cX11_goes 38 = .ok (.aload_n 0, 1) := by decide +kernel
theorem dX11_goes_39 : decode cX11_goes 39 = .ok (.getfield 60, 3) := by decide +kernel
theorem dX11_goes_42 : decode cX11_goes 42 = .ok (.iload_n 1, 1) := by decide +kernel
theorem dX11_goes_43 : decode cX11_goes 43 = .ok (.invokevirtual 294, 3) := by decide +kernel
theorem dX11_goes_46 : decode cX11_goes 46 = .ok (.istore_n 3, 1) := by decide +kernel
theorem dX11_goes_47 : decode cX11_goes 47 = .ok (.iload_n 3, 1) := by decide +kernel
theorem dX11_goes_48 : decode cX11_goes 48 = .ok (.ifCond .eq 19, 3) := by decide +kernel
theorem dX11_goes_51 : decode cX11_goes 51 = .ok (.iload_n 3, 1) := by decide +kernel
theorem dX11_goes_52 : decode cX11_goes 52 = .ok (.iconst 1, 1) := by decide +kernel
theorem dX11_goes_53 : decode cX11_goes 53 = .ok (.if_icmp .eq 14, 3) := by decide +kernel
theorem dX11_goes_56 : decode cX11_goes 56 = .ok (.new 202, 3) := by decide +kernel
theorem dX11_goes_59 : decode cX11_goes 59 = .ok (.dup, 1) := by decide +kernel
theorem dX11_goes_60 : decode cX11_goes 60 = .ok (.ldc_w 299, 3) := by decide +kernel
theorem dX11_goes_63 : decode cX11_goes 63 = .ok (.invokespecial 206, 3) := by decide +kernel
theorem dX11_goes_66 : decode cX11_goes 66 = .ok (.athrow, 1) := by decide +kernel
theorem dX11_goes_67 : decode cX11_goes 67 = .ok (.aload_n 0, 1) := by decide +kernel
theorem dX11_goes_68 : decode cX11_goes 68 = .ok (.getfield 60, 3) := by decide +kernel
theorem dX11_goes_71 : decode cX11_goes 71 = .ok (.iload_n 1, 1) := by decide +kernel
theorem dX11_goes_72 : decode cX11_goes 72 = .ok (.invokevirtual 301, 3) := by decide +kernel
theorem dX11_goes_75 : decode cX11_goes 75 = .ok (.istore 4, 2) := by decide +kernel
theorem dX11_goes_77 : decode cX11_goes 77 = .ok (.iload_n 2, 1) := by decide +kernel
theorem dX11_goes_78 : decode cX11_goes 78 = .ok (.lookupswitch 51 #[(0, 26), (1, 29)], 26) := by decide +kernel
theorem dX11_goes_104 : decode cX11_goes 104 = .ok (.iload 4, 2) := by decide +kernel
theorem dX11_goes_106 : decode cX11_goes 106 = .ok (.ireturn, 1) := by decide +kernel
theorem dX11_goes_107 : decode cX11_goes 107 = .ok (.aload_n 0, 1) := by decide +kernel
theorem dX11_goes_108 : decode cX11_goes 108 = .ok (.getfield 19, 3) := by decide +kernel
theorem dX11_goes_111 : decode cX11_goes 111 = .ok (.iload_n 1, 1) := by decide +kernel
theorem dX11_goes_112 : decode cX11_goes 112 = .ok (.invokevirtual 207, 3) := by decide +kernel
theorem dX11_goes_115 : decode cX11_goes 115 = .ok (.aload_n 0, 1) := by decide +kernel
theorem dX11_goes_116 : decode cX11_goes 116 = .ok (.getfield 10, 3) := by decide +kernel
theorem dX11_goes_119 : decode cX11_goes 119 = .ok (.getfield 115, 3) := by decide +kernel
theorem dX11_goes_122 : decode cX11_goes 122 = .ok (.iload 4, 2) := by decide +kernel
theorem dX11_goes_124 : decode cX11_goes 124 = .ok (.invokevirtual 227, 3) := by decide +kernel
theorem dX11_goes_127 : decode cX11_goes 127 = .ok (.isub, 1) := by decide +kernel
theorem dX11_goes_128 : decode cX11_goes 128 = .ok (.ireturn, 1) := by decide +kernel
theorem dX11_goes_129 : decode cX11_goes 129 = .ok (.aload_n 0, 1) := by decide +kernel
theorem dX11_goes_130 : decode cX11_goes 130 = .ok (.getfield 19, 3) := by decide +kernel
theorem dX11_goes_133 : decode cX11_goes 133 = .ok (.iload_n 1, 1) := by decide +kernel
theorem dX11_goes_134 : decode cX11_goes 134 = .ok (.invokevirtual 207, 3) := by decide +kernel
theorem dX11_goes_137 : decode cX11_goes 137 = .ok (.aload_n 0, 1) := by decide +kernel
theorem dX11_goes_138 : decode cX11_goes 138 = .ok (.getfield 60, 3) := by decide +kernel
theorem dX11_goes_141 : decode cX11_goes 141 = .ok (.iload_n 1, 1) := by decide +kernel
theorem dX11_goes_142 : decode cX11_goes 142 = .ok (.invokevirtual 282, 3) := by decide +kernel
theorem dX11_goes_145 : decode cX11_goes 145 = .ok (.iadd, 1) := by decide +kernel
theorem dX11_goes_146 : decode cX11_goes 146 = .ok (.ireturn, 1) := by decide +kernel
theorem dX11_many_0 : decode cX11_many 0 = .ok (.iload_n 1, 1) := by decide +kernel
theorem dX11_many_1 : decode cX11_many 1 = .ok (.ifCond .lt 9, 3) := by decide +kernel
theorem dX11_many_4 : decode cX11_many 4 = .ok (.iload_n 1, 1) := by decide +kernel
theorem dX11_many_5 : decode cX11_many 5 = .ok (.bipush 6, 2) := by decide +kernel
theorem dX11_many_7 : decode cX11_many 7 = .ok (.if_icmp .le 5, 3) := by decide +kernel
theorem dX11_many_10 : decode cX11_many 10 = .ok (.iconst (-1), 1) := by decide +kernel
theorem dX11_many_11 : decode cX11_many 11 = .ok (.ireturn, 1) := by decide +kernel
theorem dX11_many_12 : decode cX11_many 12 = .ok (.aload_n 0, 1) := by decide +kernel
theorem dX11_many_13 : decode cX11_many 13 = .ok (.getfield 60, 3) := by decide +kernel
theorem dX11_many_16 : decode cX11_many 16 = .ok (.invokevirtual 291, 3) := by decide +kernel
theorem dX11_many_19 : decode cX11_many 19 = .ok (.iconst 0, 1) := by decide +kernel
theorem dX11_many_20 : decode cX11_many 20 = .ok (.istore_n 2, 1) := by decide +kernel
theorem dX11_many_21 : decode cX11_many 21 = .ok (.iconst 0, 1) := by decide +kernel
theorem dX11_many_22 : decode cX11_many 22 = .ok (.istore_n 3, 1) := by decide +kernel
theorem dX11_many_23 : decode cX11_many 23 = .ok (.iload_n 3, 1) := by decide +kernel
theorem dX11_many_24 : decode cX11_many 24 = .ok (.aload_n 0, 1) := by decide +kernel
theorem dX11_many_25 : decode cX11_many 25 = .ok (.getfield 19, 3) := by decide +kernel
theorem dX11_many_28 : decode cX11_many 28 = .ok (.getfield 90, 3) := by decide +kernel
theorem dX11_many_31 : decode cX11_many 31 = .ok (.if_icmp .ge 24, 3) := by decide +kernel
theorem dX11_many_34 : decode cX11_many 34 = .ok (.aload_n 0, 1) := by decide +kernel
theorem dX11_many_35 : decode cX11_many 35 = .ok (.getfield 60, 3) := by decide +kernel
theorem dX11_many_38 : decode cX11_many 38 = .ok (.iload_n 3, 1) := by decide +kernel
theorem dX11_many_39 : decode cX11_many 39 = .ok (.invokevirtual 294, 3) := by decide +kernel
theorem dX11_many_42 : decode cX11_many 42 = .ok (.iload_n 1, 1) := by decide +kernel
theorem dX11_many_43 : decode cX11_many 43 = .ok (.if_icmp .ne 6, 3) := by decide +kernel
theorem dX11_many_46 : decode cX11_many 46 = .ok (.iinc 2 1, 3) := by decide +kernel
theorem dX11_many_49 : decode cX11_many 49 = .ok (.iinc 3 1, 3) := by decide +kernel
theorem dX11_many_52 : decode cX11_many 52 = .ok (.goto (-29), 3) := by decide +kernel
theorem dX11_many_55 : decode cX11_many 55 = .ok (.iload_n 2, 1) := by decide +kernel
theorem dX11_many_56 : decode cX11_many 56 = .ok (.ireturn, 1) := by decide +kernel
theorem dX11_order_0 : decode cX11_order 0 = .ok (.aload_n 0, 1) := by decide +kernel
theorem dX11_order_1 : decode cX11_order 1 = .ok (.getfield 19, 3) := by decide +kernel
theorem dX11_order_4 : decode cX11_order 4 = .ok (.iload_n 1, 1) := by decide +kernel
theorem dX11_order_5 : decode cX11_order 5 = .ok (.invokevirtual 199, 3) := by decide +kernel
theorem dX11_order_8 : decode cX11_order 8 = .ok (.ifCond .ne 5, 3) := by decide +kernel
theorem dX11_order_11 : decode cX11_order 11 = .ok (.iconst (-1), 1) := by decide +kernel
theorem dX11_order_12 : decode cX11_order 12 = .ok (.ireturn, 1) := by decide +kernel
theorem dX11_order_13 : decode cX11_order 13 = .ok (.aload_n 0, 1) := by decide +kernel
theorem dX11_order_14 : decode cX11_order 14 = .ok (.getfield 60, 3) := by decide +kernel
theorem dX11_order_17 : decode cX11_order 17 = .ok (.invokevirtual 291, 3) := by decide +kernel
theorem dX11_order_20 : decode cX11_order 20 = .ok (.aload_n 0, 1) := by decide +kernel
theorem dX11_order_21 : decode cX11_order 21 = .ok (.getfield 60, 3) := by decide +kernel
theorem dX11_order_24 : decode cX11_order 24 = .ok (.iload_n 1, 1) := by decide +kernel
theorem dX11_order_25 : decode cX11_order 25 = .ok (.invokevirtual 304, 3) := by decide +kernel
theorem dX11_order_28 : decode cX11_order 28 = .ok (.ireturn, 1) := by decide +kernel
theorem dX11_seen_0 : decode cX11_seen 0 = .ok (.iload_n 1, 1) := by decide +kernel
theorem dX11_seen_1 : decode cX11_seen 1 = .ok (.ifCond .lt 21, 3) := by decide +kernel
theorem dX11_seen_4 : decode cX11_seen 4 = .ok (.iload_n 1, 1) := by decide +kernel
theorem dX11_seen_5 : decode cX11_seen 5 = .ok (.sipush 20010, 3) := by decide +kernel
theorem dX11_seen_8 : decode cX11_seen 8 = .ok (.if_icmp .gt 14, 3) := by decide +kernel
theorem dX11_seen_11 : decode cX11_seen 11 = .ok (.iload_n 2, 1) := by decide +kernel
theorem dX11_seen_12 : decode cX11_seen 12 = .ok (.iconst 1, 1) := by decide +kernel
theorem dX11_seen_13 : decode cX11_seen 13 = .ok (.if_icmp .lt 9, 3) := by decide +kernel
theorem dX11_seen_16 : decode cX11_seen 16 = .ok (.iload_n 2, 1) := by decide +kernel
theorem dX11_seen_17 : decode cX11_seen 17 = .ok (.bipush 9, 2) := by decide +kernel
theorem dX11_seen_19 : decode cX11_seen 19 = .ok (.if_icmp .le 5, 3) := by decide +kernel
theorem dX11_seen_22 : decode cX11_seen 22 = .ok (.iconst (-1), 1) := by decide +kernel
theorem dX11_seen_23 : decode cX11_seen 23 = .ok (.ireturn, 1) := by decide +kernel
theorem dX11_seen_24 : decode cX11_seen 24 = .ok (.aload_n 0, 1) := by decide +kernel
theorem dX11_seen_25 : decode cX11_seen 25 = .ok (.getfield 69, 3) := by decide +kernel
theorem dX11_seen_28 : decode cX11_seen 28 = .ok (.getfield 96, 3) := by decide +kernel
theorem dX11_seen_31 : decode cX11_seen 31 = .ok (.bipush 60, 2) := by decide +kernel
theorem dX11_seen_33 : decode cX11_seen 33 = .ok (.if_icmp .lt 6, 3) := by decide +kernel
theorem dX11_seen_36 : decode cX11_seen 36 = .ok (.bipush (-2), 2) := by decide +kernel
theorem dX11_seen_38 : decode cX11_seen 38 = .ok (.ireturn, 1) := by decide +kernel
theorem dX11_seen_39 : decode cX11_seen 39 = .ok (.aload_n 0, 1) := by decide +kernel
theorem dX11_seen_40 : decode cX11_seen 40 = .ok (.getfield 69, 3) := by decide +kernel
theorem dX11_seen_43 : decode cX11_seen 43 = .ok (.iload_n 1, 1) := by decide +kernel
theorem dX11_seen_44 : decode cX11_seen 44 = .ok (.iload_n 2, 1) := by decide +kernel
theorem dX11_seen_45 : decode cX11_seen 45 = .ok (.invokevirtual 307, 3) := by decide +kernel
theorem dX11_seen_48 : decode cX11_seen 48 = .ok (.aload_n 0, 1) := by decide +kernel
theorem dX11_seen_49 : decode cX11_seen 49 = .ok (.getfield 69, 3) := by decide +kernel
theorem dX11_seen_52 : decode cX11_seen 52 = .ok (.getfield 96, 3) := by decide +kernel
theorem dX11_seen_55 : decode cX11_seen 55 = .ok (.ireturn, 1) := by decide +kernel
theorem dX11_unseen_0 : decode cX11_unseen 0 = .ok (.aload_n 0, 1) := by decide +kernel
theorem dX11_unseen_1 : decode cX11_unseen 1 = .ok (.getfield 69, 3) := by decide +kernel
theorem dX11_unseen_4 : decode cX11_unseen 4 = .ok (.getfield 96, 3) := by decide +kernel
theorem dX11_unseen_7 : decode cX11_unseen 7 = .ok (.istore_n 1, 1) := by decide +kernel
theorem dX11_unseen_8 : decode cX11_unseen 8 = .ok (.aload_n 0, 1) := by decide +kernel
theorem dX11_unseen_9 : decode cX11_unseen 9 = .ok (.getfield 69, 3) := by decide +kernel
theorem dX11_unseen_12 : decode cX11_unseen 12 = .ok (.iconst 0, 1) := by decide +kernel
theorem dX11_unseen_13 : decode cX11_unseen 13 = .ok (.putfield 96, 3) := by decide +kernel
theorem dX11_unseen_16 : decode cX11_unseen 16 = .ok (.iload_n 1, 1) := by decide +kernel
theorem dX11_unseen_17 : decode cX11_unseen 17 = .ok (.ireturn, 1) := by decide +kernel
theorem dX11_duds_0 : decode cX11_duds 0 = .ok (.aload_n 0, 1) := by decide +kernel
theorem dX11_duds_1 : decode cX11_duds 1 = .ok (.getfield 60, 3) := by decide +kernel
theorem dX11_duds_4 : decode cX11_duds 4 = .ok (.invokevirtual 291, 3) := by decide +kernel
theorem dX11_duds_7 : decode cX11_duds 7 = .ok (.aload_n 0, 1) := by decide +kernel
theorem dX11_duds_8 : decode cX11_duds 8 = .ok (.getfield 69, 3) := by decide +kernel
theorem dX11_duds_11 : decode cX11_duds 11 = .ok (.invokevirtual 309, 3) := by decide +kernel
theorem dX11_duds_14 : decode cX11_duds 14 = .ok (.aload_n 0, 1) := by decide +kernel
theorem dX11_duds_15 : decode cX11_duds 15 = .ok (.getfield 69, 3) := by decide +kernel
theorem dX11_duds_18 : decode cX11_duds 18 = .ok (.iconst (-1), 1) := by decide +kernel
theorem dX11_duds_19 : decode cX11_duds 19 = .ok (.invokevirtual 312, 3) := by decide +kernel
theorem dX11_duds_22 : decode cX11_duds 22 = .ok (.isub, 1) := by decide +kernel
theorem dX11_duds_23 : decode cX11_duds 23 = .ok (.ireturn, 1) := by decide +kernel
theorem dX11_dud_0 : decode cX11_dud 0 = .ok (.aload_n 0, 1) := by decide +kernel
theorem dX11_dud_1 : decode cX11_dud 1 = .ok (.getfield 19, 3) := by decide +kernel
theorem dX11_dud_4 : decode cX11_dud 4 = .ok (.iload_n 1, 1) := by decide +kernel
theorem dX11_dud_5 : decode cX11_dud 5 = .ok (.invokevirtual 199, 3) := by decide +kernel
theorem dX11_dud_8 : decode cX11_dud 8 = .ok (.ifCond .ne 5, 3) := by decide +kernel
theorem dX11_dud_11 : decode cX11_dud 11 = .ok (.iconst (-1), 1) := by decide +kernel
theorem dX11_dud_12 : decode cX11_dud 12 = .ok (.ireturn, 1) := by decide +kernel
theorem dX11_dud_13 : decode cX11_dud 13 = .ok (.aload_n 0, 1) := by decide +kernel
theorem dX11_dud_14 : decode cX11_dud 14 = .ok (.getfield 60, 3) := by decide +kernel
theorem dX11_dud_17 : decode cX11_dud 17 = .ok (.invokevirtual 291, 3) := by decide +kernel
theorem dX11_dud_20 : decode cX11_dud 20 = .ok (.aload_n 0, 1) := by decide +kernel
theorem dX11_dud_21 : decode cX11_dud 21 = .ok (.getfield 60, 3) := by decide +kernel
theorem dX11_dud_24 : decode cX11_dud 24 = .ok (.iload_n 1, 1) := by decide +kernel
theorem dX11_dud_25 : decode cX11_dud 25 = .ok (.invokevirtual 315, 3) := by decide +kernel
theorem dX11_dud_28 : decode cX11_dud 28 = .ok (.ifCond .ne 6, 3) := by decide +kernel
theorem dX11_dud_31 : decode cX11_dud 31 = .ok (.bipush (-2), 2) := by decide +kernel
theorem dX11_dud_33 : decode cX11_dud 33 = .ok (.ireturn, 1) := by decide +kernel
theorem dX11_dud_34 : decode cX11_dud 34 = .ok (.aload_n 0, 1) := by decide +kernel
theorem dX11_dud_35 : decode cX11_dud 35 = .ok (.getfield 69, 3) := by decide +kernel
theorem dX11_dud_38 : decode cX11_dud 38 = .ok (.iload_n 1, 1) := by decide +kernel
theorem dX11_dud_39 : decode cX11_dud 39 = .ok (.invokevirtual 318, 3) := by decide +kernel
theorem dX11_dud_42 : decode cX11_dud 42 = .ok (.ifCond .ne 5, 3) := by decide +kernel
theorem dX11_dud_45 : decode cX11_dud 45 = .ok (.iconst 2, 1) := by decide +kernel
theorem dX11_dud_46 : decode cX11_dud 46 = .ok (.ireturn, 1) := by decide +kernel
theorem dX11_dud_47 : decode cX11_dud 47 = .ok (.aload_n 0, 1) := by decide +kernel
theorem dX11_dud_48 : decode cX11_dud 48 = .ok (.getfield 69, 3) := by decide +kernel
theorem dX11_dud_51 : decode cX11_dud 51 = .ok (.iload_n 1, 1) := by decide +kernel
theorem dX11_dud_52 : decode cX11_dud 52 = .ok (.invokevirtual 312, 3) := by decide +kernel
theorem dX11_dud_55 : decode cX11_dud 55 = .ok (.aload_n 0, 1) := by decide +kernel
theorem dX11_dud_56 : decode cX11_dud 56 = .ok (.getfield 69, 3) := by decide +kernel
theorem dX11_dud_59 : decode cX11_dud 59 = .ok (.iconst (-1), 1) := by decide +kernel
theorem dX11_dud_60 : decode cX11_dud 60 = .ok (.invokevirtual 312, 3) := by decide +kernel
theorem dX11_dud_63 : decode cX11_dud 63 = .ok (.if_icmp .ge 7, 3) := by decide +kernel
theorem dX11_dud_66 : decode cX11_dud 66 = .ok (.iconst 0, 1) := by decide +kernel
theorem dX11_dud_67 : decode cX11_dud 67 = .ok (.goto 4, 3) := by decide +kernel
theorem dX11_dud_70 : decode cX11_dud 70 = .ok (.iconst 1, 1) := by decide +kernel
theorem dX11_dud_71 : decode cX11_dud 71 = .ok (.ireturn, 1) := by decide +kernel
theorem dX11_strange_0 : decode cX11_strange 0 = .ok (.aload_n 0, 1) := by decide +kernel
theorem dX11_strange_1 : decode cX11_strange 1 = .ok (.getfield 60, 3) := by decide +kernel
theorem dX11_strange_4 : decode cX11_strange 4 = .ok (.invokevirtual 291, 3) := by decide +kernel
theorem dX11_strange_7 : decode cX11_strange 7 = .ok (.aload_n 0, 1) := by decide +kernel
theorem dX11_strange_8 : decode cX11_strange 8 = .ok (.getfield 69, 3) := by decide +kernel
theorem dX11_strange_11 : decode cX11_strange 11 = .ok (.getfield 96, 3) := by decide +kernel
theorem dX11_strange_14 : decode cX11_strange 14 = .ok (.aload_n 0, 1) := by decide +kernel
theorem dX11_strange_15 : decode cX11_strange 15 = .ok (.getfield 69, 3) := by decide +kernel
theorem dX11_strange_18 : decode cX11_strange 18 = .ok (.iconst (-1), 1) := by decide +kernel
theorem dX11_strange_19 : decode cX11_strange 19 = .ok (.invokevirtual 312, 3) := by decide +kernel
theorem dX11_strange_22 : decode cX11_strange 22 = .ok (.isub, 1) := by decide +kernel
theorem dX11_strange_23 : decode cX11_strange 23 = .ok (.ireturn, 1) := by decide +kernel
theorem dX11_tape_0 : decode cX11_tape 0 = .ok (.aload_n 0, 1) := by decide +kernel
theorem dX11_tape_1 : decode cX11_tape 1 = .ok (.iload_n 1, 1) := by decide +kernel
theorem dX11_tape_2 : decode cX11_tape 2 = .ok (.invokevirtual 171, 3) := by decide +kernel
theorem dX11_tape_5 : decode cX11_tape 5 = .ok (.astore 4, 2) := by decide +kernel
theorem dX11_tape_7 : decode cX11_tape 7 = .ok (.aload 4, 2) := by decide +kernel
theorem dX11_tape_9 : decode cX11_tape 9 = .ok (.ifnull 19, 3) := by decide +kernel
theorem dX11_tape_12 : decode cX11_tape 12 = .ok (.iload_n 2, 1) := by decide +kernel
theorem dX11_tape_13 : decode cX11_tape 13 = .ok (.iconst 1, 1) := by decide +kernel
theorem dX11_tape_14 : decode cX11_tape 14 = .ok (.if_icmp .lt 14, 3) := by decide +kernel
theorem dX11_tape_17 : decode cX11_tape 17 = .ok (.iload_n 2, 1) := by decide +kernel
theorem dX11_tape_18 : decode cX11_tape 18 = .ok (.iconst 4, 1) := by decide +kernel
theorem dX11_tape_19 : decode cX11_tape 19 = .ok (.if_icmp .gt 9, 3) := by decide +kernel
theorem dX11_tape_22 : decode cX11_tape 22 = .ok (.iload_n 3, 1) := by decide +kernel
theorem dX11_tape_23 : decode cX11_tape 23 = .ok (.bipush 100, 2) := by decide +kernel
theorem dX11_tape_25 : decode cX11_tape 25 = .ok (.if_icmp .le 5, 3) := by decide +kernel
theorem dX11_tape_28 : decode cX11_tape 28 = .ok (.iconst (-1), 1) := by decide +kernel
theorem dX11_tape_29 : decode cX11_tape 29 = .ok (.ireturn, 1) := by decide +kernel
theorem dX11_tape_30 : decode cX11_tape 30 = .ok (.iload_n 3, 1) := by decide +kernel
theorem dX11_tape_31 : decode cX11_tape 31 = .ok (.ifCond .ge 10, 3) := by decide +kernel
theorem dX11_tape_34 : decode cX11_tape 34 = .ok (.aload_n 0, 1) := by decide +kernel
theorem dX11_tape_35 : decode cX11_tape 35 = .ok (.bipush (-14), 2) := by decide +kernel
theorem dX11_tape_37 : decode cX11_tape 37 = .ok (.invokevirtual 178, 3) := by decide +kernel
theorem dX11_tape_40 : decode cX11_tape 40 = .ok (.ireturn, 1) := by decide +kernel
theorem dX11_tape_41 : decode cX11_tape 41 = .ok (.aload 4, 2) := by decide +kernel
theorem dX11_tape_43 : decode cX11_tape 43 = .ok (.iload_n 2, 1) := by decide +kernel
theorem dX11_tape_44 : decode cX11_tape 44 = .ok (.iload_n 3, 1) := by decide +kernel
theorem dX11_tape_45 : decode cX11_tape 45 = .ok (.invokevirtual 321, 3) := by decide +kernel
theorem dX11_tape_48 : decode cX11_tape 48 = .ok (.iload_n 3, 1) := by decide +kernel
theorem dX11_tape_49 : decode cX11_tape 49 = .ok (.ireturn, 1) := by decide +kernel
theorem dX11_keep_0 : decode cX11_keep 0 = .ok (.aload_n 0, 1) := by decide +kernel
theorem dX11_keep_1 : decode cX11_keep 1 = .ok (.iload_n 1, 1) := by decide +kernel
theorem dX11_keep_2 : decode cX11_keep 2 = .ok (.invokevirtual 171, 3) := by decide +kernel
theorem dX11_keep_5 : decode cX11_keep 5 = .ok (.astore_n 2, 1) := by decide +kernel
theorem dX11_keep_6 : decode cX11_keep 6 = .ok (.aload_n 2, 1) := by decide +kernel
theorem dX11_keep_7 : decode cX11_keep 7 = .ok (.ifnonnull 5, 3) := by decide +kernel
theorem dX11_keep_10 : decode cX11_keep 10 = .ok (.iconst (-1), 1) := by decide +kernel
theorem dX11_keep_11 : decode cX11_keep 11 = .ok (.ireturn, 1) := by decide +kernel
theorem dX11_keep_12 : decode cX11_keep 12 = .ok (.aload_n 2, 1) := by decide +kernel
theorem dX11_keep_13 : decode cX11_keep 13 = .ok (.aload_n 0, 1) := by decide +kernel
theorem dX11_keep_14 : decode cX11_keep 14 = .ok (.getfield 19, 3) := by decide +kernel
theorem dX11_keep_17 : decode cX11_keep 17 = .ok (.invokevirtual 324, 3) := by decide +kernel
theorem dX11_keep_20 : decode cX11_keep 20 = .ok (.aload_n 0, 1) := by decide +kernel
theorem dX11_keep_21 : decode cX11_keep 21 = .ok (.getfield 19, 3) := by decide +kernel
theorem dX11_keep_24 : decode cX11_keep 24 = .ok (.getfield 90, 3) := by decide +kernel
theorem dX11_keep_27 : decode cX11_keep 27 = .ok (.ireturn, 1) := by decide +kernel
theorem dX11_back_0 : decode cX11_back 0 = .ok (.aload_n 0, 1) := by decide +kernel
theorem dX11_back_1 : decode cX11_back 1 = .ok (.iload_n 1, 1) := by decide +kernel
theorem dX11_back_2 : decode cX11_back 2 = .ok (.invokevirtual 171, 3) := by decide +kernel
theorem dX11_back_5 : decode cX11_back 5 = .ok (.astore_n 2, 1) := by decide +kernel
theorem dX11_back_6 : decode cX11_back 6 = .ok (.aload_n 2, 1) := by decide +kernel
theorem dX11_back_7 : decode cX11_back 7 = .ok (.ifnonnull 5, 3) := by decide +kernel
theorem dX11_back_10 : decode cX11_back 10 = .ok (.iconst (-1), 1) := by decide +kernel
theorem dX11_back_11 : decode cX11_back 11 = .ok (.ireturn, 1) := by decide +kernel
theorem dX11_back_12 : decode cX11_back 12 = .ok (.aload_n 2, 1) := by decide +kernel
theorem dX11_back_13 : decode cX11_back 13 = .ok (.iconst 5, 1) := by decide +kernel
theorem dX11_back_14 : decode cX11_back 14 = .ok (.invokevirtual 175, 3) := by decide +kernel
theorem dX11_back_17 : decode cX11_back 17 = .ok (.istore_n 3, 1) := by decide +kernel
theorem dX11_back_18 : decode cX11_back 18 = .ok (.iload_n 3, 1) := by decide +kernel
theorem dX11_back_19 : decode cX11_back 19 = .ok (.ifCond .eq 9, 3) := by decide +kernel
theorem dX11_back_22 : decode cX11_back 22 = .ok (.aload_n 0, 1) := by decide +kernel
theorem dX11_back_23 : decode cX11_back 23 = .ok (.iload_n 3, 1) := by decide +kernel
theorem dX11_back_24 : decode cX11_back 24 = .ok (.invokevirtual 178, 3) := by decide +kernel
theorem dX11_back_27 : decode cX11_back 27 = .ok (.ireturn, 1) := by decide +kernel
theorem dX11_back_28 : decode cX11_back 28 = .ok (.aload_n 0, 1) := by decide +kernel
theorem dX11_back_29 : decode cX11_back 29 = .ok (.getfield 10, 3) := by decide +kernel
theorem dX11_back_32 : decode cX11_back 32 = .ok (.aload_n 2, 1) := by decide +kernel
theorem dX11_back_33 : decode cX11_back 33 = .ok (.getfield 327, 3) := by decide +kernel
theorem dX11_back_36 : decode cX11_back 36 = .ok (.invokevirtual 330, 3) := by decide +kernel
theorem dX11_back_39 : decode cX11_back 39 = .ok (.ifCond .ne 6, 3) := by decide +kernel
theorem dX11_back_42 : decode cX11_back 42 = .ok (.bipush (-3), 2) := by decide +kernel
theorem dX11_back_44 : decode cX11_back 44 = .ok (.ireturn, 1) := by decide +kernel
theorem dX11_back_45 : decode cX11_back 45 = .ok (.iconst 0, 1) := by decide +kernel
theorem dX11_back_46 : decode cX11_back 46 = .ok (.istore 4, 2) := by decide +kernel
theorem dX11_back_48 : decode cX11_back 48 = .ok (.iload 4, 2) := by decide +kernel
theorem dX11_back_50 : decode cX11_back 50 = .ok (.aload_n 2, 1) := by decide +kernel
theorem dX11_back_51 : decode cX11_back 51 = .ok (.getfield 327, 3) := by decide +kernel
theorem dX11_back_54 : decode cX11_back 54 = .ok (.getfield 90, 3) := by decide +kernel
theorem dX11_back_57 : decode cX11_back 57 = .ok (.if_icmp .ge 28, 3) := by decide +kernel
theorem dX11_back_60 : decode cX11_back 60 = .ok (.aload_n 0, 1) := by decide +kernel
theorem dX11_back_61 : decode cX11_back 61 = .ok (.getfield 10, 3) := by decide +kernel
theorem dX11_back_64 : decode cX11_back 64 = .ok (.aload_n 2, 1) := by decide +kernel
theorem dX11_back_65 : decode cX11_back 65 = .ok (.getfield 327, 3) := by decide +kernel
theorem dX11_back_68 : decode cX11_back 68 = .ok (.iload 4, 2) := by decide +kernel
theorem dX11_back_70 : decode cX11_back 70 = .ok (.invokevirtual 219, 3) := by decide +kernel
theorem dX11_back_73 : decode cX11_back 73 = .ok (.ifCond .ge 6, 3) := by decide +kernel
theorem dX11_back_76 : decode cX11_back 76 = .ok (.bipush (-5), 2) := by decide +kernel
theorem dX11_back_78 : decode cX11_back 78 = .ok (.ireturn, 1) := by decide +kernel
theorem dX11_back_79 : decode cX11_back 79 = .ok (.iinc 4 1, 3) := by decide +kernel
theorem dX11_back_82 : decode cX11_back 82 = .ok (.goto (-34), 3) := by decide +kernel
theorem dX11_back_85 : decode cX11_back 85 = .ok (.aload_n 0, 1) := by decide +kernel
theorem dX11_back_86 : decode cX11_back 86 = .ok (.aload_n 2, 1) := by decide +kernel
theorem dX11_back_87 : decode cX11_back 87 = .ok (.getfield 327, 3) := by decide +kernel
theorem dX11_back_90 : decode cX11_back 90 = .ok (.invokevirtual 188, 3) := by decide +kernel
theorem dX11_back_93 : decode cX11_back 93 = .ok (.aload_n 0, 1) := by decide +kernel
theorem dX11_back_94 : decode cX11_back 94 = .ok (.getfield 19, 3) := by decide +kernel
theorem dX11_back_97 : decode cX11_back 97 = .ok (.getfield 90, 3) := by decide +kernel
theorem dX11_back_100 : decode cX11_back 100 = .ok (.ireturn, 1) := by decide +kernel
theorem dX11_toss_0 : decode cX11_toss 0 = .ok (.aload_n 0, 1) := by decide +kernel
theorem dX11_toss_1 : decode cX11_toss 1 = .ok (.iload_n 1, 1) := by decide +kernel
theorem dX11_toss_2 : decode cX11_toss 2 = .ok (.invokevirtual 171, 3) := by decide +kernel
theorem dX11_toss_5 : decode cX11_toss 5 = .ok (.astore_n 2, 1) := by decide +kernel
theorem dX11_toss_6 : decode cX11_toss 6 = .ok (.aload_n 2, 1) := by decide +kernel
theorem dX11_toss_7 : decode cX11_toss 7 = .ok (.ifnonnull 5, 3) := by decide +kernel
theorem dX11_toss_10 : decode cX11_toss 10 = .ok (.iconst (-1), 1) := by decide +kernel
theorem dX11_toss_11 : decode cX11_toss 11 = .ok (.ireturn, 1) := by decide +kernel
theorem dX11_toss_12 : decode cX11_toss 12 = .ok (.aload_n 2, 1) := by decide +kernel
theorem dX11_toss_13 : decode cX11_toss 13 = .ok (.iconst 5, 1) := by decide +kernel
theorem dX11_toss_14 : decode cX11_toss 14 = .ok (.invokevirtual 175, 3) := by decide +kernel
theorem dX11_toss_17 : decode cX11_toss 17 = .ok (.istore_n 3, 1) := by decide +kernel
theorem dX11_toss_18 : decode cX11_toss 18 = .ok (.iload_n 3, 1) := by decide +kernel
theorem dX11_toss_19 : decode cX11_toss 19 = .ok (.ifCond .eq 9, 3) := by decide +kernel
theorem dX11_toss_22 : decode cX11_toss 22 = .ok (.aload_n 0, 1) := by decide +kernel
theorem dX11_toss_23 : decode cX11_toss 23 = .ok (.iload_n 3, 1) := by decide +kernel
theorem dX11_toss_24 : decode cX11_toss 24 = .ok (.invokevirtual 178, 3) := by decide +kernel
theorem dX11_toss_27 : decode cX11_toss 27 = .ok (.ireturn, 1) := by decide +kernel
theorem dX11_toss_28 : decode cX11_toss 28 = .ok (.aload_n 2, 1) := by decide +kernel
theorem dX11_toss_29 : decode cX11_toss 29 = .ok (.invokevirtual 334, 3) := by decide +kernel
theorem dX11_toss_32 : decode cX11_toss 32 = .ok (.goto 13, 3) := by decide +kernel
theorem dX11_toss_35 : decode cX11_toss 35 = .ok (.astore 4, 2) := by decide +kernel
theorem dX11_toss_37 : decode cX11_toss 37 = .ok (.aload_n 2, 1) := by decide +kernel
theorem dX11_toss_38 : decode cX11_toss 38 = .ok (.getfield 327, 3) := by decide +kernel
theorem dX11_toss_41 : decode cX11_toss 41 = .ok (.invokevirtual 234, 3) := by decide +kernel
theorem dX11_toss_44 : decode cX11_toss 44 = .ok (.ireturn, 1) := by decide +kernel
theorem dX11_toss_45 : decode cX11_toss 45 = .ok (.aload_n 0, 1) := by decide +kernel
theorem dX11_toss_46 : decode cX11_toss 46 = .ok (.bipush (-15), 2) := by decide +kernel
theorem dX11_toss_48 : decode cX11_toss 48 = .ok (.invokevirtual 178, 3) := by decide +kernel
theorem dX11_toss_51 : decode cX11_toss 51 = .ok (.ireturn, 1) := by decide +kernel
theorem dX11_clear_0 : decode cX11_clear 0 = .ok (.aload_n 0, 1) := by decide +kernel
theorem dX11_clear_1 : decode cX11_clear 1 = .ok (.iload_n 1, 1) := by decide +kernel
theorem dX11_clear_2 : decode cX11_clear 2 = .ok (.invokevirtual 171, 3) := by decide +kernel
theorem dX11_clear_5 : decode cX11_clear 5 = .ok (.astore_n 2, 1) := by decide +kernel
theorem dX11_clear_6 : decode cX11_clear 6 = .ok (.aload_n 2, 1) := by decide +kernel
theorem dX11_clear_7 : decode cX11_clear 7 = .ok (.ifnonnull 5, 3) := by decide +kernel
theorem dX11_clear_10 : decode cX11_clear 10 = .ok (.iconst (-1), 1) := by decide +kernel
theorem dX11_clear_11 : decode cX11_clear 11 = .ok (.ireturn, 1) := by decide +kernel
theorem dX11_clear_12 : decode cX11_clear 12 = .ok (.aload_n 2, 1) := by decide +kernel
theorem dX11_clear_13 : decode cX11_clear 13 = .ok (.getfield 337, 3) := by decide +kernel
theorem dX11_clear_16 : decode cX11_clear 16 = .ok (.istore_n 3, 1) := by decide +kernel
theorem dX11_clear_17 : decode cX11_clear 17 = .ok (.aload_n 2, 1) := by decide +kernel
theorem dX11_clear_18 : decode cX11_clear 18 = .ok (.iconst 0, 1) := by decide +kernel
theorem dX11_clear_19 : decode cX11_clear 19 = .ok (.putfield 337, 3) := by decide +kernel
theorem dX11_clear_22 : decode cX11_clear 22 = .ok (.iload_n 3, 1) := by decide +kernel
theorem dX11_clear_23 : decode cX11_clear 23 = .ok (.ireturn, 1) := by decide +kernel
theorem dX11_put_0 : decode cX11_put 0 = .ok (.aload_n 0, 1) := by decide +kernel
theorem dX11_put_1 : decode cX11_put 1 = .ok (.iload_n 1, 1) := by decide +kernel
theorem dX11_put_2 : decode cX11_put 2 = .ok (.invokevirtual 171, 3) := by decide +kernel
theorem dX11_put_5 : decode cX11_put 5 = .ok (.astore 5, 2) := by decide +kernel
theorem dX11_put_7 : decode cX11_put 7 = .ok (.aload 5, 2) := by decide +kernel
theorem dX11_put_9 : decode cX11_put 9 = .ok (.ifnonnull 5, 3) := by decide +kernel
theorem dX11_put_12 : decode cX11_put 12 = .ok (.iconst (-1), 1) := by decide +kernel
theorem dX11_put_13 : decode cX11_put 13 = .ok (.ireturn, 1) := by decide +kernel
theorem dX11_put_14 : decode cX11_put 14 = .ok (.aload 5, 2) := by decide +kernel
theorem dX11_put_16 : decode cX11_put 16 = .ok (.getfield 337, 3) := by decide +kernel
theorem dX11_put_19 : decode cX11_put 19 = .ok (.ifCond .ne 10, 3) := by decide +kernel
theorem dX11_put_22 : decode cX11_put 22 = .ok (.aload_n 0, 1) := by decide +kernel
theorem dX11_put_23 : decode cX11_put 23 = .ok (.bipush (-11), 2) := by decide +kernel
theorem dX11_put_25 : decode cX11_put 25 = .ok (.invokevirtual 178, 3) := by decide +kernel
theorem dX11_put_28 : decode cX11_put 28 = .ok (.ireturn, 1) := by decide +kernel
theorem dX11_put_29 : decode cX11_put 29 = .ok (.aload 5, 2) := by decide +kernel
theorem dX11_put_31 : decode cX11_put 31 = .ok (.invokevirtual 340, 3) := by decide +kernel
theorem dX11_put_34 : decode cX11_put 34 = .ok (.ifCond .ne 10, 3) := by decide +kernel
theorem dX11_put_37 : decode cX11_put 37 = .ok (.aload_n 0, 1) := by decide +kernel
theorem dX11_put_38 : decode cX11_put 38 = .ok (.bipush (-12), 2) := by decide +kernel
theorem dX11_put_40 : decode cX11_put 40 = .ok (.invokevirtual 178, 3) := by decide +kernel
theorem dX11_put_43 : decode cX11_put 43 = .ok (.ireturn, 1) := by decide +kernel
theorem dX11_put_44 : decode cX11_put 44 = .ok (.aload 5, 2) := by decide +kernel
theorem dX11_put_46 : decode cX11_put 46 = .ok (.iload_n 2, 1) := by decide +kernel
theorem dX11_put_47 : decode cX11_put 47 = .ok (.invokevirtual 343, 3) := by decide +kernel
theorem dX11_put_50 : decode cX11_put 50 = .ok (.ifCond .ne 10, 3) := by decide +kernel
theorem dX11_put_53 : decode cX11_put 53 = .ok (.aload_n 0, 1) := by decide +kernel
theorem dX11_put_54 : decode cX11_put 54 = .ok (.bipush (-13), 2) := by decide +kernel
theorem dX11_put_56 : decode cX11_put 56 = .ok (.invokevirtual 178, 3) := by decide +kernel
theorem dX11_put_59 : decode cX11_put 59 = .ok (.ireturn, 1) := by decide +kernel
theorem dX11_put_60 : decode cX11_put 60 = .ok (.aload 5, 2) := by decide +kernel
theorem dX11_put_62 : decode cX11_put 62 = .ok (.iload_n 2, 1) := by decide +kernel
theorem dX11_put_63 : decode cX11_put 63 = .ok (.lload_n 3, 1) := by decide +kernel
theorem dX11_put_64 : decode cX11_put 64 = .ok (.invokevirtual 346, 3) := by decide +kernel
theorem dX11_put_67 : decode cX11_put 67 = .ok (.iconst 1, 1) := by decide +kernel
theorem dX11_put_68 : decode cX11_put 68 = .ok (.ireturn, 1) := by decide +kernel
theorem dX11_at_0 : decode cX11_at 0 = .ok (.aload_n 0, 1) := by decide +kernel
theorem dX11_at_1 : decode cX11_at 1 = .ok (.iload_n 1, 1) := by decide +kernel
theorem dX11_at_2 : decode cX11_at 2 = .ok (.invokevirtual 171, 3) := by decide +kernel
theorem dX11_at_5 : decode cX11_at 5 = .ok (.astore_n 3, 1) := by decide +kernel
theorem dX11_at_6 : decode cX11_at 6 = .ok (.aload_n 3, 1) := by decide +kernel
theorem dX11_at_7 : decode cX11_at 7 = .ok (.ifnonnull 14, 3) := by decide +kernel
theorem dX11_at_10 : decode cX11_at 10 = .ok (.new 192, 3) := by decide +kernel
theorem dX11_at_13 : decode cX11_at 13 = .ok (.dup, 1) := by decide +kernel
theorem dX11_at_14 : decode cX11_at 14 = .ok (.ldc_w 350, 3) := by decide +kernel
theorem dX11_at_17 : decode cX11_at 17 = .ok (.invokespecial 196, 3) := by decide +kernel
theorem dX11_at_20 : decode cX11_at 20 = .ok (.athrow, 1) := by decide +kernel
theorem dX11_at_21 : decode cX11_at 21 = .ok (.aload_n 3, 1) := by decide +kernel
theorem dX11_at_22 : decode cX11_at 22 = .ok (.invokevirtual 340, 3) := by decide +kernel
theorem dX11_at_25 : decode cX11_at 25 = .ok (.ifCond .eq 11, 3) := by decide +kernel
theorem dX11_at_28 : decode cX11_at 28 = .ok (.aload_n 3, 1) := by decide +kernel
theorem dX11_at_29 : decode cX11_at 29 = .ok (.iload_n 2, 1) := by decide +kernel
theorem dX11_at_30 : decode cX11_at 30 = .ok (.invokevirtual 343, 3) := by decide +kernel
theorem dX11_at_33 : decode cX11_at 33 = .ok (.ifCond .ne 14, 3) := by decide +kernel
theorem dX11_at_36 : decode cX11_at 36 = .ok (.new 202, 3) := by decide +kernel
theorem dX11_at_39 : decode cX11_at 39 = .ok (.dup, 1) := by decide +kernel
theorem dX11_at_40 : decode cX11_at 40 = .ok (.ldc_w 352, 3) := by decide +kernel
theorem dX11_at_43 : decode cX11_at 43 = .ok (.invokespecial 206, 3) := by decide +kernel
theorem dX11_at_46 : decode cX11_at 46 = .ok (.athrow, 1) := by decide +kernel
theorem dX11_at_47 : decode cX11_at 47 = .ok (.aload_n 3, 1) := by decide +kernel
theorem dX11_at_48 : decode cX11_at 48 = .ok (.iload_n 2, 1) := by decide +kernel
theorem dX11_at_49 : decode cX11_at 49 = .ok (.invokevirtual 354, 3) := by decide +kernel
theorem dX11_at_52 : decode cX11_at 52 = .ok (.lreturn, 1) := by decide +kernel
theorem dX11_copy_0 : decode cX11_copy 0 = .ok (.aload_n 0, 1) := by decide +kernel
theorem dX11_copy_1 : decode cX11_copy 1 = .ok (.iload_n 1, 1) := by decide +kernel
theorem dX11_copy_2 : decode cX11_copy 2 = .ok (.invokevirtual 171, 3) := by decide +kernel
theorem dX11_copy_5 : decode cX11_copy 5 = .ok (.astore 6, 2) := by decide +kernel
theorem dX11_copy_7 : decode cX11_copy 7 = .ok (.aload_n 0, 1) := by decide +kernel
theorem dX11_copy_8 : decode cX11_copy 8 = .ok (.iload_n 3, 1) := by decide +kernel
theorem dX11_copy_9 : decode cX11_copy 9 = .ok (.invokevirtual 171, 3) := by decide +kernel
theorem dX11_copy_12 : decode cX11_copy 12 = .ok (.astore 7, 2) := by decide +kernel
theorem dX11_copy_14 : decode cX11_copy 14 = .ok (.aload 6, 2) := by decide +kernel
theorem dX11_copy_16 : decode cX11_copy 16 = .ok (.ifnull 8, 3) := by decide +kernel
theorem dX11_copy_19 : decode cX11_copy 19 = .ok (.aload 7, 2) := by decide +kernel
theorem dX11_copy_21 : decode cX11_copy 21 = .ok (.ifnonnull 5, 3) := by decide +kernel
theorem dX11_copy_24 : decode cX11_copy 24 = .ok (.iconst (-1), 1) := by decide +kernel
theorem dX11_copy_25 : decode cX11_copy 25 = .ok (.ireturn, 1) := by decide +kernel
theorem dX11_copy_26 : decode cX11_copy 26 = .ok (.aload 6, 2) := by decide +kernel
theorem dX11_copy_28 : decode cX11_copy 28 = .ok (.getfield 337, 3) := by decide +kernel
theorem dX11_copy_31 : decode cX11_copy 31 = .ok (.ifCond .eq 11, 3) := by decide +kernel
theorem dX11_copy_34 : decode cX11_copy 34 = .ok (.aload 7, 2) := by decide +kernel
theorem dX11_copy_36 : decode cX11_copy 36 = .ok (.getfield 337, 3) := by decide +kernel
theorem dX11_copy_39 : decode cX11_copy 39 = .ok (.ifCond .ne 10, 3) := by decide +kernel
theorem dX11_copy_42 : decode cX11_copy 42 = .ok (.aload_n 0, 1) := by decide +kernel
theorem dX11_copy_43 : decode cX11_copy 43 = .ok (.bipush (-11), 2) := by decide +kernel
theorem dX11_copy_45 : decode cX11_copy 45 = .ok (.invokevirtual 178, 3) := by decide +kernel
theorem dX11_copy_48 : decode cX11_copy 48 = .ok (.ireturn, 1) := by decide +kernel
theorem dX11_copy_49 : decode cX11_copy 49 = .ok (.aload 6, 2) := by decide +kernel
theorem dX11_copy_51 : decode cX11_copy 51 = .ok (.invokevirtual 340, 3) := by decide +kernel
theorem dX11_copy_54 : decode cX11_copy 54 = .ok (.ifCond .eq 16, 3) := by decide +kernel
theorem dX11_copy_57 : decode cX11_copy 57 = .ok (.aload 6, 2) := by decide +kernel
theorem dX11_copy_59 : decode cX11_copy 59 = .ok (.getfield 337, 3) := by decide +kernel
theorem dX11_copy_62 : decode cX11_copy 62 = .ok (.aload 7, 2) := by decide +kernel
theorem dX11_copy_64 : decode cX11_copy 64 = .ok (.getfield 337, 3) := by decide +kernel
theorem dX11_copy_67 : decode cX11_copy 67 = .ok (.if_icmp .eq 10, 3) := by decide +kernel
theorem dX11_copy_70 : decode cX11_copy 70 = .ok (.aload_n 0, 1) := by decide +kernel
theorem dX11_copy_71 : decode cX11_copy 71 = .ok (.bipush (-12), 2) := by decide +kernel
theorem dX11_copy_73 : decode cX11_copy 73 = .ok (.invokevirtual 178, 3) := by decide +kernel
theorem dX11_copy_76 : decode cX11_copy 76 = .ok (.ireturn, 1) := by decide +kernel
theorem dX11_copy_77 : decode cX11_copy 77 = .ok (.aload 6, 2) := by decide +kernel
theorem dX11_copy_79 : decode cX11_copy 79 = .ok (.iload_n 2, 1) := by decide +kernel
theorem dX11_copy_80 : decode cX11_copy 80 = .ok (.iload 5, 2) := by decide +kernel
theorem dX11_copy_82 : decode cX11_copy 82 = .ok (.invokevirtual 358, 3) := by decide +kernel
theorem dX11_copy_85 : decode cX11_copy 85 = .ok (.ifCond .eq 15, 3) := by decide +kernel
theorem dX11_copy_88 : decode cX11_copy 88 = .ok (.aload 7, 2) := by decide +kernel
theorem dX11_copy_90 : decode cX11_copy 90 = .ok (.iload 4, 2) := by decide +kernel
theorem dX11_copy_92 : decode cX11_copy 92 = .ok (.iload 5, 2) := by decide +kernel
theorem dX11_copy_94 : decode cX11_copy 94 = .ok (.invokevirtual 358, 3) := by decide +kernel
theorem dX11_copy_97 : decode cX11_copy 97 = .ok (.ifCond .ne 10, 3) := by decide +kernel
theorem dX11_copy_100 : decode cX11_copy 100 = .ok (.aload_n 0, 1) := by decide +kernel
theorem dX11_copy_101 : decode cX11_copy 101 = .ok (.bipush (-13), 2) := by decide +kernel
theorem dX11_copy_103 : decode cX11_copy 103 = .ok (.invokevirtual 178, 3) := by decide +kernel
theorem dX11_copy_106 : decode cX11_copy 106 = .ok (.ireturn, 1) := by decide +kernel
theorem dX11_copy_107 : decode cX11_copy 107 = .ok (.aload 6, 2) := by decide +kernel
theorem dX11_copy_109 : decode cX11_copy 109 = .ok (.getfield 361, 3) := by decide +kernel
theorem dX11_copy_112 : decode cX11_copy 112 = .ok (.iload_n 2, 1) := by decide +kernel
theorem dX11_copy_113 : decode cX11_copy 113 = .ok (.aload 7, 2) := by decide +kernel
theorem dX11_copy_115 : decode cX11_copy 115 = .ok (.getfield 361, 3) := by decide +kernel
theorem dX11_copy_118 : decode cX11_copy 118 = .ok (.iload 4, 2) := by decide +kernel
theorem dX11_copy_120 : decode cX11_copy 120 = .ok (.iload 5, 2) := by decide +kernel
theorem dX11_copy_122 : decode cX11_copy 122 = .ok (.invokestatic 365, 3) := by decide +kernel
theorem dX11_copy_125 : decode cX11_copy 125 = .ok (.iload 5, 2) := by decide +kernel
theorem dX11_copy_127 : decode cX11_copy 127 = .ok (.ireturn, 1) := by decide +kernel
theorem dX11_count_0 : decode cX11_count 0 = .ok (.iload_n 1, 1) := by decide +kernel
theorem dX11_count_1 : decode cX11_count 1 = .ok (.tableswitch 111 0 7 #[47, 58, 66, 74, 82, 90, 98, 106], 47) := by decide +kernel
theorem dX11_count_48 : decode cX11_count 48 = .ok (.aload_n 0, 1) := by decide +kernel
theorem dX11_count_49 : decode cX11_count 49 = .ok (.getfield 10, 3) := by decide +kernel
theorem dX11_count_52 : decode cX11_count 52 = .ok (.getfield 115, 3) := by decide +kernel
theorem dX11_count_55 : decode cX11_count 55 = .ok (.invokevirtual 371, 3) := by decide +kernel
theorem dX11_count_58 : decode cX11_count 58 = .ok (.ireturn, 1) := by decide +kernel
theorem dX11_count_59 : decode cX11_count 59 = .ok (.aload_n 0, 1) := by decide +kernel
theorem dX11_count_60 : decode cX11_count 60 = .ok (.getfield 10, 3) := by decide +kernel
theorem dX11_count_63 : decode cX11_count 63 = .ok (.invokevirtual 374, 3) := by decide +kernel
theorem dX11_count_66 : decode cX11_count 66 = .ok (.ireturn, 1) := by decide +kernel
theorem dX11_count_67 : decode cX11_count 67 = .ok (.aload_n 0, 1) := by decide +kernel
theorem dX11_count_68 : decode cX11_count 68 = .ok (.getfield 19, 3) := by decide +kernel
theorem dX11_count_71 : decode cX11_count 71 = .ok (.getfield 90, 3) := by decide +kernel
theorem dX11_count_74 : decode cX11_count 74 = .ok (.ireturn, 1) := by decide +kernel
theorem dX11_count_75 : decode cX11_count 75 = .ok (.aload_n 0, 1) := by decide +kernel
theorem dX11_count_76 : decode cX11_count 76 = .ok (.getfield 19, 3) := by decide +kernel
theorem dX11_count_79 : decode cX11_count 79 = .ok (.invokevirtual 234, 3) := by decide +kernel
theorem dX11_count_82 : decode cX11_count 82 = .ok (.ireturn, 1) := by decide +kernel
theorem dX11_count_83 : decode cX11_count 83 = .ok (.aload_n 0, 1) := by decide +kernel
theorem dX11_count_84 : decode cX11_count 84 = .ok (.getfield 44, 3) := by decide +kernel
theorem dX11_count_87 : decode cX11_count 87 = .ok (.getfield 93, 3) := by decide +kernel
theorem dX11_count_90 : decode cX11_count 90 = .ok (.ireturn, 1) := by decide +kernel
theorem dX11_count_91 : decode cX11_count 91 = .ok (.aload_n 0, 1) := by decide +kernel
theorem dX11_count_92 : decode cX11_count 92 = .ok (.getfield 51, 3) := by decide +kernel
theorem dX11_count_95 : decode cX11_count 95 = .ok (.getfield 94, 3) := by decide +kernel
theorem dX11_count_98 : decode cX11_count 98 = .ok (.ireturn, 1) := by decide +kernel
theorem dX11_count_99 : decode cX11_count 99 = .ok (.aload_n 0, 1) := by decide +kernel
theorem dX11_count_100 : decode cX11_count 100 = .ok (.getfield 69, 3) := by decide +kernel
theorem dX11_count_103 : decode cX11_count 103 = .ok (.getfield 96, 3) := by decide +kernel
theorem dX11_count_106 : decode cX11_count 106 = .ok (.ireturn, 1) := by decide +kernel
theorem dX11_count_107 : decode cX11_count 107 = .ok (.aload_n 0, 1) := by decide +kernel
theorem dX11_count_108 : decode cX11_count 108 = .ok (.getfield 84, 3) := by decide +kernel
theorem dX11_count_111 : decode cX11_count 111 = .ok (.ireturn, 1) := by decide +kernel
theorem dX11_count_112 : decode cX11_count 112 = .ok (.iconst (-1), 1) := by decide +kernel
theorem dX11_count_113 : decode cX11_count 113 = .ok (.ireturn, 1) := by decide +kernel
theorem dX11_tapeAt_0 : decode cX11_tapeAt 0 = .ok (.iload_n 1, 1) := by decide +kernel
theorem dX11_tapeAt_1 : decode cX11_tapeAt 1 = .ok (.ifCond .lt 18, 3) := by decide +kernel
theorem dX11_tapeAt_4 : decode cX11_tapeAt 4 = .ok (.iload_n 1, 1) := by decide +kernel
theorem dX11_tapeAt_5 : decode cX11_tapeAt 5 = .ok (.bipush 6, 2) := by decide +kernel
theorem dX11_tapeAt_7 : decode cX11_tapeAt 7 = .ok (.if_icmp .ge 12, 3) := by decide +kernel
theorem dX11_tapeAt_10 : decode cX11_tapeAt 10 = .ok (.aload_n 0, 1) := by decide +kernel
theorem dX11_tapeAt_11 : decode cX11_tapeAt 11 = .ok (.getfield 75, 3) := by decide +kernel
theorem dX11_tapeAt_14 : decode cX11_tapeAt 14 = .ok (.iload_n 1, 1) := by decide +kernel
theorem dX11_tapeAt_15 : decode cX11_tapeAt 15 = .ok (.aaload, 1) := by decide +kernel
theorem dX11_tapeAt_16 : decode cX11_tapeAt 16 = .ok (.goto 4, 3) := by decide +kernel
theorem dX11_tapeAt_19 : decode cX11_tapeAt 19 = .ok (.aconst_null, 1) := by decide +kernel
theorem dX11_tapeAt_20 : decode cX11_tapeAt 20 = .ok (.areturn, 1) := by decide +kernel
theorem dX11_refuse_0 : decode cX11_refuse 0 = .ok (.aload_n 0, 1) := by decide +kernel
theorem dX11_refuse_1 : decode cX11_refuse 1 = .ok (.dup, 1) := by decide +kernel
theorem dX11_refuse_2 : decode cX11_refuse 2 = .ok (.getfield 84, 3) := by decide +kernel
theorem dX11_refuse_5 : decode cX11_refuse 5 = .ok (.iconst 1, 1) := by decide +kernel
theorem dX11_refuse_6 : decode cX11_refuse 6 = .ok (.iadd, 1) := by decide +kernel
theorem dX11_refuse_7 : decode cX11_refuse 7 = .ok (.putfield 84, 3) := by decide +kernel
theorem dX11_refuse_10 : decode cX11_refuse 10 = .ok (.iload_n 1, 1) := by decide +kernel
theorem dX11_refuse_11 : decode cX11_refuse 11 = .ok (.ireturn, 1) := by decide +kernel
theorem dX11_takeCues_0 : decode cX11_takeCues 0 = .ok (.aload_n 0, 1) := by decide +kernel
theorem dX11_takeCues_1 : decode cX11_takeCues 1 = .ok (.getfield 19, 3) := by decide +kernel
theorem dX11_takeCues_4 : decode cX11_takeCues 4 = .ok (.aload_n 1, 1) := by decide +kernel
theorem dX11_takeCues_5 : decode cX11_takeCues 5 = .ok (.invokevirtual 377, 3) := by decide +kernel
theorem dX11_takeCues_8 : decode cX11_takeCues 8 = .ok (.aload_n 0, 1) := by decide +kernel
theorem dX11_takeCues_9 : decode cX11_takeCues 9 = .ok (.getfield 60, 3) := by decide +kernel
theorem dX11_takeCues_12 : decode cX11_takeCues 12 = .ok (.invokevirtual 380, 3) := by decide +kernel
theorem dX11_takeCues_15 : decode cX11_takeCues 15 = .ok (.aload_n 0, 1) := by decide +kernel
theorem dX11_takeCues_16 : decode cX11_takeCues 16 = .ok (.getfield 69, 3) := by decide +kernel
theorem dX11_takeCues_19 : decode cX11_takeCues 19 = .ok (.iconst 0, 1) := by decide +kernel
theorem dX11_takeCues_20 : decode cX11_takeCues 20 = .ok (.putfield 96, 3) := by decide +kernel
theorem dX11_takeCues_23 : decode cX11_takeCues 23 = .ok (.return_, 1) := by decide +kernel
theorem dX11_isLight_0 : decode cX11_isLight 0 = .ok (.aload_n 0, 1) := by decide +kernel
theorem dX11_isLight_1 : decode cX11_isLight 1 = .ok (.getfield 10, 3) := by decide +kernel
theorem dX11_isLight_4 : decode cX11_isLight 4 = .ok (.getfield 115, 3) := by decide +kernel
theorem dX11_isLight_7 : decode cX11_isLight 7 = .ok (.iload_n 1, 1) := by decide +kernel
theorem dX11_isLight_8 : decode cX11_isLight 8 = .ok (.invokevirtual 150, 3) := by decide +kernel
theorem dX11_isLight_11 : decode cX11_isLight 11 = .ok (.ifCond .eq 36, 3) := by decide +kernel
theorem dX11_isLight_14 : decode cX11_isLight 14 = .ok (.aload_n 0, 1) := by decide +kernel
theorem dX11_isLight_15 : decode cX11_isLight 15 = .ok (.getfield 10, 3) := by decide +kernel
theorem dX11_isLight_18 : decode cX11_isLight 18 = .ok (.iload_n 2, 1) := by decide +kernel
theorem dX11_isLight_19 : decode cX11_isLight 19 = .ok (.invokevirtual 147, 3) := by decide +kernel
theorem dX11_isLight_22 : decode cX11_isLight 22 = .ok (.ifCond .eq 25, 3) := by decide +kernel
theorem dX11_isLight_25 : decode cX11_isLight 25 = .ok (.iload_n 3, 1) := by decide +kernel
theorem dX11_isLight_26 : decode cX11_isLight 26 = .ok (.invokestatic 383, 3) := by decide +kernel
theorem dX11_isLight_29 : decode cX11_isLight 29 = .ok (.ifCond .eq 18, 3) := by decide +kernel
theorem dX11_isLight_32 : decode cX11_isLight 32 = .ok (.iload 4, 2) := by decide +kernel
theorem dX11_isLight_34 : decode cX11_isLight 34 = .ok (.ifCond .lt 13, 3) := by decide +kernel
theorem dX11_isLight_37 : decode cX11_isLight 37 = .ok (.iload 4, 2) := by decide +kernel
theorem dX11_isLight_39 : decode cX11_isLight 39 = .ok (.iconst 4, 1) := by decide +kernel
theorem dX11_isLight_40 : decode cX11_isLight 40 = .ok (.if_icmp .ge 7, 3) := by decide +kernel
theorem dX11_isLight_43 : decode cX11_isLight 43 = .ok (.iconst 1, 1) := by decide +kernel
theorem dX11_isLight_44 : decode cX11_isLight 44 = .ok (.goto 4, 3) := by decide +kernel
theorem dX11_isLight_47 : decode cX11_isLight 47 = .ok (.iconst 0, 1) := by decide +kernel
theorem dX11_isLight_48 : decode cX11_isLight 48 = .ok (.ireturn, 1) := by decide +kernel
theorem dX11_isAngle_0 : decode cX11_isAngle 0 = .ok (.iload_n 0, 1) := by decide +kernel
theorem dX11_isAngle_1 : decode cX11_isAngle 1 = .ok (.bipush (-4), 2) := by decide +kernel
theorem dX11_isAngle_3 : decode cX11_isAngle 3 = .ok (.if_icmp .lt 12, 3) := by decide +kernel
theorem dX11_isAngle_6 : decode cX11_isAngle 6 = .ok (.iload_n 0, 1) := by decide +kernel
theorem dX11_isAngle_7 : decode cX11_isAngle 7 = .ok (.iconst 4, 1) := by decide +kernel
theorem dX11_isAngle_8 : decode cX11_isAngle 8 = .ok (.if_icmp .gt 7, 3) := by decide +kernel
theorem dX11_isAngle_11 : decode cX11_isAngle 11 = .ok (.iconst 1, 1) := by decide +kernel
theorem dX11_isAngle_12 : decode cX11_isAngle 12 = .ok (.goto 4, 3) := by decide +kernel
theorem dX11_isAngle_15 : decode cX11_isAngle 15 = .ok (.iconst 0, 1) := by decide +kernel
theorem dX11_isAngle_16 : decode cX11_isAngle 16 = .ok (.ireturn, 1) := by decide +kernel
theorem dX11_isDrift_0 : decode cX11_isDrift 0 = .ok (.iload_n 0, 1) := by decide +kernel
theorem dX11_isDrift_1 : decode cX11_isDrift 1 = .ok (.bipush (-50), 2) := by decide +kernel
theorem dX11_isDrift_3 : decode cX11_isDrift 3 = .ok (.if_icmp .lt 13, 3) := by decide +kernel
theorem dX11_isDrift_6 : decode cX11_isDrift 6 = .ok (.iload_n 0, 1) := by decide +kernel
theorem dX11_isDrift_7 : decode cX11_isDrift 7 = .ok (.bipush 50, 2) := by decide +kernel
theorem dX11_isDrift_9 : decode cX11_isDrift 9 = .ok (.if_icmp .gt 7, 3) := by decide +kernel
theorem dX11_isDrift_12 : decode cX11_isDrift 12 = .ok (.iconst 1, 1) := by decide +kernel
theorem dX11_isDrift_13 : decode cX11_isDrift 13 = .ok (.goto 4, 3) := by decide +kernel
theorem dX11_isDrift_16 : decode cX11_isDrift 16 = .ok (.iconst 0, 1) := by decide +kernel
theorem dX11_isDrift_17 : decode cX11_isDrift 17 = .ok (.ireturn, 1) := by decide +kernel
theorem dX11_isTick_0 : decode cX11_isTick 0 = .ok (.iload_n 0, 1) := by decide +kernel
theorem dX11_isTick_1 : decode cX11_isTick 1 = .ok (.ifCond .lt 14, 3) := by decide +kernel
theorem dX11_isTick_4 : decode cX11_isTick 4 = .ok (.iload_n 0, 1) := by decide +kernel
theorem dX11_isTick_5 : decode cX11_isTick 5 = .ok (.sipush 20000, 3) := by decide +kernel
theorem dX11_isTick_8 : decode cX11_isTick 8 = .ok (.if_icmp .gt 7, 3) := by decide +kernel
theorem dX11_isTick_11 : decode cX11_isTick 11 = .ok (.iconst 1, 1) := by decide +kernel
theorem dX11_isTick_12 : decode cX11_isTick 12 = .ok (.goto 4, 3) := by decide +kernel
theorem dX11_isTick_15 : decode cX11_isTick 15 = .ok (.iconst 0, 1) := by decide +kernel
theorem dX11_isTick_16 : decode cX11_isTick 16 = .ok (.ireturn, 1) := by decide +kernel
theorem dX11_stretched_0 : decode cX11_stretched 0 = .ok (.iload_n 0, 1) := by decide +kernel
theorem dX11_stretched_1 : decode cX11_stretched 1 = .ok (.iload_n 1, 1) := by decide +kernel
theorem dX11_stretched_2 : decode cX11_stretched 2 = .ok (.if_icmp .ge 7, 3) := by decide +kernel
theorem dX11_stretched_5 : decode cX11_stretched 5 = .ok (.iload_n 0, 1) := by decide +kernel
theorem dX11_stretched_6 : decode cX11_stretched 6 = .ok (.goto 14, 3) := by decide +kernel
theorem dX11_stretched_9 : decode cX11_stretched 9 = .ok (.iload_n 1, 1) := by decide +kernel
theorem dX11_stretched_10 : decode cX11_stretched 10 = .ok (.iload_n 0, 1) := by decide +kernel
theorem dX11_stretched_11 : decode cX11_stretched 11 = .ok (.iload_n 1, 1) := by decide +kernel
theorem dX11_stretched_12 : decode cX11_stretched 12 = .ok (.isub, 1) := by decide +kernel
theorem dX11_stretched_13 : decode cX11_stretched 13 = .ok (.iload_n 2, 1) := by decide +kernel
theorem dX11_stretched_14 : decode cX11_stretched 14 = .ok (.imul, 1) := by decide +kernel
theorem dX11_stretched_15 : decode cX11_stretched 15 = .ok (.iload_n 3, 1) := by decide +kernel
theorem dX11_stretched_16 : decode cX11_stretched 16 = .ok (.invokestatic 386, 3) := by decide +kernel
theorem dX11_stretched_19 : decode cX11_stretched 19 = .ok (.iadd, 1) := by decide +kernel
theorem dX11_stretched_20 : decode cX11_stretched 20 = .ok (.ireturn, 1) := by decide +kernel
theorem dX12_init_0 : decode cX12_init 0 = .ok (.aload_n 0, 1) := by decide +kernel
theorem dX12_init_1 : decode cX12_init 1 = .ok (.invokespecial 1, 3) := by decide +kernel
theorem dX12_init_4 : decode cX12_init 4 = .ok (.aload_n 0, 1) := by decide +kernel
theorem dX12_init_5 : decode cX12_init 5 = .ok (.sipush 1024, 3) := by decide +kernel
theorem dX12_init_8 : decode cX12_init 8 = .ok (.newarray .int, 2) := by decide +kernel
theorem dX12_init_10 : decode cX12_init 10 = .ok (.putfield 9, 3) := by decide +kernel
theorem dX12_init_13 : decode cX12_init 13 = .ok (.aload_n 0, 1) := by decide +kernel
theorem dX12_init_14 : decode cX12_init 14 = .ok (.bipush 12, 2) := by decide +kernel
theorem dX12_init_16 : decode cX12_init 16 = .ok (.newarray .int, 2) := by decide +kernel
theorem dX12_init_18 : decode cX12_init 18 = .ok (.putfield 13, 3) := by decide +kernel
theorem dX12_init_21 : decode cX12_init 21 = .ok (.aload_n 0, 1) := by decide +kernel
theorem dX12_init_22 : decode cX12_init 22 = .ok (.bipush 12, 2) := by decide +kernel
theorem dX12_init_24 : decode cX12_init 24 = .ok (.newarray .int, 2) := by decide +kernel
theorem dX12_init_26 : decode cX12_init 26 = .ok (.putfield 16, 3) := by decide +kernel
theorem dX12_init_29 : decode cX12_init 29 = .ok (.aload_n 0, 1) := by decide +kernel
theorem dX12_init_30 : decode cX12_init 30 = .ok (.bipush 12, 2) := by decide +kernel
theorem dX12_init_32 : decode cX12_init 32 = .ok (.newarray .int, 2) := by decide +kernel
theorem dX12_init_34 : decode cX12_init 34 = .ok (.putfield 19, 3) := by decide +kernel
theorem dX12_init_37 : decode cX12_init 37 = .ok (.aload_n 0, 1) := by decide +kernel
theorem dX12_init_38 : decode cX12_init 38 = .ok (.bipush 12, 2) := by decide +kernel
theorem dX12_init_40 : decode cX12_init 40 = .ok (.newarray .int, 2) := by decide +kernel
theorem dX12_init_42 : decode cX12_init 42 = .ok (.putfield 22, 3) := by decide +kernel
theorem dX12_init_45 : decode cX12_init 45 = .ok (.aload_n 0, 1) := by decide +kernel
theorem dX12_init_46 : decode cX12_init 46 = .ok (.bipush 12, 2) := by decide +kernel
theorem dX12_init_48 : decode cX12_init 48 = .ok (.newarray .int, 2) := by decide +kernel
theorem dX12_init_50 : decode cX12_init 50 = .ok (.putfield 25, 3) := by decide +kernel
theorem dX12_init_53 : decode cX12_init 53 = .ok (.aload_n 0, 1) := by decide +kernel
theorem dX12_init_54 : decode cX12_init 54 = .ok (.bipush 12, 2) := by decide +kernel
theorem dX12_init_56 : decode cX12_init 56 = .ok (.newarray .int, 2) := by decide +kernel
theorem dX12_init_58 : decode cX12_init 58 = .ok (.putfield 28, 3) := by decide +kernel
theorem dX12_init_61 : decode cX12_init 61 = .ok (.aload_n 0, 1) := by decide +kernel
theorem dX12_init_62 : decode cX12_init 62 = .ok (.bipush 6, 2) := by decide +kernel
theorem dX12_init_64 : decode cX12_init 64 = .ok (.newarray .int, 2) := by decide +kernel
theorem dX12_init_66 : decode cX12_init 66 = .ok (.putfield 31, 3) := by decide +kernel
theorem dX12_init_69 : decode cX12_init 69 = .ok (.aload_n 0, 1) := by decide +kernel
theorem dX12_init_70 : decode cX12_init 70 = .ok (.bipush 6, 2) := by decide +kernel
theorem dX12_init_72 : decode cX12_init 72 = .ok (.newarray .int, 2) := by decide +kernel
theorem dX12_init_74 : decode cX12_init 74 = .ok (.putfield 34, 3) := by decide +kernel
theorem dX12_init_77 : decode cX12_init 77 = .ok (.aload_n 0, 1) := by decide +kernel
theorem dX12_init_78 : decode cX12_init 78 = .ok (.bipush 6, 2) := by decide +kernel
theorem dX12_init_80 : decode cX12_init 80 = .ok (.newarray .int, 2) := by decide +kernel
theorem dX12_init_82 : decode cX12_init 82 = .ok (.putfield 37, 3) := by decide +kernel
theorem dX12_init_85 : decode cX12_init 85 = .ok (.aload_n 0, 1) := by decide +kernel
theorem dX12_init_86 : decode cX12_init 86 = .ok (.bipush 20, 2) := by decide +kernel
theorem dX12_init_88 : decode cX12_init 88 = .ok (.newarray .int, 2) := by decide +kernel
theorem dX12_init_90 : decode cX12_init 90 = .ok (.putfield 40, 3) := by decide +kernel
theorem dX12_init_93 : decode cX12_init 93 = .ok (.aload_n 0, 1) := by decide +kernel
theorem dX12_init_94 : decode cX12_init 94 = .ok (.bipush 20, 2) := by decide +kernel
theorem dX12_init_96 : decode cX12_init 96 = .ok (.newarray .int, 2) := by decide +kernel
theorem dX12_init_98 : decode cX12_init 98 = .ok (.putfield 43, 3) := by decide +kernel
theorem dX12_init_101 : decode cX12_init 101 = .ok (.aload_n 0, 1) := by decide +kernel
theorem dX12_init_102 : decode cX12_init 102 = .ok (.bipush 120, 2) := by decide +kernel
theorem dX12_init_104 : decode cX12_init 104 = .ok (.newarray .int, 2) := by decide +kernel
theorem dX12_init_106 : decode cX12_init 106 = .ok (.putfield 46, 3) := by decide +kernel
theorem dX12_init_109 : decode cX12_init 109 = .ok (.aload_n 0, 1) := by decide +kernel
theorem dX12_init_110 : decode cX12_init 110 = .ok (.bipush 120, 2) := by decide +kernel
theorem dX12_init_112 : decode cX12_init 112 = .ok (.newarray .int, 2) := by decide +kernel
theorem dX12_init_114 : decode cX12_init 114 = .ok (.putfield 49, 3) := by decide +kernel
theorem dX12_init_117 : decode cX12_init 117 = .ok (.aload_n 0, 1) := by decide +kernel
theorem dX12_init_118 : decode cX12_init 118 = .ok (.bipush 120, 2) := by decide +kernel
theorem dX12_init_120 : decode cX12_init 120 = .ok (.newarray .int, 2) := by decide +kernel
theorem dX12_init_122 : decode cX12_init 122 = .ok (.putfield 52, 3) := by decide +kernel
theorem dX12_init_125 : decode cX12_init 125 = .ok (.aload_n 0, 1) := by decide +kernel
theorem dX12_init_126 : decode cX12_init 126 = .ok (.bipush 120, 2) := by decide +kernel
theorem dX12_init_128 : decode cX12_init 128 = .ok (.newarray .int, 2) := by decide +kernel
theorem dX12_init_130 : decode cX12_init 130 = .ok (.putfield 55, 3) := by decide +kernel
theorem dX12_init_133 : decode cX12_init 133 = .ok (.aload_n 0, 1) := by decide +kernel
theorem dX12_init_134 : decode cX12_init 134 = .ok (.bipush 120, 2) := by decide +kernel
theorem dX12_init_136 : decode cX12_init 136 = .ok (.newarray .int, 2) := by decide +kernel
theorem dX12_init_138 : decode cX12_init 138 = .ok (.putfield 58, 3) := by decide +kernel
theorem dX12_init_141 : decode cX12_init 141 = .ok (.aload_n 0, 1) := by decide +kernel
theorem dX12_init_142 : decode cX12_init 142 = .ok (.bipush 120, 2) := by decide +kernel
theorem dX12_init_144 : decode cX12_init 144 = .ok (.newarray .int, 2) := by decide +kernel
theorem dX12_init_146 : decode cX12_init 146 = .ok (.putfield 61, 3) := by decide +kernel
theorem dX12_init_149 : decode cX12_init 149 = .ok (.aload_n 0, 1) := by decide +kernel
theorem dX12_init_150 : decode cX12_init 150 = .ok (.bipush 120, 2) := by decide +kernel
theorem dX12_init_152 : decode cX12_init 152 = .ok (.newarray .int, 2) := by decide +kernel
theorem dX12_init_154 : decode cX12_init 154 = .ok (.putfield 64, 3) := by decide +kernel
theorem dX12_init_157 : decode cX12_init 157 = .ok (.aload_n 0, 1) := by decide +kernel
theorem dX12_init_158 : decode cX12_init 158 = .ok (.bipush 120, 2) := by decide +kernel
theorem dX12_init_160 : decode cX12_init 160 = .ok (.newarray .int, 2) := by decide +kernel
theorem dX12_init_162 : decode cX12_init 162 = .ok (.putfield 67, 3) := by decide +kernel
theorem dX12_init_165 : decode cX12_init 165 = .ok (.aload_n 0, 1) := by decide +kernel
theorem dX12_init_166 : decode cX12_init 166 = .ok (.bipush 120, 2) := by decide +kernel
theorem dX12_init_168 : decode cX12_init 168 = .ok (.newarray .int, 2) := by decide +kernel
theorem dX12_init_170 : decode cX12_init 170 = .ok (.putfield 70, 3) := by decide +kernel
theorem dX12_init_173 : decode cX12_init 173 = .ok (.aload_n 0, 1) := by decide +kernel
theorem dX12_init_174 : decode cX12_init 174 = .ok (.bipush 20, 2) := by decide +kernel
theorem dX12_init_176 : decode cX12_init 176 = .ok (.newarray .int, 2) := by decide +kernel
theorem dX12_init_178 : decode cX12_init 178 = .ok (.putfield 73, 3) := by decide +kernel
theorem dX12_init_181 : decode cX12_init 181 = .ok (.aload_n 0, 1) := by decide +kernel
theorem dX12_init_182 : decode cX12_init 182 = .ok (.bipush 20, 2) := by decide +kernel
theorem dX12_init_184 : decode cX12_init 184 = .ok (.newarray .int, 2) := by decide +kernel
theorem dX12_init_186 : decode cX12_init 186 = .ok (.putfield 76, 3) := by decide +kernel
theorem dX12_init_189 : decode cX12_init 189 = .ok (.aload_n 0, 1) := by decide +kernel
theorem dX12_init_190 : decode cX12_init 190 = .ok (.bipush 20, 2) := by decide +kernel
theorem dX12_init_192 : decode cX12_init 192 = .ok (.newarray .int, 2) := by decide +kernel
theorem dX12_init_194 : decode cX12_init 194 = .ok (.putfield 79, 3) := by decide +kernel
theorem dX12_init_197 : decode cX12_init 197 = .ok (.aload_n 0, 1) := by decide +kernel
theorem dX12_init_198 : decode cX12_init 198 = .ok (.sipush 800, 3) := by decide +kernel
theorem dX12_init_201 : decode cX12_init 201 = .ok (.newarray .int, 2) := by decide +kernel
theorem dX12_init_203 : decode cX12_init 203 = .ok (.putfield 82, 3) := by decide +kernel
theorem dX12_init_206 : decode cX12_init 206 = .ok (.aload_n 0, 1) := by decide +kernel
theorem dX12_init_207 : decode cX12_init 207 = .ok (.bipush 60, 2) := by decide +kernel
theorem dX12_init_209 : decode cX12_init 209 = .ok (.newarray .int, 2) := by decide +kernel
theorem dX12_init_211 : decode cX12_init 211 = .ok (.putfield 85, 3) := by decide +kernel
theorem dX12_init_214 : decode cX12_init 214 = .ok (.aload_n 0, 1) := by decide +kernel
theorem dX12_init_215 : decode cX12_init 215 = .ok (.bipush 60, 2) := by decide +kernel
theorem dX12_init_217 : decode cX12_init 217 = .ok (.newarray .int, 2) := by decide +kernel
theorem dX12_init_219 : decode cX12_init 219 = .ok (.putfield 88, 3) := by decide +kernel
theorem dX12_init_222 : decode cX12_init 222 = .ok (.aload_n 0, 1) := by decide +kernel
theorem dX12_init_223 : decode cX12_init 223 = .ok (.bipush 6, 2) := by decide +kernel
theorem dX12_init_225 : decode cX12_init 225 = .ok (.newarray .int, 2) := by decide +kernel
theorem dX12_init_227 : decode cX12_init 227 = .ok (.putfield 91, 3) := by decide +kernel
theorem dX12_init_230 : decode cX12_init 230 = .ok (.aload_n 0, 1) := by decide +kernel
theorem dX12_init_231 : decode cX12_init 231 = .ok (.bipush 6, 2) := by decide +kernel
theorem dX12_init_233 : decode cX12_init 233 = .ok (.newarray .int, 2) := by decide +kernel
theorem dX12_init_235 : decode cX12_init 235 = .ok (.putfield 94, 3) := by decide +kernel
theorem dX12_init_238 : decode cX12_init 238 = .ok (.aload_n 0, 1) := by decide +kernel
theorem dX12_init_239 : decode cX12_init 239 = .ok (.sipush 2880, 3) := by decide +kernel
theorem dX12_init_242 : decode cX12_init 242 = .ok (.newarray .int, 2) := by decide +kernel
theorem dX12_init_244 : decode cX12_init 244 = .ok (.putfield 97, 3) := by decide +kernel
theorem dX12_init_247 : decode cX12_init 247 = .ok (.aload_n 0, 1) := by decide +kernel
theorem dX12_init_248 : decode cX12_init 248 = .ok (.sipush 600, 3) := by decide +kernel
theorem dX12_init_251 : decode cX12_init 251 = .ok (.newarray .long, 2) := by decide +kernel
theorem dX12_init_253 : decode cX12_init 253 = .ok (.putfield 100, 3) := by decide +kernel
theorem dX12_init_256 : decode cX12_init 256 = .ok (.aload_n 0, 1) := by decide +kernel
theorem dX12_init_257 : decode cX12_init 257 = .ok (.iconst 3, 1) := by decide +kernel
theorem dX12_init_258 : decode cX12_init 258 = .ok (.newarray .int, 2) := by decide +kernel
theorem dX12_init_260 : decode cX12_init 260 = .ok (.putfield 104, 3) := by decide +kernel
theorem dX12_init_263 : decode cX12_init 263 = .ok (.aload_n 0, 1) := by decide +kernel
theorem dX12_init_264 : decode cX12_init 264 = .ok (.iconst 3, 1) := by decide +kernel
theorem dX12_init_265 : decode cX12_init 265 = .ok (.newarray .int, 2) := by decide +kernel
theorem dX12_init_267 : decode cX12_init 267 = .ok (.putfield 107, 3) := by decide +kernel
theorem dX12_init_270 : decode cX12_init 270 = .ok (.aload_n 0, 1) := by decide +kernel
theorem dX12_init_271 : decode cX12_init 271 = .ok (.bipush 120, 2) := by decide +kernel
theorem dX12_init_273 : decode cX12_init 273 = .ok (.newarray .int, 2) := by decide +kernel
theorem dX12_init_275 : decode cX12_init 275 = .ok (.putfield 110, 3) := by decide +kernel
theorem dX12_init_278 : decode cX12_init 278 = .ok (.aload_n 0, 1) := by decide +kernel
theorem dX12_init_279 : decode cX12_init 279 = .ok (.bipush 8, 2) := by decide +kernel
theorem dX12_init_281 : decode cX12_init 281 = .ok (.newarray .int, 2) := by decide +kernel
theorem dX12_init_283 : decode cX12_init 283 = .ok (.putfield 113, 3) := by decide +kernel
theorem dX12_init_286 : decode cX12_init 286 = .ok (.aload_n 0, 1) := by decide +kernel
theorem dX12_init_287 : decode cX12_init 287 = .ok (.bipush 8, 2) := by decide +kernel
theorem dX12_init_289 : decode cX12_init 289 = .ok (.newarray .int, 2) := by decide +kernel
theorem dX12_init_291 : decode cX12_init 291 = .ok (.putfield 116, 3) := by decide +kernel
theorem dX12_init_294 : decode cX12_init 294 = .ok (.aload_n 0, 1) := by decide +kernel
theorem dX12_init_295 : decode cX12_init 295 = .ok (.bipush 6, 2) := by decide +kernel
theorem dX12_init_297 : decode cX12_init 297 = .ok (.newarray .int, 2) := by decide +kernel
theorem dX12_init_299 : decode cX12_init 299 = .ok (.putfield 119, 3) := by decide +kernel
theorem dX12_init_302 : decode cX12_init 302 = .ok (.aload_n 0, 1) := by decide +kernel
theorem dX12_init_303 : decode cX12_init 303 = .ok (.bipush 48, 2) := by decide +kernel
theorem dX12_init_305 : decode cX12_init 305 = .ok (.newarray .boolean, 2) := by decide +kernel
theorem dX12_init_307 : decode cX12_init 307 = .ok (.putfield 122, 3) := by decide +kernel
theorem dX12_init_310 : decode cX12_init 310 = .ok (.aload_n 0, 1) := by decide +kernel
theorem dX12_init_311 : decode cX12_init 311 = .ok (.bipush 9, 2) := by decide +kernel
theorem dX12_init_313 : decode cX12_init 313 = .ok (.newarray .boolean, 2) := by decide +kernel
theorem dX12_init_315 : decode cX12_init 315 = .ok (.putfield 126, 3) := by decide +kernel
theorem dX12_init_318 : decode cX12_init 318 = .ok (.aload_n 0, 1) := by decide +kernel
theorem dX12_init_319 : decode cX12_init 319 = .ok (.bipush 120, 2) := by decide +kernel
theorem dX12_init_321 : decode cX12_init 321 = .ok (.newarray .int, 2) := by decide +kernel
theorem dX12_init_323 : decode cX12_init 323 = .ok (.putfield 129, 3) := by decide +kernel
theorem dX12_init_326 : decode cX12_init 326 = .ok (.aload_n 0, 1) := by decide +kernel
theorem dX12_init_327 : decode cX12_init 327 = .ok (.bipush 120, 2) := by decide +kernel
theorem dX12_init_329 : decode cX12_init 329 = .ok (.newarray .int, 2) := by decide +kernel
theorem dX12_init_331 : decode cX12_init 331 = .ok (.putfield 132, 3) := by decide +kernel
theorem dX12_init_334 : decode cX12_init 334 = .ok (.aload_n 0, 1) := by decide +kernel
theorem dX12_init_335 : decode cX12_init 335 = .ok (.bipush 120, 2) := by decide +kernel
theorem dX12_init_337 : decode cX12_init 337 = .ok (.newarray .int, 2) := by decide +kernel
theorem dX12_init_339 : decode cX12_init 339 = .ok (.putfield 135, 3) := by decide +kernel
theorem dX12_init_342 : decode cX12_init 342 = .ok (.aload_n 0, 1) := by decide +kernel
theorem dX12_init_343 : decode cX12_init 343 = .ok (.bipush 60, 2) := by decide +kernel
theorem dX12_init_345 : decode cX12_init 345 = .ok (.newarray .int, 2) := by decide +kernel
theorem dX12_init_347 : decode cX12_init 347 = .ok (.putfield 138, 3) := by decide +kernel
theorem dX12_init_350 : decode cX12_init 350 = .ok (.aload_n 0, 1) := by decide +kernel
theorem dX12_init_351 : decode cX12_init 351 = .ok (.bipush 60, 2) := by decide +kernel
theorem dX12_init_353 : decode cX12_init 353 = .ok (.newarray .boolean, 2) := by decide +kernel
theorem dX12_init_355 : decode cX12_init 355 = .ok (.putfield 141, 3) := by decide +kernel
theorem dX12_init_358 : decode cX12_init 358 = .ok (.aload_n 0, 1) := by decide +kernel
theorem dX12_init_359 : decode cX12_init 359 = .ok (.invokevirtual 144, 3) := by decide +kernel
theorem dX12_init_362 : decode cX12_init 362 = .ok (.istore_n 1, 1) := by decide +kernel
theorem dX12_init_363 : decode cX12_init 363 = .ok (.return_, 1) := by decide +kernel
theorem dX12_thrown_0 : decode cX12_thrown 0 = .ok (.aload_n 0, 1) := by decide +kernel
theorem dX12_thrown_1 : decode cX12_thrown 1 = .ok (.getfield 148, 3) := by decide +kernel
theorem dX12_thrown_4 : decode cX12_thrown 4 = .ok (.ireturn, 1) := by decide +kernel
theorem dX12_host_0 : decode cX12_host 0 = .ok (.aload_n 0, 1) := by decide +kernel
theorem dX12_host_1 : decode cX12_host 1 = .ok (.dup, 1) := by decide +kernel
theorem dX12_host_2 : decode cX12_host 2 = .ok (.getfield 152, 3) := by decide +kernel
theorem dX12_host_5 : decode cX12_host 5 = .ok (.iconst 1, 1) := by decide +kernel
theorem dX12_host_6 : decode cX12_host 6 = .ok (.iadd, 1) := by decide +kernel
theorem dX12_host_7 : decode cX12_host 7 = .ok (.putfield 152, 3) := by decide +kernel
theorem dX12_host_10 : decode cX12_host 10 = .ok (.iload_n 1, 1) := by decide +kernel
theorem dX12_host_11 : decode cX12_host 11 = .ok (.ireturn, 1) := by decide +kernel
theorem dX12_isIn_0 : decode cX12_isIn 0 = .ok (.iload_n 0, 1) := by decide +kernel
theorem dX12_isIn_1 : decode cX12_isIn 1 = .ok (.iload_n 1, 1) := by decide +kernel
theorem dX12_isIn_2 : decode cX12_isIn 2 = .ok (.if_icmp .lt 12, 3) := by decide +kernel
theorem dX12_isIn_5 : decode cX12_isIn 5 = .ok (.iload_n 0, 1) := by decide +kernel
theorem dX12_isIn_6 : decode cX12_isIn 6 = .ok (.iload_n 2, 1) := by decide +kernel
theorem dX12_isIn_7 : decode cX12_isIn 7 = .ok (.if_icmp .gt 7, 3) := by decide +kernel
theorem dX12_isIn_10 : decode cX12_isIn 10 = .ok (.iconst 1, 1) := by decide +kernel
theorem dX12_isIn_11 : decode cX12_isIn 11 = .ok (.goto 4, 3) := by decide +kernel
theorem dX12_isIn_14 : decode cX12_isIn 14 = .ok (.iconst 0, 1) := by decide +kernel
theorem dX12_isIn_15 : decode cX12_isIn 15 = .ok (.ireturn, 1) := by decide +kernel
theorem dX12_begin_0 : decode cX12_begin 0 = .ok (.aload_n 0, 1) := by decide +kernel
theorem dX12_begin_1 : decode cX12_begin 1 = .ok (.iconst 0, 1) := by decide +kernel
theorem dX12_begin_2 : decode cX12_begin 2 = .ok (.putfield 155, 3) := by decide +kernel
theorem dX12_begin_5 : decode cX12_begin 5 = .ok (.iconst 0, 1) := by decide +kernel
theorem dX12_begin_6 : decode cX12_begin 6 = .ok (.istore_n 1, 1) := by decide +kernel
theorem dX12_begin_7 : decode cX12_begin 7 = .ok (.iload_n 1, 1) := by decide +kernel
theorem dX12_begin_8 : decode cX12_begin 8 = .ok (.sipush 1024, 3) := by decide +kernel
theorem dX12_begin_11 : decode cX12_begin 11 = .ok (.if_icmp .ge 16, 3) := by decide +kernel
theorem dX12_begin_14 : decode cX12_begin 14 = .ok (.aload_n 0, 1) := by decide +kernel
theorem dX12_begin_15 : decode cX12_begin 15 = .ok (.getfield 9, 3) := by decide +kernel
theorem dX12_begin_18 : decode cX12_begin 18 = .ok (.iload_n 1, 1) := by decide +kernel
theorem dX12_begin_19 : decode cX12_begin 19 = .ok (.iconst 0, 1) := by decide +kernel
theorem dX12_begin_20 : decode cX12_begin 20 = .ok (.iastore, 1) := by decide +kernel
theorem dX12_begin_21 : decode cX12_begin 21 = .ok (.iinc 1 1, 3) := by decide +kernel
theorem dX12_begin_24 : decode cX12_begin 24 = .ok (.goto (-17), 3) := by decide +kernel
theorem dX12_begin_27 : decode cX12_begin 27 = .ok (.iconst 0, 1) := by decide +kernel
theorem dX12_begin_28 : decode cX12_begin 28 = .ok (.istore_n 1, 1) := by decide +kernel
theorem dX12_begin_29 : decode cX12_begin 29 = .ok (.iload_n 1, 1) := by decide +kernel
theorem dX12_begin_30 : decode cX12_begin 30 = .ok (.bipush 12, 2) := by decide +kernel
theorem dX12_begin_32 : decode cX12_begin 32 = .ok (.if_icmp .ge 16, 3) := by decide +kernel
theorem dX12_begin_35 : decode cX12_begin 35 = .ok (.aload_n 0, 1) := by decide +kernel
theorem dX12_begin_36 : decode cX12_begin 36 = .ok (.getfield 13, 3) := by decide +kernel
theorem dX12_begin_39 : decode cX12_begin 39 = .ok (.iload_n 1, 1) := by decide +kernel
theorem dX12_begin_40 : decode cX12_begin 40 = .ok (.iconst 0, 1) := by decide +kernel
theorem dX12_begin_41 : decode cX12_begin 41 = .ok (.iastore, 1) := by decide +kernel
theorem dX12_begin_42 : decode cX12_begin 42 = .ok (.iinc 1 1, 3) := by decide +kernel
theorem dX12_begin_45 : decode cX12_begin 45 = .ok (.goto (-16), 3) := by decide +kernel
theorem dX12_begin_48 : decode cX12_begin 48 = .ok (.iconst 0, 1) := by decide +kernel
theorem dX12_begin_49 : decode cX12_begin 49 = .ok (.istore_n 1, 1) := by decide +kernel
theorem dX12_begin_50 : decode cX12_begin 50 = .ok (.iload_n 1, 1) := by decide +kernel
theorem dX12_begin_51 : decode cX12_begin 51 = .ok (.bipush 6, 2) := by decide +kernel
theorem dX12_begin_53 : decode cX12_begin 53 = .ok (.if_icmp .ge 16, 3) := by decide +kernel
theorem dX12_begin_56 : decode cX12_begin 56 = .ok (.aload_n 0, 1) := by decide +kernel
theorem dX12_begin_57 : decode cX12_begin 57 = .ok (.getfield 37, 3) := by decide +kernel
theorem dX12_begin_60 : decode cX12_begin 60 = .ok (.iload_n 1, 1) := by decide +kernel
theorem dX12_begin_61 : decode cX12_begin 61 = .ok (.iconst 0, 1) := by decide +kernel
theorem dX12_begin_62 : decode cX12_begin 62 = .ok (.iastore, 1) := by decide +kernel
theorem dX12_begin_63 : decode cX12_begin 63 = .ok (.iinc 1 1, 3) := by decide +kernel
theorem dX12_begin_66 : decode cX12_begin 66 = .ok (.goto (-16), 3) := by decide +kernel
theorem dX12_begin_69 : decode cX12_begin 69 = .ok (.iconst 0, 1) := by decide +kernel
theorem dX12_begin_70 : decode cX12_begin 70 = .ok (.istore_n 1, 1) := by decide +kernel
theorem dX12_begin_71 : decode cX12_begin 71 = .ok (.iload_n 1, 1) := by decide +kernel
theorem dX12_begin_72 : decode cX12_begin 72 = .ok (.bipush 20, 2) := by decide +kernel
theorem dX12_begin_74 : decode cX12_begin 74 = .ok (.if_icmp .ge 23, 3) := by decide +kernel
theorem dX12_begin_77 : decode cX12_begin 77 = .ok (.aload_n 0, 1) := by decide +kernel
theorem dX12_begin_78 : decode cX12_begin 78 = .ok (.getfield 40, 3) := by decide +kernel
theorem dX12_begin_81 : decode cX12_begin 81 = .ok (.iload_n 1, 1) := by decide +kernel
theorem dX12_begin_82 : decode cX12_begin 82 = .ok (.iconst 0, 1) := by decide +kernel
theorem dX12_begin_83 : decode cX12_begin 83 = .ok (.iastore, 1) := by decide +kernel
theorem dX12_begin_84 : decode cX12_begin 84 = .ok (.aload_n 0, 1) := by decide +kernel
theorem dX12_begin_85 : decode cX12_begin 85 = .ok (.getfield 43, 3) := by decide +kernel
theorem dX12_begin_88 : decode cX12_begin 88 = .ok (.iload_n 1, 1) := by decide +kernel
theorem dX12_begin_89 : decode cX12_begin 89 = .ok (.iconst 0, 1) := by decide +kernel
theorem dX12_begin_90 : decode cX12_begin 90 = .ok (.iastore, 1) := by decide +kernel
theorem dX12_begin_91 : decode cX12_begin 91 = .ok (.iinc 1 1, 3) := by decide +kernel
theorem dX12_begin_94 : decode cX12_begin 94 = .ok (.goto (-23), 3) := by decide +kernel
theorem dX12_begin_97 : decode cX12_begin 97 = .ok (.aload_n 0, 1) := by decide +kernel
theorem dX12_begin_98 : decode cX12_begin 98 = .ok (.iconst 0, 1) := by decide +kernel
theorem dX12_begin_99 : decode cX12_begin 99 = .ok (.putfield 159, 3) := by decide +kernel
theorem dX12_begin_102 : decode cX12_begin 102 = .ok (.aload_n 0, 1) := by decide +kernel
theorem dX12_begin_103 : decode cX12_begin 103 = .ok (.iconst 0, 1) := by decide +kernel
theorem dX12_begin_104 : decode cX12_begin 104 = .ok (.putfield 162, 3) := by decide +kernel
theorem dX12_begin_107 : decode cX12_begin 107 = .ok (.aload_n 0, 1) := by decide +kernel
theorem dX12_begin_108 : decode cX12_begin 108 = .ok (.iconst 0, 1) := by decide +kernel
theorem dX12_begin_109 : decode cX12_begin 109 = .ok (.putfield 165, 3) := by decide +kernel
theorem dX12_begin_112 : decode cX12_begin 112 = .ok (.aload_n 0, 1) := by decide +kernel
theorem dX12_begin_113 : decode cX12_begin 113 = .ok (.iconst (-1), 1) := by decide +kernel
theorem dX12_begin_114 : decode cX12_begin 114 = .ok (.putfield 168, 3) := by decide +kernel
theorem dX12_begin_117 : decode cX12_begin 117 = .ok (.aload_n 0, 1) := by decide +kernel
theorem dX12_begin_118 : decode cX12_begin 118 = .ok (.iconst 0, 1) := by decide +kernel
theorem dX12_begin_119 : decode cX12_begin 119 = .ok (.putfield 171, 3) := by decide +kernel
theorem dX12_begin_122 : decode cX12_begin 122 = .ok (.aload_n 0, 1) := by decide +kernel
theorem dX12_begin_123 : decode cX12_begin 123 = .ok (.iconst 0, 1) := by decide +kernel
theorem dX12_begin_124 : decode cX12_begin 124 = .ok (.putfield 152, 3) := by decide +kernel
theorem dX12_begin_127 : decode cX12_begin 127 = .ok (.aload_n 0, 1) := by decide +kernel
theorem dX12_begin_128 : decode cX12_begin 128 = .ok (.iconst 2, 1) := by decide +kernel
theorem dX12_begin_129 : decode cX12_begin 129 = .ok (.putfield 174, 3) := by decide +kernel
theorem dX12_begin_132 : decode cX12_begin 132 = .ok (.iconst 0, 1) := by decide +kernel
theorem dX12_begin_133 : decode cX12_begin 133 = .ok (.ireturn, 1) := by decide +kernel
theorem dX12_cell_0 : decode cX12_cell 0 = .ok (.aload_n 0, 1) := by decide +kernel
theorem dX12_cell_1 : decode cX12_cell 1 = .ok (.iconst 0, 1) := by decide +kernel
theorem dX12_cell_2 : decode cX12_cell 2 = .ok (.putfield 155, 3) := by decide +kernel
theorem dX12_cell_5 : decode cX12_cell 5 = .ok (.iload_n 1, 1) := by decide +kernel
theorem dX12_cell_6 : decode cX12_cell 6 = .ok (.iconst 0, 1) := by decide +kernel
theorem dX12_cell_7 : decode cX12_cell 7 = .ok (.bipush 31, 2) := by decide +kernel
theorem dX12_cell_9 : decode cX12_cell 9 = .ok (.invokestatic 177, 3) := by decide +kernel
theorem dX12_cell_12 : decode cX12_cell 12 = .ok (.ifCond .eq 22, 3) := by decide +kernel
theorem dX12_cell_15 : decode cX12_cell 15 = .ok (.iload_n 2, 1) := by decide +kernel
theorem dX12_cell_16 : decode cX12_cell 16 = .ok (.iconst 0, 1) := by decide +kernel
theorem dX12_cell_17 : decode cX12_cell 17 = .ok (.bipush 31, 2) := by decide +kernel
theorem dX12_cell_19 : decode cX12_cell 19 = .ok (.invokestatic 177, 3) := by decide +kernel
theorem dX12_cell_22 : decode cX12_cell 22 = .ok (.ifCond .eq 12, 3) := by decide +kernel
theorem dX12_cell_25 : decode cX12_cell 25 = .ok (.iload_n 3, 1) := by decide +kernel
theorem dX12_cell_26 : decode cX12_cell 26 = .ok (.iconst 0, 1) := by decide +kernel
theorem dX12_cell_27 : decode cX12_cell 27 = .ok (.iconst 2, 1) := by decide +kernel
theorem dX12_cell_28 : decode cX12_cell 28 = .ok (.invokestatic 177, 3) := by decide +kernel
theorem dX12_cell_31 : decode cX12_cell 31 = .ok (.ifCond .ne 5, 3) := by decide +kernel
theorem dX12_cell_34 : decode cX12_cell 34 = .ok (.iconst (-1), 1) := by decide +kernel
theorem dX12_cell_35 : decode cX12_cell 35 = .ok (.ireturn, 1) := by decide +kernel
theorem dX12_cell_36 : decode cX12_cell 36 = .ok (.aload_n 0, 1) := by decide +kernel
theorem dX12_cell_37 : decode cX12_cell 37 = .ok (.getfield 9, 3) := by decide +kernel
theorem dX12_cell_40 : decode cX12_cell 40 = .ok (.bipush 32, 2) := by decide +kernel
theorem dX12_cell_42 : decode cX12_cell 42 = .ok (.iload_n 2, 1) := by decide +kernel
theorem dX12_cell_43 : decode cX12_cell 43 = .ok (.imul, 1) := by decide +kernel
theorem dX12_cell_44 : decode cX12_cell 44 = .ok (.iload_n 1, 1) := by decide +kernel
theorem dX12_cell_45 : decode cX12_cell 45 = .ok (.iadd, 1) := by decide +kernel
theorem dX12_cell_46 : decode cX12_cell 46 = .ok (.iaload, 1) := by decide +kernel
theorem dX12_cell_47 : decode cX12_cell 47 = .ok (.istore 4, 2) := by decide +kernel
theorem dX12_cell_49 : decode cX12_cell 49 = .ok (.aload_n 0, 1) := by decide +kernel
theorem dX12_cell_50 : decode cX12_cell 50 = .ok (.getfield 9, 3) := by decide +kernel
theorem dX12_cell_53 : decode cX12_cell 53 = .ok (.bipush 32, 2) := by decide +kernel
theorem dX12_cell_55 : decode cX12_cell 55 = .ok (.iload_n 2, 1) := by decide +kernel
theorem dX12_cell_56 : decode cX12_cell 56 = .ok (.imul, 1) := by decide +kernel
theorem dX12_cell_57 : decode cX12_cell 57 = .ok (.iload_n 1, 1) := by decide +kernel
theorem dX12_cell_58 : decode cX12_cell 58 = .ok (.iadd, 1) := by decide +kernel
theorem dX12_cell_59 : decode cX12_cell 59 = .ok (.iload_n 3, 1) := by decide +kernel
theorem dX12_cell_60 : decode cX12_cell 60 = .ok (.iastore, 1) := by decide +kernel
theorem dX12_cell_61 : decode cX12_cell 61 = .ok (.iload 4, 2) := by decide +kernel
theorem dX12_cell_63 : decode cX12_cell 63 = .ok (.ireturn, 1) := by decide +kernel
theorem dX12_isKind_0 : decode cX12_isKind 0 = .ok (.iload_n 1, 1) := by decide +kernel
theorem dX12_isKind_1 : decode cX12_isKind 1 = .ok (.iconst 0, 1) := by decide +kernel
theorem dX12_isKind_2 : decode cX12_isKind 2 = .ok (.bipush 11, 2) := by decide +kernel
theorem dX12_isKind_4 : decode cX12_isKind 4 = .ok (.invokestatic 177, 3) := by decide +kernel
theorem dX12_isKind_7 : decode cX12_isKind 7 = .ok (.ifCond .eq 16, 3) := by decide +kernel
theorem dX12_isKind_10 : decode cX12_isKind 10 = .ok (.aload_n 0, 1) := by decide +kernel
theorem dX12_isKind_11 : decode cX12_isKind 11 = .ok (.getfield 13, 3) := by decide +kernel
theorem dX12_isKind_14 : decode cX12_isKind 14 = .ok (.iload_n 1, 1) := by decide +kernel
theorem dX12_isKind_15 : decode cX12_isKind 15 = .ok (.iaload, 1) := by decide +kernel
theorem dX12_isKind_16 : decode cX12_isKind 16 = .ok (.ifCond .le 7, 3) := by decide +kernel
theorem dX12_isKind_19 : decode cX12_isKind 19 = .ok (.iconst 1, 1) := by decide +kernel
theorem dX12_isKind_20 : decode cX12_isKind 20 = .ok (.goto 4, 3) := by decide +kernel
theorem dX12_isKind_23 : decode cX12_isKind 23 = .ok (.iconst 0, 1) := by decide +kernel
theorem dX12_isKind_24 : decode cX12_isKind 24 = .ok (.ireturn, 1) := by decide +kernel
theorem dX12_isBarge_0 : decode cX12_isBarge 0 = .ok (.iload_n 1, 1) := by decide +kernel
theorem dX12_isBarge_1 : decode cX12_isBarge 1 = .ok (.iconst 0, 1) := by decide +kernel
theorem dX12_isBarge_2 : decode cX12_isBarge 2 = .ok (.iconst 5, 1) := by decide +kernel
theorem dX12_isBarge_3 : decode cX12_isBarge 3 = .ok (.invokestatic 177, 3) := by decide +kernel
theorem dX12_isBarge_6 : decode cX12_isBarge 6 = .ok (.ifCond .eq 16, 3) := by decide +kernel
theorem dX12_isBarge_9 : decode cX12_isBarge 9 = .ok (.aload_n 0, 1) := by decide +kernel
theorem dX12_isBarge_10 : decode cX12_isBarge 10 = .ok (.getfield 37, 3) := by decide +kernel
theorem dX12_isBarge_13 : decode cX12_isBarge 13 = .ok (.iload_n 1, 1) := by decide +kernel
theorem dX12_isBarge_14 : decode cX12_isBarge 14 = .ok (.iaload, 1) := by decide +kernel
theorem dX12_isBarge_15 : decode cX12_isBarge 15 = .ok (.ifCond .le 7, 3) := by decide +kernel
theorem dX12_isBarge_18 : decode cX12_isBarge 18 = .ok (.iconst 1, 1) := by decide +kernel
theorem dX12_isBarge_19 : decode cX12_isBarge 19 = .ok (.goto 4, 3) := by decide +kernel
theorem dX12_isBarge_22 : decode cX12_isBarge 22 = .ok (.iconst 0, 1) := by decide +kernel
theorem dX12_isBarge_23 : decode cX12_isBarge 23 = .ok (.ireturn, 1) := by decide +kernel
theorem dX12_isCue_0 : decode cX12_isCue 0 = .ok (.iload_n 1, 1) := by decide +kernel
theorem dX12_isCue_1 : decode cX12_isCue 1 = .ok (.iconst 0, 1) := by decide +kernel
theorem dX12_isCue_2 : decode cX12_isCue 2 = .ok (.aload_n 0, 1) := by decide +kernel
theorem dX12_isCue_3 : decode cX12_isCue 3 = .ok (.getfield 159, 3) := by decide +kernel
theorem dX12_isCue_6 : decode cX12_isCue 6 = .ok (.iconst 1, 1) := by decide +kernel
theorem dX12_isCue_7 : decode cX12_isCue 7 = .ok (.isub, 1) := by decide +kernel
theorem dX12_isCue_8 : decode cX12_isCue 8 = .ok (.invokestatic 177, 3) := by decide +kernel
theorem dX12_isCue_11 : decode cX12_isCue 11 = .ok (.ireturn, 1) := by decide +kernel
theorem dX12_kind_0 : decode cX12_kind 0 = .ok (.aload_n 0, 1) := by decide +kernel
theorem dX12_kind_1 : decode cX12_kind 1 = .ok (.iconst 0, 1) := by decide +kernel
theorem dX12_kind_2 : decode cX12_kind 2 = .ok (.putfield 155, 3) := by decide +kernel
theorem dX12_kind_5 : decode cX12_kind 5 = .ok (.iload_n 1, 1) := by decide +kernel
theorem dX12_kind_6 : decode cX12_kind 6 = .ok (.iconst 0, 1) := by decide +kernel
theorem dX12_kind_7 : decode cX12_kind 7 = .ok (.bipush 11, 2) := by decide +kernel
theorem dX12_kind_9 : decode cX12_kind 9 = .ok (.invokestatic 177, 3) := by decide +kernel
theorem dX12_kind_12 : decode cX12_kind 12 = .ok (.ifCond .eq 36, 3) := by decide +kernel
theorem dX12_kind_15 : decode cX12_kind 15 = .ok (.iload_n 2, 1) := by decide +kernel
theorem dX12_kind_16 : decode cX12_kind 16 = .ok (.iconst 1, 1) := by decide +kernel
theorem dX12_kind_17 : decode cX12_kind 17 = .ok (.bipush 60, 2) := by decide +kernel
theorem dX12_kind_19 : decode cX12_kind 19 = .ok (.invokestatic 177, 3) := by decide +kernel
theorem dX12_kind_22 : decode cX12_kind 22 = .ok (.ifCond .eq 26, 3) := by decide +kernel
theorem dX12_kind_25 : decode cX12_kind 25 = .ok (.iload_n 3, 1) := by decide +kernel
theorem dX12_kind_26 : decode cX12_kind 26 = .ok (.bipush 10, 2) := by decide +kernel
theorem dX12_kind_28 : decode cX12_kind 28 = .ok (.sipush 300, 3) := by decide +kernel
theorem dX12_kind_31 : decode cX12_kind 31 = .ok (.invokestatic 177, 3) := by decide +kernel
theorem dX12_kind_34 : decode cX12_kind 34 = .ok (.ifCond .eq 14, 3) := by decide +kernel
theorem dX12_kind_37 : decode cX12_kind 37 = .ok (.iload 4, 2) := by decide +kernel
theorem dX12_kind_39 : decode cX12_kind 39 = .ok (.iconst 0, 1) := by decide +kernel
theorem dX12_kind_40 : decode cX12_kind 40 = .ok (.bipush 60, 2) := by decide +kernel
theorem dX12_kind_42 : decode cX12_kind 42 = .ok (.invokestatic 177, 3) := by decide +kernel
theorem dX12_kind_45 : decode cX12_kind 45 = .ok (.ifCond .ne 5, 3) := by decide +kernel
theorem dX12_kind_48 : decode cX12_kind 48 = .ok (.iconst (-1), 1) := by decide +kernel
theorem dX12_kind_49 : decode cX12_kind 49 = .ok (.ireturn, 1) := by decide +kernel
theorem dX12_kind_50 : decode cX12_kind 50 = .ok (.iload 5, 2) := by decide +kernel
theorem dX12_kind_52 : decode cX12_kind 52 = .ok (.iconst 0, 1) := by decide +kernel
theorem dX12_kind_53 : decode cX12_kind 53 = .ok (.ldc 181, 2) := by decide +kernel
theorem dX12_kind_55 : decode cX12_kind 55 = .ok (.invokestatic 177, 3) := by decide +kernel
theorem dX12_kind_58 : decode cX12_kind 58 = .ok (.ifCond .eq 45, 3) := by decide +kernel
theorem dX12_kind_61 : decode cX12_kind 61 = .ok (.iload 5, 2) := by decide +kernel
theorem dX12_kind_63 : decode cX12_kind 63 = .ok (.sipush 1000, 3) := by decide +kernel
theorem dX12_kind_66 : decode cX12_kind 66 = .ok (.idiv, 1) := by decide +kernel
theorem dX12_kind_67 : decode cX12_kind 67 = .ok (.iconst 1, 1) := by decide +kernel
theorem dX12_kind_68 : decode cX12_kind 68 = .ok (.bipush 99, 2) := by decide +kernel
theorem dX12_kind_70 : decode cX12_kind 70 = .ok (.invokestatic 177, 3) := by decide +kernel
theorem dX12_kind_73 : decode cX12_kind 73 = .ok (.ifCond .eq 30, 3) := by decide +kernel
theorem dX12_kind_76 : decode cX12_kind 76 = .ok (.iload 5, 2) := by decide +kernel
theorem dX12_kind_78 : decode cX12_kind 78 = .ok (.sipush 1000, 3) := by decide +kernel
theorem dX12_kind_81 : decode cX12_kind 81 = .ok (.irem, 1) := by decide +kernel
theorem dX12_kind_82 : decode cX12_kind 82 = .ok (.bipush 10, 2) := by decide +kernel
theorem dX12_kind_84 : decode cX12_kind 84 = .ok (.idiv, 1) := by decide +kernel
theorem dX12_kind_85 : decode cX12_kind 85 = .ok (.iconst 1, 1) := by decide +kernel
theorem dX12_kind_86 : decode cX12_kind 86 = .ok (.bipush 9, 2) := by decide +kernel
theorem dX12_kind_88 : decode cX12_kind 88 = .ok (.invokestatic 177, 3) := by decide +kernel
theorem dX12_kind_91 : decode cX12_kind 91 = .ok (.ifCond .eq 12, 3) := by decide +kernel
theorem dX12_kind_94 : decode cX12_kind 94 = .ok (.iload 5, 2) := by decide +kernel
theorem dX12_kind_96 : decode cX12_kind 96 = .ok (.bipush 10, 2) := by decide +kernel
theorem dX12_kind_98 : decode cX12_kind 98 = .ok (.irem, 1) := by decide +kernel
theorem dX12_kind_99 : decode cX12_kind 99 = .ok (.iconst 5, 1) := by decide +kernel
theorem dX12_kind_100 : decode cX12_kind 100 = .ok (.if_icmp .le 5, 3) := by decide +kernel
theorem dX12_kind_103 : decode cX12_kind 103 = .ok (.iconst (-1), 1) := by decide +kernel
theorem dX12_kind_104 : decode cX12_kind 104 = .ok (.ireturn, 1) := by decide +kernel
theorem dX12_kind_105 : decode cX12_kind 105 = .ok (.iconst 0, 1) := by decide +kernel
theorem dX12_kind_106 : decode cX12_kind 106 = .ok (.istore 6, 2) := by decide +kernel
theorem dX12_kind_108 : decode cX12_kind 108 = .ok (.iload 6, 2) := by decide +kernel
theorem dX12_kind_110 : decode cX12_kind 110 = .ok (.aload_n 0, 1) := by decide +kernel
theorem dX12_kind_111 : decode cX12_kind 111 = .ok (.getfield 159, 3) := by decide +kernel
theorem dX12_kind_114 : decode cX12_kind 114 = .ok (.if_icmp .ge 34, 3) := by decide +kernel
theorem dX12_kind_117 : decode cX12_kind 117 = .ok (.aload_n 0, 1) := by decide +kernel
theorem dX12_kind_118 : decode cX12_kind 118 = .ok (.getfield 49, 3) := by decide +kernel
theorem dX12_kind_121 : decode cX12_kind 121 = .ok (.iload 6, 2) := by decide +kernel
theorem dX12_kind_123 : decode cX12_kind 123 = .ok (.iaload, 1) := by decide +kernel
theorem dX12_kind_124 : decode cX12_kind 124 = .ok (.iload_n 1, 1) := by decide +kernel
theorem dX12_kind_125 : decode cX12_kind 125 = .ok (.if_icmp .ne 17, 3) := by decide +kernel
theorem dX12_kind_128 : decode cX12_kind 128 = .ok (.aload_n 0, 1) := by decide +kernel
theorem dX12_kind_129 : decode cX12_kind 129 = .ok (.getfield 46, 3) := by decide +kernel
theorem dX12_kind_132 : decode cX12_kind 132 = .ok (.iload 6, 2) := by decide +kernel
theorem dX12_kind_134 : decode cX12_kind 134 = .ok (.iaload, 1) := by decide +kernel
theorem dX12_kind_135 : decode cX12_kind 135 = .ok (.iload_n 2, 1) := by decide +kernel
theorem dX12_kind_136 : decode cX12_kind 136 = .ok (.if_icmp .ge 6, 3) := by decide +kernel
theorem dX12_kind_139 : decode cX12_kind 139 = .ok (.bipush (-5), 2) := by decide +kernel
theorem dX12_kind_141 : decode cX12_kind 141 = .ok (.ireturn, 1) := by decide +kernel
theorem dX12_kind_142 : decode cX12_kind 142 = .ok (.iinc 6 1, 3) := by decide +kernel
theorem dX12_kind_145 : decode cX12_kind 145 = .ok (.goto (-37), 3) := by decide +kernel
theorem dX12_kind_148 : decode cX12_kind 148 = .ok (.aload_n 0, 1) := by decide +kernel
theorem dX12_kind_149 : decode cX12_kind 149 = .ok (.getfield 13, 3) := by decide +kernel
theorem dX12_kind_152 : decode cX12_kind 152 = .ok (.iload_n 1, 1) := by decide +kernel
theorem dX12_kind_153 : decode cX12_kind 153 = .ok (.iload_n 2, 1) := by decide +kernel
theorem dX12_kind_154 : decode cX12_kind 154 = .ok (.iastore, 1) := by decide +kernel
theorem dX12_kind_155 : decode cX12_kind 155 = .ok (.aload_n 0, 1) := by decide +kernel
theorem dX12_kind_156 : decode cX12_kind 156 = .ok (.getfield 16, 3) := by decide +kernel
theorem dX12_kind_159 : decode cX12_kind 159 = .ok (.iload_n 1, 1) := by decide +kernel
theorem dX12_kind_160 : decode cX12_kind 160 = .ok (.iload_n 3, 1) := by decide +kernel
theorem dX12_kind_161 : decode cX12_kind 161 = .ok (.iastore, 1) := by decide +kernel
theorem dX12_kind_162 : decode cX12_kind 162 = .ok (.aload_n 0, 1) := by decide +kernel
theorem dX12_kind_163 : decode cX12_kind 163 = .ok (.getfield 19, 3) := by decide +kernel
theorem dX12_kind_166 : decode cX12_kind 166 = .ok (.iload_n 1, 1) := by decide +kernel
theorem dX12_kind_167 : decode cX12_kind 167 = .ok (.iload 4, 2) := by decide +kernel
theorem dX12_kind_169 : decode cX12_kind 169 = .ok (.iastore, 1) := by decide +kernel
theorem dX12_kind_170 : decode cX12_kind 170 = .ok (.aload_n 0, 1) := by decide +kernel
theorem dX12_kind_171 : decode cX12_kind 171 = .ok (.getfield 22, 3) := by decide +kernel
theorem dX12_kind_174 : decode cX12_kind 174 = .ok (.iload_n 1, 1) := by decide +kernel
theorem dX12_kind_175 : decode cX12_kind 175 = .ok (.iload 5, 2) := by decide +kernel
theorem dX12_kind_177 : decode cX12_kind 177 = .ok (.sipush 1000, 3) := by decide +kernel
theorem dX12_kind_180 : decode cX12_kind 180 = .ok (.idiv, 1) := by decide +kernel
theorem dX12_kind_181 : decode cX12_kind 181 = .ok (.iastore, 1) := by decide +kernel
theorem dX12_kind_182 : decode cX12_kind 182 = .ok (.aload_n 0, 1) := by decide +kernel
theorem dX12_kind_183 : decode cX12_kind 183 = .ok (.getfield 25, 3) := by decide +kernel
theorem dX12_kind_186 : decode cX12_kind 186 = .ok (.iload_n 1, 1) := by decide +kernel
theorem dX12_kind_187 : decode cX12_kind 187 = .ok (.iload 5, 2) := by decide +kernel
theorem dX12_kind_189 : decode cX12_kind 189 = .ok (.sipush 1000, 3) := by decide +kernel
theorem dX12_kind_192 : decode cX12_kind 192 = .ok (.irem, 1) := by decide +kernel
theorem dX12_kind_193 : decode cX12_kind 193 = .ok (.bipush 10, 2) := by decide +kernel
theorem dX12_kind_195 : decode cX12_kind 195 = .ok (.idiv, 1) := by decide +kernel
theorem dX12_kind_196 : decode cX12_kind 196 = .ok (.iastore, 1) := by decide +kernel
theorem dX12_kind_197 : decode cX12_kind 197 = .ok (.aload_n 0, 1) := by decide +kernel
theorem dX12_kind_198 : decode cX12_kind 198 = .ok (.getfield 28, 3) := by decide +kernel
theorem dX12_kind_201 : decode cX12_kind 201 = .ok (.iload_n 1, 1) := by decide +kernel
theorem dX12_kind_202 : decode cX12_kind 202 = .ok (.iload 5, 2) := by decide +kernel
theorem dX12_kind_204 : decode cX12_kind 204 = .ok (.bipush 10, 2) := by decide +kernel
theorem dX12_kind_206 : decode cX12_kind 206 = .ok (.irem, 1) := by decide +kernel
theorem dX12_kind_207 : decode cX12_kind 207 = .ok (.iastore, 1) := by decide +kernel
theorem dX12_kind_208 : decode cX12_kind 208 = .ok (.iload_n 1, 1) := by decide +kernel
theorem dX12_kind_209 : decode cX12_kind 209 = .ok (.ireturn, 1) := by decide +kernel
theorem dX12_barge_0 : decode cX12_barge 0 = .ok (.aload_n 0, 1) := by decide +kernel
theorem dX12_barge_1 : decode cX12_barge 1 = .ok (.iconst 0, 1) := by decide +kernel
theorem dX12_barge_2 : decode cX12_barge 2 = .ok (.putfield 155, 3) := by decide +kernel
theorem dX12_barge_5 : decode cX12_barge 5 = .ok (.iload_n 1, 1) := by decide +kernel
theorem dX12_barge_6 : decode cX12_barge 6 = .ok (.iconst 0, 1) := by decide +kernel
theorem dX12_barge_7 : decode cX12_barge 7 = .ok (.iconst 5, 1) := by decide +kernel
theorem dX12_barge_8 : decode cX12_barge 8 = .ok (.invokestatic 177, 3) := by decide +kernel
theorem dX12_barge_11 : decode cX12_barge 11 = .ok (.ifCond .eq 34, 3) := by decide +kernel
theorem dX12_barge_14 : decode cX12_barge 14 = .ok (.iload_n 2, 1) := by decide +kernel
theorem dX12_barge_15 : decode cX12_barge 15 = .ok (.iconst 0, 1) := by decide +kernel
theorem dX12_barge_16 : decode cX12_barge 16 = .ok (.bipush 31, 2) := by decide +kernel
theorem dX12_barge_18 : decode cX12_barge 18 = .ok (.invokestatic 177, 3) := by decide +kernel
theorem dX12_barge_21 : decode cX12_barge 21 = .ok (.ifCond .eq 24, 3) := by decide +kernel
theorem dX12_barge_24 : decode cX12_barge 24 = .ok (.iload_n 3, 1) := by decide +kernel
theorem dX12_barge_25 : decode cX12_barge 25 = .ok (.iconst 0, 1) := by decide +kernel
theorem dX12_barge_26 : decode cX12_barge 26 = .ok (.bipush 31, 2) := by decide +kernel
theorem dX12_barge_28 : decode cX12_barge 28 = .ok (.invokestatic 177, 3) := by decide +kernel
theorem dX12_barge_31 : decode cX12_barge 31 = .ok (.ifCond .eq 14, 3) := by decide +kernel
theorem dX12_barge_34 : decode cX12_barge 34 = .ok (.iload 4, 2) := by decide +kernel
theorem dX12_barge_36 : decode cX12_barge 36 = .ok (.iconst 1, 1) := by decide +kernel
theorem dX12_barge_37 : decode cX12_barge 37 = .ok (.bipush 40, 2) := by decide +kernel
theorem dX12_barge_39 : decode cX12_barge 39 = .ok (.invokestatic 177, 3) := by decide +kernel
theorem dX12_barge_42 : decode cX12_barge 42 = .ok (.ifCond .ne 5, 3) := by decide +kernel
theorem dX12_barge_45 : decode cX12_barge 45 = .ok (.iconst (-1), 1) := by decide +kernel
theorem dX12_barge_46 : decode cX12_barge 46 = .ok (.ireturn, 1) := by decide +kernel
theorem dX12_barge_47 : decode cX12_barge 47 = .ok (.aload_n 0, 1) := by decide +kernel
theorem dX12_barge_48 : decode cX12_barge 48 = .ok (.getfield 31, 3) := by decide +kernel
theorem dX12_barge_51 : decode cX12_barge 51 = .ok (.iload_n 1, 1) := by decide +kernel
theorem dX12_barge_52 : decode cX12_barge 52 = .ok (.sipush 200, 3) := by decide +kernel
theorem dX12_barge_55 : decode cX12_barge 55 = .ok (.iload_n 2, 1) := by decide +kernel
theorem dX12_barge_56 : decode cX12_barge 56 = .ok (.imul, 1) := by decide +kernel
theorem dX12_barge_57 : decode cX12_barge 57 = .ok (.bipush 100, 2) := by decide +kernel
theorem dX12_barge_59 : decode cX12_barge 59 = .ok (.iadd, 1) := by decide +kernel
theorem dX12_barge_60 : decode cX12_barge 60 = .ok (.iastore, 1) := by decide +kernel
theorem dX12_barge_61 : decode cX12_barge 61 = .ok (.aload_n 0, 1) := by decide +kernel
theorem dX12_barge_62 : decode cX12_barge 62 = .ok (.getfield 34, 3) := by decide +kernel
theorem dX12_barge_65 : decode cX12_barge 65 = .ok (.iload_n 1, 1) := by decide +kernel
theorem dX12_barge_66 : decode cX12_barge 66 = .ok (.sipush 200, 3) := by decide +kernel
theorem dX12_barge_69 : decode cX12_barge 69 = .ok (.iload_n 3, 1) := by decide +kernel
theorem dX12_barge_70 : decode cX12_barge 70 = .ok (.imul, 1) := by decide +kernel
theorem dX12_barge_71 : decode cX12_barge 71 = .ok (.bipush 100, 2) := by decide +kernel
theorem dX12_barge_73 : decode cX12_barge 73 = .ok (.iadd, 1) := by decide +kernel
theorem dX12_barge_74 : decode cX12_barge 74 = .ok (.iastore, 1) := by decide +kernel
theorem dX12_barge_75 : decode cX12_barge 75 = .ok (.aload_n 0, 1) := by decide +kernel
theorem dX12_barge_76 : decode cX12_barge 76 = .ok (.getfield 37, 3) := by decide +kernel
theorem dX12_barge_79 : decode cX12_barge 79 = .ok (.iload_n 1, 1) := by decide +kernel
theorem dX12_barge_80 : decode cX12_barge 80 = .ok (.iload 4, 2) := by decide +kernel
theorem dX12_barge_82 : decode cX12_barge 82 = .ok (.iastore, 1) := by decide +kernel
theorem dX12_barge_83 : decode cX12_barge 83 = .ok (.iload_n 1, 1) := by decide +kernel
theorem dX12_barge_84 : decode cX12_barge 84 = .ok (.ireturn, 1) := by decide +kernel
theorem dX12_wind_0 : decode cX12_wind 0 = .ok (.aload_n 0, 1) := by decide +kernel
theorem dX12_wind_1 : decode cX12_wind 1 = .ok (.iconst 0, 1) := by decide +kernel
theorem dX12_wind_2 : decode cX12_wind 2 = .ok (.putfield 155, 3) := by decide +kernel
theorem dX12_wind_5 : decode cX12_wind 5 = .ok (.iload_n 1, 1) := by decide +kernel
theorem dX12_wind_6 : decode cX12_wind 6 = .ok (.iconst 0, 1) := by decide +kernel
theorem dX12_wind_7 : decode cX12_wind 7 = .ok (.iconst 3, 1) := by decide +kernel
theorem dX12_wind_8 : decode cX12_wind 8 = .ok (.invokestatic 177, 3) := by decide +kernel
theorem dX12_wind_11 : decode cX12_wind 11 = .ok (.ifCond .eq 35, 3) := by decide +kernel
theorem dX12_wind_14 : decode cX12_wind 14 = .ok (.iload_n 2, 1) := by decide +kernel
theorem dX12_wind_15 : decode cX12_wind 15 = .ok (.iconst 0, 1) := by decide +kernel
theorem dX12_wind_16 : decode cX12_wind 16 = .ok (.iconst 4, 1) := by decide +kernel
theorem dX12_wind_17 : decode cX12_wind 17 = .ok (.invokestatic 177, 3) := by decide +kernel
theorem dX12_wind_20 : decode cX12_wind 20 = .ok (.ifCond .eq 26, 3) := by decide +kernel
theorem dX12_wind_23 : decode cX12_wind 23 = .ok (.iload_n 3, 1) := by decide +kernel
theorem dX12_wind_24 : decode cX12_wind 24 = .ok (.bipush (-50), 2) := by decide +kernel
theorem dX12_wind_26 : decode cX12_wind 26 = .ok (.bipush 50, 2) := by decide +kernel
theorem dX12_wind_28 : decode cX12_wind 28 = .ok (.invokestatic 177, 3) := by decide +kernel
theorem dX12_wind_31 : decode cX12_wind 31 = .ok (.ifCond .eq 15, 3) := by decide +kernel
theorem dX12_wind_34 : decode cX12_wind 34 = .ok (.iload 4, 2) := by decide +kernel
theorem dX12_wind_36 : decode cX12_wind 36 = .ok (.bipush (-50), 2) := by decide +kernel
theorem dX12_wind_38 : decode cX12_wind 38 = .ok (.bipush 50, 2) := by decide +kernel
theorem dX12_wind_40 : decode cX12_wind 40 = .ok (.invokestatic 177, 3) := by decide +kernel
theorem dX12_wind_43 : decode cX12_wind 43 = .ok (.ifCond .ne 5, 3) := by decide +kernel
theorem dX12_wind_46 : decode cX12_wind 46 = .ok (.iconst (-1), 1) := by decide +kernel
theorem dX12_wind_47 : decode cX12_wind 47 = .ok (.ireturn, 1) := by decide +kernel
theorem dX12_wind_48 : decode cX12_wind 48 = .ok (.aload_n 0, 1) := by decide +kernel
theorem dX12_wind_49 : decode cX12_wind 49 = .ok (.getfield 40, 3) := by decide +kernel
theorem dX12_wind_52 : decode cX12_wind 52 = .ok (.iconst 5, 1) := by decide +kernel
theorem dX12_wind_53 : decode cX12_wind 53 = .ok (.iload_n 1, 1) := by decide +kernel
theorem dX12_wind_54 : decode cX12_wind 54 = .ok (.imul, 1) := by decide +kernel
theorem dX12_wind_55 : decode cX12_wind 55 = .ok (.iload_n 2, 1) := by decide +kernel
theorem dX12_wind_56 : decode cX12_wind 56 = .ok (.iadd, 1) := by decide +kernel
theorem dX12_wind_57 : decode cX12_wind 57 = .ok (.iload_n 3, 1) := by decide +kernel
theorem dX12_wind_58 : decode cX12_wind 58 = .ok (.iastore, 1) := by decide +kernel
theorem dX12_wind_59 : decode cX12_wind 59 = .ok (.aload_n 0, 1) := by decide +kernel
theorem dX12_wind_60 : decode cX12_wind 60 = .ok (.getfield 43, 3) := by decide +kernel
theorem dX12_wind_63 : decode cX12_wind 63 = .ok (.iconst 5, 1) := by decide +kernel
theorem dX12_wind_64 : decode cX12_wind 64 = .ok (.iload_n 1, 1) := by decide +kernel
theorem dX12_wind_65 : decode cX12_wind 65 = .ok (.imul, 1) := by decide +kernel
theorem dX12_wind_66 : decode cX12_wind 66 = .ok (.iload_n 2, 1) := by decide +kernel
theorem dX12_wind_67 : decode cX12_wind 67 = .ok (.iadd, 1) := by decide +kernel
theorem dX12_wind_68 : decode cX12_wind 68 = .ok (.iload 4, 2) := by decide +kernel
theorem dX12_wind_70 : decode cX12_wind 70 = .ok (.iastore, 1) := by decide +kernel
theorem dX12_wind_71 : decode cX12_wind 71 = .ok (.iconst 0, 1) := by decide +kernel
theorem dX12_wind_72 : decode cX12_wind 72 = .ok (.ireturn, 1) := by decide +kernel
theorem dX12_apart_0 : decode cX12_apart 0 = .ok (.iload_n 1, 1) := by decide +kernel
theorem dX12_apart_1 : decode cX12_apart 1 = .ok (.iconst 0, 1) := by decide +kernel
theorem dX12_apart_2 : decode cX12_apart 2 = .ok (.bipush 20, 2) := by decide +kernel
theorem dX12_apart_4 : decode cX12_apart 4 = .ok (.invokestatic 177, 3) := by decide +kernel
theorem dX12_apart_7 : decode cX12_apart 7 = .ok (.ifCond .ne 5, 3) := by decide +kernel
theorem dX12_apart_10 : decode cX12_apart 10 = .ok (.iconst (-1), 1) := by decide +kernel
theorem dX12_apart_11 : decode cX12_apart 11 = .ok (.ireturn, 1) := by decide +kernel
theorem dX12_apart_12 : decode cX12_apart 12 = .ok (.aload_n 0, 1) := by decide +kernel
theorem dX12_apart_13 : decode cX12_apart 13 = .ok (.getfield 174, 3) := by decide +kernel
theorem dX12_apart_16 : decode cX12_apart 16 = .ok (.istore_n 2, 1) := by decide +kernel
theorem dX12_apart_17 : decode cX12_apart 17 = .ok (.aload_n 0, 1) := by decide +kernel
theorem dX12_apart_18 : decode cX12_apart 18 = .ok (.iload_n 1, 1) := by decide +kernel
theorem dX12_apart_19 : decode cX12_apart 19 = .ok (.putfield 174, 3) := by decide +kernel
theorem dX12_apart_22 : decode cX12_apart 22 = .ok (.iload_n 2, 1) := by decide +kernel
theorem dX12_apart_23 : decode cX12_apart 23 = .ok (.ireturn, 1) := by decide +kernel
theorem dX12_amount_0 : decode cX12_amount 0 = .ok (.iload_n 0, 1) := by decide +kernel
theorem dX12_amount_1 : decode cX12_amount 1 = .ok (.ifCond .ge 8, 3) := by decide +kernel
theorem dX12_amount_4 : decode cX12_amount 4 = .ok (.iload_n 0, 1) := by decide +kernel
theorem dX12_amount_5 : decode cX12_amount 5 = .ok (.ineg, 1) := by decide +kernel
theorem dX12_amount_6 : decode cX12_amount 6 = .ok (.goto 4, 3) := by decide +kernel
theorem dX12_amount_9 : decode cX12_amount 9 = .ok (.iload_n 0, 1) := by decide +kernel
theorem dX12_amount_10 : decode cX12_amount 10 = .ok (.ireturn, 1) := by decide +kernel
theorem dX12_mayHold_0 : decode cX12_mayHold 0 = .ok (.iconst 0, 1) := by decide +kernel
theorem dX12_mayHold_1 : decode cX12_mayHold 1 = .ok (.istore_n 3, 1) := by decide +kernel
theorem dX12_mayHold_2 : decode cX12_mayHold 2 = .ok (.iload_n 3, 1) := by decide +kernel
theorem dX12_mayHold_3 : decode cX12_mayHold 3 = .ok (.sipush 1024, 3) := by decide +kernel
theorem dX12_mayHold_6 : decode cX12_mayHold 6 = .ok (.if_icmp .ge 97, 3) := by decide +kernel
theorem dX12_mayHold_9 : decode cX12_mayHold 9 = .ok (.sipush 200, 3) := by decide +kernel
theorem dX12_mayHold_12 : decode cX12_mayHold 12 = .ok (.iload_n 3, 1) := by decide +kernel
theorem dX12_mayHold_13 : decode cX12_mayHold 13 = .ok (.bipush 32, 2) := by decide +kernel
theorem dX12_mayHold_15 : decode cX12_mayHold 15 = .ok (.irem, 1) := by decide +kernel
theorem dX12_mayHold_16 : decode cX12_mayHold 16 = .ok (.imul, 1) := by decide +kernel
theorem dX12_mayHold_17 : decode cX12_mayHold 17 = .ok (.bipush 100, 2) := by decide +kernel
theorem dX12_mayHold_19 : decode cX12_mayHold 19 = .ok (.iadd, 1) := by decide +kernel
theorem dX12_mayHold_20 : decode cX12_mayHold 20 = .ok (.aload_n 0, 1) := by decide +kernel
theorem dX12_mayHold_21 : decode cX12_mayHold 21 = .ok (.getfield 31, 3) := by decide +kernel
theorem dX12_mayHold_24 : decode cX12_mayHold 24 = .ok (.iload_n 1, 1) := by decide +kernel
theorem dX12_mayHold_25 : decode cX12_mayHold 25 = .ok (.iaload, 1) := by decide +kernel
theorem dX12_mayHold_26 : decode cX12_mayHold 26 = .ok (.isub, 1) := by decide +kernel
theorem dX12_mayHold_27 : decode cX12_mayHold 27 = .ok (.invokestatic 182, 3) := by decide +kernel
theorem dX12_mayHold_30 : decode cX12_mayHold 30 = .ok (.iconst 5, 1) := by decide +kernel
theorem dX12_mayHold_31 : decode cX12_mayHold 31 = .ok (.aload_n 0, 1) := by decide +kernel
theorem dX12_mayHold_32 : decode cX12_mayHold 32 = .ok (.getfield 16, 3) := by decide +kernel
theorem dX12_mayHold_35 : decode cX12_mayHold 35 = .ok (.iload_n 2, 1) := by decide +kernel
theorem dX12_mayHold_36 : decode cX12_mayHold 36 = .ok (.iaload, 1) := by decide +kernel
theorem dX12_mayHold_37 : decode cX12_mayHold 37 = .ok (.imul, 1) := by decide +kernel
theorem dX12_mayHold_38 : decode cX12_mayHold 38 = .ok (.if_icmp .gt 39, 3) := by decide +kernel
theorem dX12_mayHold_41 : decode cX12_mayHold 41 = .ok (.sipush 200, 3) := by decide +kernel
theorem dX12_mayHold_44 : decode cX12_mayHold 44 = .ok (.iload_n 3, 1) := by decide +kernel
theorem dX12_mayHold_45 : decode cX12_mayHold 45 = .ok (.bipush 32, 2) := by decide +kernel
theorem dX12_mayHold_47 : decode cX12_mayHold 47 = .ok (.idiv, 1) := by decide +kernel
theorem dX12_mayHold_48 : decode cX12_mayHold 48 = .ok (.imul, 1) := by decide +kernel
theorem dX12_mayHold_49 : decode cX12_mayHold 49 = .ok (.bipush 100, 2) := by decide +kernel
theorem dX12_mayHold_51 : decode cX12_mayHold 51 = .ok (.iadd, 1) := by decide +kernel
theorem dX12_mayHold_52 : decode cX12_mayHold 52 = .ok (.aload_n 0, 1) := by decide +kernel
theorem dX12_mayHold_53 : decode cX12_mayHold 53 = .ok (.getfield 34, 3) := by decide +kernel
theorem dX12_mayHold_56 : decode cX12_mayHold 56 = .ok (.iload_n 1, 1) := by decide +kernel
theorem dX12_mayHold_57 : decode cX12_mayHold 57 = .ok (.iaload, 1) := by decide +kernel
theorem dX12_mayHold_58 : decode cX12_mayHold 58 = .ok (.isub, 1) := by decide +kernel
theorem dX12_mayHold_59 : decode cX12_mayHold 59 = .ok (.invokestatic 182, 3) := by decide +kernel
theorem dX12_mayHold_62 : decode cX12_mayHold 62 = .ok (.iconst 5, 1) := by decide +kernel
theorem dX12_mayHold_63 : decode cX12_mayHold 63 = .ok (.aload_n 0, 1) := by decide +kernel
theorem dX12_mayHold_64 : decode cX12_mayHold 64 = .ok (.getfield 16, 3) := by decide +kernel
theorem dX12_mayHold_67 : decode cX12_mayHold 67 = .ok (.iload_n 2, 1) := by decide +kernel
theorem dX12_mayHold_68 : decode cX12_mayHold 68 = .ok (.iaload, 1) := by decide +kernel
theorem dX12_mayHold_69 : decode cX12_mayHold 69 = .ok (.imul, 1) := by decide +kernel
theorem dX12_mayHold_70 : decode cX12_mayHold 70 = .ok (.if_icmp .gt 7, 3) := by decide +kernel
theorem dX12_mayHold_73 : decode cX12_mayHold 73 = .ok (.iconst 1, 1) := by decide +kernel
theorem dX12_mayHold_74 : decode cX12_mayHold 74 = .ok (.goto 4, 3) := by decide +kernel
theorem dX12_mayHold_77 : decode cX12_mayHold 77 = .ok (.iconst 0, 1) := by decide +kernel
theorem dX12_mayHold_78 : decode cX12_mayHold 78 = .ok (.istore 4, 2) := by decide +kernel
theorem dX12_mayHold_80 : decode cX12_mayHold 80 = .ok (.aload_n 0, 1) := by decide +kernel
theorem dX12_mayHold_81 : decode cX12_mayHold 81 = .ok (.getfield 9, 3) := by decide +kernel
theorem dX12_mayHold_84 : decode cX12_mayHold 84 = .ok (.iload_n 3, 1) := by decide +kernel
theorem dX12_mayHold_85 : decode cX12_mayHold 85 = .ok (.iaload, 1) := by decide +kernel
theorem dX12_mayHold_86 : decode cX12_mayHold 86 = .ok (.iconst 2, 1) := by decide +kernel
theorem dX12_mayHold_87 : decode cX12_mayHold 87 = .ok (.if_icmp .ne 10, 3) := by decide +kernel
theorem dX12_mayHold_90 : decode cX12_mayHold 90 = .ok (.iload 4, 2) := by decide +kernel
theorem dX12_mayHold_92 : decode cX12_mayHold 92 = .ok (.ifCond .eq 5, 3) := by decide +kernel
theorem dX12_mayHold_95 : decode cX12_mayHold 95 = .ok (.iconst 0, 1) := by decide +kernel
theorem dX12_mayHold_96 : decode cX12_mayHold 96 = .ok (.ireturn, 1) := by decide +kernel
theorem dX12_mayHold_97 : decode cX12_mayHold 97 = .ok (.iinc 3 1, 3) := by decide +kernel
theorem dX12_mayHold_100 : decode cX12_mayHold 100 = .ok (.goto (-98), 3) := by decide +kernel
theorem dX12_mayHold_103 : decode cX12_mayHold 103 = .ok (.iconst 1, 1) := by decide +kernel
theorem dX12_mayHold_104 : decode cX12_mayHold 104 = .ok (.ireturn, 1) := by decide +kernel
theorem dX12_may_0 : decode cX12_may 0 = .ok (.aload_n 0, 1) := by decide +kernel
theorem dX12_may_1 : decode cX12_may 1 = .ok (.iload_n 1, 1) := by decide +kernel
theorem dX12_may_2 : decode cX12_may 2 = .ok (.invokevirtual 186, 3) := by decide +kernel
theorem dX12_may_5 : decode cX12_may 5 = .ok (.ifCond .eq 11, 3) := by decide +kernel
theorem dX12_may_8 : decode cX12_may 8 = .ok (.aload_n 0, 1) := by decide +kernel
theorem dX12_may_9 : decode cX12_may 9 = .ok (.iload_n 2, 1) := by decide +kernel
theorem dX12_may_10 : decode cX12_may 10 = .ok (.invokevirtual 190, 3) := by decide +kernel
theorem dX12_may_13 : decode cX12_may 13 = .ok (.ifCond .ne 5, 3) := by decide +kernel
theorem dX12_may_16 : decode cX12_may 16 = .ok (.iconst (-1), 1) := by decide +kernel
theorem dX12_may_17 : decode cX12_may 17 = .ok (.ireturn, 1) := by decide +kernel
theorem dX12_may_18 : decode cX12_may 18 = .ok (.aload_n 0, 1) := by decide +kernel
theorem dX12_may_19 : decode cX12_may 19 = .ok (.iload_n 1, 1) := by decide +kernel
theorem dX12_may_20 : decode cX12_may 20 = .ok (.iload_n 2, 1) := by decide +kernel
theorem dX12_may_21 : decode cX12_may 21 = .ok (.invokevirtual 193, 3) := by decide +kernel
theorem dX12_may_24 : decode cX12_may 24 = .ok (.ifCond .eq 7, 3) := by decide +kernel
theorem dX12_may_27 : decode cX12_may 27 = .ok (.iconst 1, 1) := by decide +kernel
theorem dX12_may_28 : decode cX12_may 28 = .ok (.goto 4, 3) := by decide +kernel
theorem dX12_may_31 : decode cX12_may 31 = .ok (.iconst 0, 1) := by decide +kernel
theorem dX12_may_32 : decode cX12_may 32 = .ok (.ireturn, 1) := by decide +kernel
theorem dX12_lands_0 : decode cX12_lands 0 = .ok (.aload_n 0, 1) := by decide +kernel
theorem dX12_lands_1 : decode cX12_lands 1 = .ok (.getfield 31, 3) := by decide +kernel
theorem dX12_lands_4 : decode cX12_lands 4 = .ok (.iload_n 2, 1) := by decide +kernel
theorem dX12_lands_5 : decode cX12_lands 5 = .ok (.iaload, 1) := by decide +kernel
theorem dX12_lands_6 : decode cX12_lands 6 = .ok (.iload_n 3, 1) := by decide +kernel
theorem dX12_lands_7 : decode cX12_lands 7 = .ok (.aload_n 0, 1) := by decide +kernel
theorem dX12_lands_8 : decode cX12_lands 8 = .ok (.getfield 16, 3) := by decide +kernel
theorem dX12_lands_11 : decode cX12_lands 11 = .ok (.iload_n 1, 1) := by decide +kernel
theorem dX12_lands_12 : decode cX12_lands 12 = .ok (.iaload, 1) := by decide +kernel
theorem dX12_lands_13 : decode cX12_lands 13 = .ok (.imul, 1) := by decide +kernel
theorem dX12_lands_14 : decode cX12_lands 14 = .ok (.iadd, 1) := by decide +kernel
theorem dX12_lands_15 : decode cX12_lands 15 = .ok (.iload 5, 2) := by decide +kernel
theorem dX12_lands_17 : decode cX12_lands 17 = .ok (.iconst 1, 1) := by decide +kernel
theorem dX12_lands_18 : decode cX12_lands 18 = .ok (.if_icmp .ne 15, 3) := by decide +kernel
theorem dX12_lands_21 : decode cX12_lands 21 = .ok (.bipush 10, 2) := by decide +kernel
theorem dX12_lands_23 : decode cX12_lands 23 = .ok (.aload_n 0, 1) := by decide +kernel
theorem dX12_lands_24 : decode cX12_lands 24 = .ok (.getfield 19, 3) := by decide +kernel
theorem dX12_lands_27 : decode cX12_lands 27 = .ok (.iload_n 1, 1) := by decide +kernel
theorem dX12_lands_28 : decode cX12_lands 28 = .ok (.iaload, 1) := by decide +kernel
theorem dX12_lands_29 : decode cX12_lands 29 = .ok (.imul, 1) := by decide +kernel
theorem dX12_lands_30 : decode cX12_lands 30 = .ok (.goto 22, 3) := by decide +kernel
theorem dX12_lands_33 : decode cX12_lands 33 = .ok (.iload 5, 2) := by decide +kernel
theorem dX12_lands_35 : decode cX12_lands 35 = .ok (.iconst 2, 1) := by decide +kernel
theorem dX12_lands_36 : decode cX12_lands 36 = .ok (.if_icmp .ne 15, 3) := by decide +kernel
theorem dX12_lands_39 : decode cX12_lands 39 = .ok (.bipush (-10), 2) := by decide +kernel
theorem dX12_lands_41 : decode cX12_lands 41 = .ok (.aload_n 0, 1) := by decide +kernel
theorem dX12_lands_42 : decode cX12_lands 42 = .ok (.getfield 19, 3) := by decide +kernel
theorem dX12_lands_45 : decode cX12_lands 45 = .ok (.iload_n 1, 1) := by decide +kernel
theorem dX12_lands_46 : decode cX12_lands 46 = .ok (.iaload, 1) := by decide +kernel
theorem dX12_lands_47 : decode cX12_lands 47 = .ok (.imul, 1) := by decide +kernel
theorem dX12_lands_48 : decode cX12_lands 48 = .ok (.goto 4, 3) := by decide +kernel
theorem dX12_lands_51 : decode cX12_lands 51 = .ok (.iconst 0, 1) := by decide +kernel
theorem dX12_lands_52 : decode cX12_lands 52 = .ok (.iadd, 1) := by decide +kernel
theorem dX12_lands_53 : decode cX12_lands 53 = .ok (.istore 7, 2) := by decide +kernel
theorem dX12_lands_55 : decode cX12_lands 55 = .ok (.aload_n 0, 1) := by decide +kernel
theorem dX12_lands_56 : decode cX12_lands 56 = .ok (.getfield 34, 3) := by decide +kernel
theorem dX12_lands_59 : decode cX12_lands 59 = .ok (.iload_n 2, 1) := by decide +kernel
theorem dX12_lands_60 : decode cX12_lands 60 = .ok (.iaload, 1) := by decide +kernel
theorem dX12_lands_61 : decode cX12_lands 61 = .ok (.iload 5, 2) := by decide +kernel
theorem dX12_lands_63 : decode cX12_lands 63 = .ok (.iconst 3, 1) := by decide +kernel
theorem dX12_lands_64 : decode cX12_lands 64 = .ok (.if_icmp .ne 15, 3) := by decide +kernel
theorem dX12_lands_67 : decode cX12_lands 67 = .ok (.bipush 10, 2) := by decide +kernel
theorem dX12_lands_69 : decode cX12_lands 69 = .ok (.aload_n 0, 1) := by decide +kernel
theorem dX12_lands_70 : decode cX12_lands 70 = .ok (.getfield 19, 3) := by decide +kernel
theorem dX12_lands_73 : decode cX12_lands 73 = .ok (.iload_n 1, 1) := by decide +kernel
theorem dX12_lands_74 : decode cX12_lands 74 = .ok (.iaload, 1) := by decide +kernel
theorem dX12_lands_75 : decode cX12_lands 75 = .ok (.imul, 1) := by decide +kernel
theorem dX12_lands_76 : decode cX12_lands 76 = .ok (.goto 22, 3) := by decide +kernel
theorem dX12_lands_79 : decode cX12_lands 79 = .ok (.iload 5, 2) := by decide +kernel
theorem dX12_lands_81 : decode cX12_lands 81 = .ok (.iconst 4, 1) := by decide +kernel
theorem dX12_lands_82 : decode cX12_lands 82 = .ok (.if_icmp .ne 15, 3) := by decide +kernel
theorem dX12_lands_85 : decode cX12_lands 85 = .ok (.bipush (-10), 2) := by decide +kernel
theorem dX12_lands_87 : decode cX12_lands 87 = .ok (.aload_n 0, 1) := by decide +kernel
theorem dX12_lands_88 : decode cX12_lands 88 = .ok (.getfield 19, 3) := by decide +kernel
theorem dX12_lands_91 : decode cX12_lands 91 = .ok (.iload_n 1, 1) := by decide +kernel
theorem dX12_lands_92 : decode cX12_lands 92 = .ok (.iaload, 1) := by decide +kernel
theorem dX12_lands_93 : decode cX12_lands 93 = .ok (.imul, 1) := by decide +kernel
theorem dX12_lands_94 : decode cX12_lands 94 = .ok (.goto 4, 3) := by decide +kernel
theorem dX12_lands_97 : decode cX12_lands 97 = .ok (.iconst 0, 1) := by decide +kernel
theorem dX12_lands_98 : decode cX12_lands 98 = .ok (.iadd, 1) := by decide +kernel
theorem dX12_lands_99 : decode cX12_lands 99 = .ok (.istore 8, 2) := by decide +kernel
theorem dX12_lands_101 : decode cX12_lands 101 = .ok (.iload 6, 2) := by decide +kernel
theorem dX12_lands_103 : decode cX12_lands 103 = .ok (.aload_n 0, 1) := by decide +kernel
theorem dX12_lands_104 : decode cX12_lands 104 = .ok (.getfield 16, 3) := by decide +kernel
theorem dX12_lands_107 : decode cX12_lands 107 = .ok (.iload_n 1, 1) := by decide +kernel
theorem dX12_lands_108 : decode cX12_lands 108 = .ok (.iaload, 1) := by decide +kernel
theorem dX12_lands_109 : decode cX12_lands 109 = .ok (.imul, 1) := by decide +kernel
theorem dX12_lands_110 : decode cX12_lands 110 = .ok (.istore 9, 2) := by decide +kernel
theorem dX12_lands_112 : decode cX12_lands 112 = .ok (.iconst 0, 1) := by decide +kernel
theorem dX12_lands_113 : decode cX12_lands 113 = .ok (.istore 10, 2) := by decide +kernel
theorem dX12_lands_115 : decode cX12_lands 115 = .ok (.iload 10, 2) := by decide +kernel
theorem dX12_lands_117 : decode cX12_lands 117 = .ok (.aload_n 0, 1) := by decide +kernel
theorem dX12_lands_118 : decode cX12_lands 118 = .ok (.getfield 22, 3) := by decide +kernel
theorem dX12_lands_121 : decode cX12_lands 121 = .ok (.iload_n 1, 1) := by decide +kernel
theorem dX12_lands_122 : decode cX12_lands 122 = .ok (.iaload, 1) := by decide +kernel
theorem dX12_lands_123 : decode cX12_lands 123 = .ok (.if_icmp .ge 116, 3) := by decide +kernel
theorem dX12_lands_126 : decode cX12_lands 126 = .ok (.iconst 5, 1) := by decide +kernel
theorem dX12_lands_127 : decode cX12_lands 127 = .ok (.iload 4, 2) := by decide +kernel
theorem dX12_lands_129 : decode cX12_lands 129 = .ok (.imul, 1) := by decide +kernel
theorem dX12_lands_130 : decode cX12_lands 130 = .ok (.iload 9, 2) := by decide +kernel
theorem dX12_lands_132 : decode cX12_lands 132 = .ok (.sipush 500, 3) := by decide +kernel
theorem dX12_lands_135 : decode cX12_lands 135 = .ok (.idiv, 1) := by decide +kernel
theorem dX12_lands_136 : decode cX12_lands 136 = .ok (.iconst 4, 1) := by decide +kernel
theorem dX12_lands_137 : decode cX12_lands 137 = .ok (.if_icmp .ge 12, 3) := by decide +kernel
theorem dX12_lands_140 : decode cX12_lands 140 = .ok (.iload 9, 2) := by decide +kernel
theorem dX12_lands_142 : decode cX12_lands 142 = .ok (.sipush 500, 3) := by decide +kernel
theorem dX12_lands_145 : decode cX12_lands 145 = .ok (.idiv, 1) := by decide +kernel
theorem dX12_lands_146 : decode cX12_lands 146 = .ok (.goto 4, 3) := by decide +kernel
theorem dX12_lands_149 : decode cX12_lands 149 = .ok (.iconst 4, 1) := by decide +kernel
theorem dX12_lands_150 : decode cX12_lands 150 = .ok (.iadd, 1) := by decide +kernel
theorem dX12_lands_151 : decode cX12_lands 151 = .ok (.istore 11, 2) := by decide +kernel
theorem dX12_lands_153 : decode cX12_lands 153 = .ok (.iload 7, 2) := by decide +kernel
theorem dX12_lands_155 : decode cX12_lands 155 = .ok (.aload_n 0, 1) := by decide +kernel
theorem dX12_lands_156 : decode cX12_lands 156 = .ok (.getfield 40, 3) := by decide +kernel
theorem dX12_lands_159 : decode cX12_lands 159 = .ok (.iload 11, 2) := by decide +kernel
theorem dX12_lands_161 : decode cX12_lands 161 = .ok (.iaload, 1) := by decide +kernel
theorem dX12_lands_162 : decode cX12_lands 162 = .ok (.iadd, 1) := by decide +kernel
theorem dX12_lands_163 : decode cX12_lands 163 = .ok (.istore 7, 2) := by decide +kernel
theorem dX12_lands_165 : decode cX12_lands 165 = .ok (.iload 8, 2) := by decide +kernel
theorem dX12_lands_167 : decode cX12_lands 167 = .ok (.aload_n 0, 1) := by decide +kernel
theorem dX12_lands_168 : decode cX12_lands 168 = .ok (.getfield 43, 3) := by decide +kernel
theorem dX12_lands_171 : decode cX12_lands 171 = .ok (.iload 11, 2) := by decide +kernel
theorem dX12_lands_173 : decode cX12_lands 173 = .ok (.iaload, 1) := by decide +kernel
theorem dX12_lands_174 : decode cX12_lands 174 = .ok (.iadd, 1) := by decide +kernel
theorem dX12_lands_175 : decode cX12_lands 175 = .ok (.istore 8, 2) := by decide +kernel
theorem dX12_lands_177 : decode cX12_lands 177 = .ok (.iinc 9 (-25), 3) := by decide +kernel
theorem dX12_lands_180 : decode cX12_lands 180 = .ok (.iload 9, 2) := by decide +kernel
theorem dX12_lands_182 : decode cX12_lands 182 = .ok (.ifCond .gt 51, 3) := by decide +kernel
theorem dX12_lands_185 : decode cX12_lands 185 = .ok (.iload 7, 2) := by decide +kernel
theorem dX12_lands_187 : decode cX12_lands 187 = .ok (.ifCond .lt 24, 3) := by decide +kernel
theorem dX12_lands_190 : decode cX12_lands 190 = .ok (.iload 8, 2) := by decide +kernel
theorem dX12_lands_192 : decode cX12_lands 192 = .ok (.ifCond .lt 19, 3) := by decide +kernel
theorem dX12_lands_195 : decode cX12_lands 195 = .ok (.iload 7, 2) := by decide +kernel
theorem dX12_lands_197 : decode cX12_lands 197 = .ok (.sipush 6400, 3) := by decide +kernel
theorem dX12_lands_200 : decode cX12_lands 200 = .ok (.if_icmp .ge 11, 3) := by decide +kernel
theorem dX12_lands_203 : decode cX12_lands 203 = .ok (.iload 8, 2) := by decide +kernel
theorem dX12_lands_205 : decode cX12_lands 205 = .ok (.sipush 6400, 3) := by decide +kernel
theorem dX12_lands_208 : decode cX12_lands 208 = .ok (.if_icmp .lt 8, 3) := by decide +kernel
theorem dX12_lands_211 : decode cX12_lands 211 = .ok (.bipush (-3), 2) := by decide +kernel
theorem dX12_lands_213 : decode cX12_lands 213 = .ok (.goto 19, 3) := by decide +kernel
theorem dX12_lands_216 : decode cX12_lands 216 = .ok (.iload 8, 2) := by decide +kernel
theorem dX12_lands_218 : decode cX12_lands 218 = .ok (.sipush 200, 3) := by decide +kernel
theorem dX12_lands_221 : decode cX12_lands 221 = .ok (.idiv, 1) := by decide +kernel
theorem dX12_lands_222 : decode cX12_lands 222 = .ok (.bipush 32, 2) := by decide +kernel
theorem dX12_lands_224 : decode cX12_lands 224 = .ok (.imul, 1) := by decide +kernel
theorem dX12_lands_225 : decode cX12_lands 225 = .ok (.iload 7, 2) := by decide +kernel
theorem dX12_lands_227 : decode cX12_lands 227 = .ok (.sipush 200, 3) := by decide +kernel
theorem dX12_lands_230 : decode cX12_lands 230 = .ok (.idiv, 1) := by decide +kernel
theorem dX12_lands_231 : decode cX12_lands 231 = .ok (.iadd, 1) := by decide +kernel
theorem dX12_lands_232 : decode cX12_lands 232 = .ok (.ireturn, 1) := by decide +kernel
theorem dX12_lands_233 : decode cX12_lands 233 = .ok (.iinc 10 1, 3) := by decide +kernel
theorem dX12_lands_236 : decode cX12_lands 236 = .ok (.goto (-121), 3) := by decide +kernel
theorem dX12_lands_239 : decode cX12_lands 239 = .ok (.bipush (-2), 2) := by decide +kernel
theorem dX12_lands_241 : decode cX12_lands 241 = .ok (.ireturn, 1) := by decide +kernel
theorem dX12_isSafe_0 : decode cX12_isSafe 0 = .ok (.iconst 0, 1) := by decide +kernel
theorem dX12_isSafe_1 : decode cX12_isSafe 1 = .ok (.istore 5, 2) := by decide +kernel
theorem dX12_isSafe_3 : decode cX12_isSafe 3 = .ok (.iload 5, 2) := by decide +kernel
theorem dX12_isSafe_5 : decode cX12_isSafe 5 = .ok (.iconst 5, 1) := by decide +kernel
theorem dX12_isSafe_6 : decode cX12_isSafe 6 = .ok (.if_icmp .ge 78, 3) := by decide +kernel
theorem dX12_isSafe_9 : decode cX12_isSafe 9 = .ok (.aload_n 0, 1) := by decide +kernel
theorem dX12_isSafe_10 : decode cX12_isSafe 10 = .ok (.iload_n 1, 1) := by decide +kernel
theorem dX12_isSafe_11 : decode cX12_isSafe 11 = .ok (.iload_n 2, 1) := by decide +kernel
theorem dX12_isSafe_12 : decode cX12_isSafe 12 = .ok (.iload_n 3, 1) := by decide +kernel
theorem dX12_isSafe_13 : decode cX12_isSafe 13 = .ok (.iload 4, 2) := by decide +kernel
theorem dX12_isSafe_15 : decode cX12_isSafe 15 = .ok (.iload 5, 2) := by decide +kernel
theorem dX12_isSafe_17 : decode cX12_isSafe 17 = .ok (.bipush 10, 2) := by decide +kernel
theorem dX12_isSafe_19 : decode cX12_isSafe 19 = .ok (.invokevirtual 197, 3) := by decide +kernel
theorem dX12_isSafe_22 : decode cX12_isSafe 22 = .ok (.istore 6, 2) := by decide +kernel
theorem dX12_isSafe_24 : decode cX12_isSafe 24 = .ok (.aload_n 0, 1) := by decide +kernel
theorem dX12_isSafe_25 : decode cX12_isSafe 25 = .ok (.iload_n 1, 1) := by decide +kernel
theorem dX12_isSafe_26 : decode cX12_isSafe 26 = .ok (.iload_n 2, 1) := by decide +kernel
theorem dX12_isSafe_27 : decode cX12_isSafe 27 = .ok (.iload_n 3, 1) := by decide +kernel
theorem dX12_isSafe_28 : decode cX12_isSafe 28 = .ok (.iload 4, 2) := by decide +kernel
theorem dX12_isSafe_30 : decode cX12_isSafe 30 = .ok (.iload 5, 2) := by decide +kernel
theorem dX12_isSafe_32 : decode cX12_isSafe 32 = .ok (.iconst 5, 1) := by decide +kernel
theorem dX12_isSafe_33 : decode cX12_isSafe 33 = .ok (.invokevirtual 197, 3) := by decide +kernel
theorem dX12_isSafe_36 : decode cX12_isSafe 36 = .ok (.istore 7, 2) := by decide +kernel
theorem dX12_isSafe_38 : decode cX12_isSafe 38 = .ok (.iload 6, 2) := by decide +kernel
theorem dX12_isSafe_40 : decode cX12_isSafe 40 = .ok (.bipush (-3), 2) := by decide +kernel
theorem dX12_isSafe_42 : decode cX12_isSafe 42 = .ok (.if_icmp .eq 34, 3) := by decide +kernel
theorem dX12_isSafe_45 : decode cX12_isSafe 45 = .ok (.iload 6, 2) := by decide +kernel
theorem dX12_isSafe_47 : decode cX12_isSafe 47 = .ok (.ifCond .lt 13, 3) := by decide +kernel
theorem dX12_isSafe_50 : decode cX12_isSafe 50 = .ok (.aload_n 0, 1) := by decide +kernel
theorem dX12_isSafe_51 : decode cX12_isSafe 51 = .ok (.getfield 9, 3) := by decide +kernel
theorem dX12_isSafe_54 : decode cX12_isSafe 54 = .ok (.iload 6, 2) := by decide +kernel
theorem dX12_isSafe_56 : decode cX12_isSafe 56 = .ok (.iaload, 1) := by decide +kernel
theorem dX12_isSafe_57 : decode cX12_isSafe 57 = .ok (.ifCond .ne 19, 3) := by decide +kernel
theorem dX12_isSafe_60 : decode cX12_isSafe 60 = .ok (.iload 7, 2) := by decide +kernel
theorem dX12_isSafe_62 : decode cX12_isSafe 62 = .ok (.ifCond .lt 16, 3) := by decide +kernel
theorem dX12_isSafe_65 : decode cX12_isSafe 65 = .ok (.aload_n 0, 1) := by decide +kernel
theorem dX12_isSafe_66 : decode cX12_isSafe 66 = .ok (.getfield 9, 3) := by decide +kernel
theorem dX12_isSafe_69 : decode cX12_isSafe 69 = .ok (.iload 7, 2) := by decide +kernel
theorem dX12_isSafe_71 : decode cX12_isSafe 71 = .ok (.iaload, 1) := by decide +kernel
theorem dX12_isSafe_72 : decode cX12_isSafe 72 = .ok (.iconst 2, 1) := by decide +kernel
theorem dX12_isSafe_73 : decode cX12_isSafe 73 = .ok (.if_icmp .ne 5, 3) := by decide +kernel
theorem dX12_isSafe_76 : decode cX12_isSafe 76 = .ok (.iconst 0, 1) := by decide +kernel
theorem dX12_isSafe_77 : decode cX12_isSafe 77 = .ok (.ireturn, 1) := by decide +kernel
theorem dX12_isSafe_78 : decode cX12_isSafe 78 = .ok (.iinc 5 1, 3) := by decide +kernel
theorem dX12_isSafe_81 : decode cX12_isSafe 81 = .ok (.goto (-78), 3) := by decide +kernel
theorem dX12_isSafe_84 : decode cX12_isSafe 84 = .ok (.iconst 1, 1) := by decide +kernel
theorem dX12_isSafe_85 : decode cX12_isSafe 85 = .ok (.ireturn, 1) := by decide +kernel
theorem dX12_isLight_0 : decode cX12_isLight 0 = .ok (.aload_n 0, 1) := by decide +kernel
theorem dX12_isLight_1 : decode cX12_isLight 1 = .ok (.iload_n 1, 1) := by decide +kernel
theorem dX12_isLight_2 : decode cX12_isLight 2 = .ok (.invokevirtual 190, 3) := by decide +kernel
theorem dX12_isLight_5 : decode cX12_isLight 5 = .ok (.ifCond .eq 35, 3) := by decide +kernel
theorem dX12_isLight_8 : decode cX12_isLight 8 = .ok (.aload_n 0, 1) := by decide +kernel
theorem dX12_isLight_9 : decode cX12_isLight 9 = .ok (.iload_n 2, 1) := by decide +kernel
theorem dX12_isLight_10 : decode cX12_isLight 10 = .ok (.invokevirtual 186, 3) := by decide +kernel
theorem dX12_isLight_13 : decode cX12_isLight 13 = .ok (.ifCond .eq 27, 3) := by decide +kernel
theorem dX12_isLight_16 : decode cX12_isLight 16 = .ok (.iload_n 3, 1) := by decide +kernel
theorem dX12_isLight_17 : decode cX12_isLight 17 = .ok (.bipush (-4), 2) := by decide +kernel
theorem dX12_isLight_19 : decode cX12_isLight 19 = .ok (.iconst 4, 1) := by decide +kernel
theorem dX12_isLight_20 : decode cX12_isLight 20 = .ok (.invokestatic 177, 3) := by decide +kernel
theorem dX12_isLight_23 : decode cX12_isLight 23 = .ok (.ifCond .eq 17, 3) := by decide +kernel
theorem dX12_isLight_26 : decode cX12_isLight 26 = .ok (.iload 4, 2) := by decide +kernel
theorem dX12_isLight_28 : decode cX12_isLight 28 = .ok (.iconst 0, 1) := by decide +kernel
theorem dX12_isLight_29 : decode cX12_isLight 29 = .ok (.iconst 3, 1) := by decide +kernel
theorem dX12_isLight_30 : decode cX12_isLight 30 = .ok (.invokestatic 177, 3) := by decide +kernel
theorem dX12_isLight_33 : decode cX12_isLight 33 = .ok (.ifCond .eq 7, 3) := by decide +kernel
theorem dX12_isLight_36 : decode cX12_isLight 36 = .ok (.iconst 1, 1) := by decide +kernel
theorem dX12_isLight_37 : decode cX12_isLight 37 = .ok (.goto 4, 3) := by decide +kernel
theorem dX12_isLight_40 : decode cX12_isLight 40 = .ok (.iconst 0, 1) := by decide +kernel
theorem dX12_isLight_41 : decode cX12_isLight 41 = .ok (.ireturn, 1) := by decide +kernel
theorem dX12_safe_0 : decode cX12_safe 0 = .ok (.aload_n 0, 1) := by decide +kernel
theorem dX12_safe_1 : decode cX12_safe 1 = .ok (.iload_n 1, 1) := by decide +kernel
theorem dX12_safe_2 : decode cX12_safe 2 = .ok (.iload_n 2, 1) := by decide +kernel
theorem dX12_safe_3 : decode cX12_safe 3 = .ok (.iload_n 3, 1) := by decide +kernel
theorem dX12_safe_4 : decode cX12_safe 4 = .ok (.iload 4, 2) := by decide +kernel
theorem dX12_safe_6 : decode cX12_safe 6 = .ok (.invokevirtual 201, 3) := by decide +kernel
theorem dX12_safe_9 : decode cX12_safe 9 = .ok (.ifCond .eq 23, 3) := by decide +kernel
theorem dX12_safe_12 : decode cX12_safe 12 = .ok (.aload_n 0, 1) := by decide +kernel
theorem dX12_safe_13 : decode cX12_safe 13 = .ok (.iload_n 1, 1) := by decide +kernel
theorem dX12_safe_14 : decode cX12_safe 14 = .ok (.iload_n 2, 1) := by decide +kernel
theorem dX12_safe_15 : decode cX12_safe 15 = .ok (.iload_n 3, 1) := by decide +kernel
theorem dX12_safe_16 : decode cX12_safe 16 = .ok (.iload 4, 2) := by decide +kernel
theorem dX12_safe_18 : decode cX12_safe 18 = .ok (.invokevirtual 205, 3) := by decide +kernel
theorem dX12_safe_21 : decode cX12_safe 21 = .ok (.ifCond .eq 7, 3) := by decide +kernel
theorem dX12_safe_24 : decode cX12_safe 24 = .ok (.iconst 1, 1) := by decide +kernel
theorem dX12_safe_25 : decode cX12_safe 25 = .ok (.goto 8, 3) := by decide +kernel
theorem dX12_safe_28 : decode cX12_safe 28 = .ok (.iconst 0, 1) := by decide +kernel
theorem dX12_safe_29 : decode cX12_safe 29 = .ok (.goto 4, 3) := by decide +kernel
theorem dX12_safe_32 : decode cX12_safe 32 = .ok (.iconst (-1), 1) := by decide +kernel
theorem dX12_safe_33 : decode cX12_safe 33 = .ok (.ireturn, 1) := by decide +kernel
theorem dX12_hot_0 : decode cX12_hot 0 = .ok (.aload_n 0, 1) := by decide +kernel
theorem dX12_hot_1 : decode cX12_hot 1 = .ok (.iload_n 1, 1) := by decide +kernel
theorem dX12_hot_2 : decode cX12_hot 2 = .ok (.iload_n 2, 1) := by decide +kernel
theorem dX12_hot_3 : decode cX12_hot 3 = .ok (.iload_n 3, 1) := by decide +kernel
theorem dX12_hot_4 : decode cX12_hot 4 = .ok (.iload 4, 2) := by decide +kernel
theorem dX12_hot_6 : decode cX12_hot 6 = .ok (.invokevirtual 201, 3) := by decide +kernel
theorem dX12_hot_9 : decode cX12_hot 9 = .ok (.ifCond .eq 29, 3) := by decide +kernel
theorem dX12_hot_12 : decode cX12_hot 12 = .ok (.iload 5, 2) := by decide +kernel
theorem dX12_hot_14 : decode cX12_hot 14 = .ok (.iconst 0, 1) := by decide +kernel
theorem dX12_hot_15 : decode cX12_hot 15 = .ok (.iconst 4, 1) := by decide +kernel
theorem dX12_hot_16 : decode cX12_hot 16 = .ok (.invokestatic 177, 3) := by decide +kernel
theorem dX12_hot_19 : decode cX12_hot 19 = .ok (.ifCond .eq 19, 3) := by decide +kernel
theorem dX12_hot_22 : decode cX12_hot 22 = .ok (.aload_n 0, 1) := by decide +kernel
theorem dX12_hot_23 : decode cX12_hot 23 = .ok (.iload_n 1, 1) := by decide +kernel
theorem dX12_hot_24 : decode cX12_hot 24 = .ok (.iload_n 2, 1) := by decide +kernel
theorem dX12_hot_25 : decode cX12_hot 25 = .ok (.iload_n 3, 1) := by decide +kernel
theorem dX12_hot_26 : decode cX12_hot 26 = .ok (.iload 4, 2) := by decide +kernel
theorem dX12_hot_28 : decode cX12_hot 28 = .ok (.iload 5, 2) := by decide +kernel
theorem dX12_hot_30 : decode cX12_hot 30 = .ok (.bipush 10, 2) := by decide +kernel
theorem dX12_hot_32 : decode cX12_hot 32 = .ok (.invokevirtual 197, 3) := by decide +kernel
theorem dX12_hot_35 : decode cX12_hot 35 = .ok (.goto 4, 3) := by decide +kernel
theorem dX12_hot_38 : decode cX12_hot 38 = .ok (.iconst (-1), 1) := by decide +kernel
theorem dX12_hot_39 : decode cX12_hot 39 = .ok (.ireturn, 1) := by decide +kernel
theorem dX12_word_0 : decode cX12_word 0 = .ok (.aload_n 0, 1) := by decide +kernel
theorem dX12_word_1 : decode cX12_word 1 = .ok (.getfield 100, 3) := by decide +kernel
theorem dX12_word_4 : decode cX12_word 4 = .ok (.bipush 100, 2) := by decide +kernel
theorem dX12_word_6 : decode cX12_word 6 = .ok (.iload_n 1, 1) := by decide +kernel
theorem dX12_word_7 : decode cX12_word 7 = .ok (.imul, 1) := by decide +kernel
theorem dX12_word_8 : decode cX12_word 8 = .ok (.iload_n 2, 1) := by decide +kernel
theorem dX12_word_9 : decode cX12_word 9 = .ok (.iadd, 1) := by decide +kernel
theorem dX12_word_10 : decode cX12_word 10 = .ok (.laload, 1) := by decide +kernel
theorem dX12_word_11 : decode cX12_word 11 = .ok (.l2i, 1) := by decide +kernel
theorem dX12_word_12 : decode cX12_word 12 = .ok (.ireturn, 1) := by decide +kernel
theorem dX12_makes_0 : decode cX12_makes 0 = .ok (.iload_n 1, 1) := by decide +kernel
theorem dX12_makes_1 : decode cX12_makes 1 = .ok (.aload_n 0, 1) := by decide +kernel
theorem dX12_makes_2 : decode cX12_makes 2 = .ok (.getfield 13, 3) := by decide +kernel
theorem dX12_makes_5 : decode cX12_makes 5 = .ok (.iload_n 2, 1) := by decide +kernel
theorem dX12_makes_6 : decode cX12_makes 6 = .ok (.iaload, 1) := by decide +kernel
theorem dX12_makes_7 : decode cX12_makes 7 = .ok (.if_icmp .lt 19, 3) := by decide +kernel
theorem dX12_makes_10 : decode cX12_makes 10 = .ok (.iload_n 1, 1) := by decide +kernel
theorem dX12_makes_11 : decode cX12_makes 11 = .ok (.sipush 20000, 3) := by decide +kernel
theorem dX12_makes_14 : decode cX12_makes 14 = .ok (.if_icmp .gt 12, 3) := by decide +kernel
theorem dX12_makes_17 : decode cX12_makes 17 = .ok (.aload_n 0, 1) := by decide +kernel
theorem dX12_makes_18 : decode cX12_makes 18 = .ok (.getfield 208, 3) := by decide +kernel
theorem dX12_makes_21 : decode cX12_makes 21 = .ok (.bipush 120, 2) := by decide +kernel
theorem dX12_makes_23 : decode cX12_makes 23 = .ok (.if_icmp .ne 5, 3) := by decide +kernel
theorem dX12_makes_26 : decode cX12_makes 26 = .ok (.iconst 0, 1) := by decide +kernel
theorem dX12_makes_27 : decode cX12_makes 27 = .ok (.ireturn, 1) := by decide +kernel
theorem dX12_makes_28 : decode cX12_makes 28 = .ok (.aload_n 0, 1) := by decide +kernel
theorem dX12_makes_29 : decode cX12_makes 29 = .ok (.getfield 61, 3) := by decide +kernel
theorem dX12_makes_32 : decode cX12_makes 32 = .ok (.aload_n 0, 1) := by decide +kernel
theorem dX12_makes_33 : decode cX12_makes 33 = .ok (.getfield 208, 3) := by decide +kernel
theorem dX12_makes_36 : decode cX12_makes 36 = .ok (.iload_n 1, 1) := by decide +kernel
theorem dX12_makes_37 : decode cX12_makes 37 = .ok (.iastore, 1) := by decide +kernel
theorem dX12_makes_38 : decode cX12_makes 38 = .ok (.aload_n 0, 1) := by decide +kernel
theorem dX12_makes_39 : decode cX12_makes 39 = .ok (.getfield 64, 3) := by decide +kernel
theorem dX12_makes_42 : decode cX12_makes 42 = .ok (.aload_n 0, 1) := by decide +kernel
theorem dX12_makes_43 : decode cX12_makes 43 = .ok (.getfield 208, 3) := by decide +kernel
theorem dX12_makes_46 : decode cX12_makes 46 = .ok (.iload_n 2, 1) := by decide +kernel
theorem dX12_makes_47 : decode cX12_makes 47 = .ok (.iastore, 1) := by decide +kernel
theorem dX12_makes_48 : decode cX12_makes 48 = .ok (.aload_n 0, 1) := by decide +kernel
theorem dX12_makes_49 : decode cX12_makes 49 = .ok (.getfield 67, 3) := by decide +kernel
theorem dX12_makes_52 : decode cX12_makes 52 = .ok (.aload_n 0, 1) := by decide +kernel
theorem dX12_makes_53 : decode cX12_makes 53 = .ok (.getfield 208, 3) := by decide +kernel
theorem dX12_makes_56 : decode cX12_makes 56 = .ok (.iload_n 3, 1) := by decide +kernel
theorem dX12_makes_57 : decode cX12_makes 57 = .ok (.iastore, 1) := by decide +kernel
theorem dX12_makes_58 : decode cX12_makes 58 = .ok (.aload_n 0, 1) := by decide +kernel
theorem dX12_makes_59 : decode cX12_makes 59 = .ok (.getfield 70, 3) := by decide +kernel
theorem dX12_makes_62 : decode cX12_makes 62 = .ok (.aload_n 0, 1) := by decide +kernel
theorem dX12_makes_63 : decode cX12_makes 63 = .ok (.getfield 208, 3) := by decide +kernel
theorem dX12_makes_66 : decode cX12_makes 66 = .ok (.iload 4, 2) := by decide +kernel
theorem dX12_makes_68 : decode cX12_makes 68 = .ok (.iastore, 1) := by decide +kernel
theorem dX12_makes_69 : decode cX12_makes 69 = .ok (.aload_n 0, 1) := by decide +kernel
theorem dX12_makes_70 : decode cX12_makes 70 = .ok (.dup, 1) := by decide +kernel
theorem dX12_makes_71 : decode cX12_makes 71 = .ok (.getfield 208, 3) := by decide +kernel
theorem dX12_makes_74 : decode cX12_makes 74 = .ok (.iconst 1, 1) := by decide +kernel
theorem dX12_makes_75 : decode cX12_makes 75 = .ok (.iadd, 1) := by decide +kernel
theorem dX12_makes_76 : decode cX12_makes 76 = .ok (.putfield 208, 3) := by decide +kernel
theorem dX12_makes_79 : decode cX12_makes 79 = .ok (.iconst 1, 1) := by decide +kernel
theorem dX12_makes_80 : decode cX12_makes 80 = .ok (.ireturn, 1) := by decide +kernel
theorem dX12_numbers_0 : decode cX12_numbers 0 = .ok (.iload_n 0, 1) := by decide +kernel
theorem dX12_numbers_1 : decode cX12_numbers 1 = .ok (.iconst 1, 1) := by decide +kernel
theorem dX12_numbers_2 : decode cX12_numbers 2 = .ok (.if_icmp .eq 8, 3) := by decide +kernel
theorem dX12_numbers_5 : decode cX12_numbers 5 = .ok (.iload_n 0, 1) := by decide +kernel
theorem dX12_numbers_6 : decode cX12_numbers 6 = .ok (.iconst 3, 1) := by decide +kernel
theorem dX12_numbers_7 : decode cX12_numbers 7 = .ok (.if_icmp .ne 7, 3) := by decide +kernel
theorem dX12_numbers_10 : decode cX12_numbers 10 = .ok (.iconst 3, 1) := by decide +kernel
theorem dX12_numbers_11 : decode cX12_numbers 11 = .ok (.goto 39, 3) := by decide +kernel
theorem dX12_numbers_14 : decode cX12_numbers 14 = .ok (.iload_n 0, 1) := by decide +kernel
theorem dX12_numbers_15 : decode cX12_numbers 15 = .ok (.iconst 4, 1) := by decide +kernel
theorem dX12_numbers_16 : decode cX12_numbers 16 = .ok (.if_icmp .eq 8, 3) := by decide +kernel
theorem dX12_numbers_19 : decode cX12_numbers 19 = .ok (.iload_n 0, 1) := by decide +kernel
theorem dX12_numbers_20 : decode cX12_numbers 20 = .ok (.iconst 5, 1) := by decide +kernel
theorem dX12_numbers_21 : decode cX12_numbers 21 = .ok (.if_icmp .ne 7, 3) := by decide +kernel
theorem dX12_numbers_24 : decode cX12_numbers 24 = .ok (.iconst 4, 1) := by decide +kernel
theorem dX12_numbers_25 : decode cX12_numbers 25 = .ok (.goto 25, 3) := by decide +kernel
theorem dX12_numbers_28 : decode cX12_numbers 28 = .ok (.iload_n 0, 1) := by decide +kernel
theorem dX12_numbers_29 : decode cX12_numbers 29 = .ok (.iconst 2, 1) := by decide +kernel
theorem dX12_numbers_30 : decode cX12_numbers 30 = .ok (.if_icmp .eq 15, 3) := by decide +kernel
theorem dX12_numbers_33 : decode cX12_numbers 33 = .ok (.iload_n 0, 1) := by decide +kernel
theorem dX12_numbers_34 : decode cX12_numbers 34 = .ok (.bipush 6, 2) := by decide +kernel
theorem dX12_numbers_36 : decode cX12_numbers 36 = .ok (.if_icmp .eq 9, 3) := by decide +kernel
theorem dX12_numbers_39 : decode cX12_numbers 39 = .ok (.iload_n 0, 1) := by decide +kernel
theorem dX12_numbers_40 : decode cX12_numbers 40 = .ok (.bipush 8, 2) := by decide +kernel
theorem dX12_numbers_42 : decode cX12_numbers 42 = .ok (.if_icmp .ne 7, 3) := by decide +kernel
theorem dX12_numbers_45 : decode cX12_numbers 45 = .ok (.iconst 1, 1) := by decide +kernel
theorem dX12_numbers_46 : decode cX12_numbers 46 = .ok (.goto 4, 3) := by decide +kernel
theorem dX12_numbers_49 : decode cX12_numbers 49 = .ok (.iconst 0, 1) := by decide +kernel
theorem dX12_numbers_50 : decode cX12_numbers 50 = .ok (.ireturn, 1) := by decide +kernel
theorem dX12_cuesBy_0 : decode cX12_cuesBy 0 = .ok (.aload_n 0, 1) := by decide +kernel
theorem dX12_cuesBy_1 : decode cX12_cuesBy 1 = .ok (.iload_n 1, 1) := by decide +kernel
theorem dX12_cuesBy_2 : decode cX12_cuesBy 2 = .ok (.iload_n 2, 1) := by decide +kernel
theorem dX12_cuesBy_3 : decode cX12_cuesBy 3 = .ok (.iconst 1, 1) := by decide +kernel
theorem dX12_cuesBy_4 : decode cX12_cuesBy 4 = .ok (.iadd, 1) := by decide +kernel
theorem dX12_cuesBy_5 : decode cX12_cuesBy 5 = .ok (.invokevirtual 211, 3) := by decide +kernel
theorem dX12_cuesBy_8 : decode cX12_cuesBy 8 = .ok (.istore 4, 2) := by decide +kernel
theorem dX12_cuesBy_10 : decode cX12_cuesBy 10 = .ok (.aload_n 0, 1) := by decide +kernel
theorem dX12_cuesBy_11 : decode cX12_cuesBy 11 = .ok (.iload_n 1, 1) := by decide +kernel
theorem dX12_cuesBy_12 : decode cX12_cuesBy 12 = .ok (.iload_n 2, 1) := by decide +kernel
theorem dX12_cuesBy_13 : decode cX12_cuesBy 13 = .ok (.iconst 2, 1) := by decide +kernel
theorem dX12_cuesBy_14 : decode cX12_cuesBy 14 = .ok (.iadd, 1) := by decide +kernel
theorem dX12_cuesBy_15 : decode cX12_cuesBy 15 = .ok (.invokevirtual 211, 3) := by decide +kernel
theorem dX12_cuesBy_18 : decode cX12_cuesBy 18 = .ok (.istore 5, 2) := by decide +kernel
theorem dX12_cuesBy_20 : decode cX12_cuesBy 20 = .ok (.aload_n 0, 1) := by decide +kernel
theorem dX12_cuesBy_21 : decode cX12_cuesBy 21 = .ok (.iload_n 1, 1) := by decide +kernel
theorem dX12_cuesBy_22 : decode cX12_cuesBy 22 = .ok (.iload_n 2, 1) := by decide +kernel
theorem dX12_cuesBy_23 : decode cX12_cuesBy 23 = .ok (.iconst 3, 1) := by decide +kernel
theorem dX12_cuesBy_24 : decode cX12_cuesBy 24 = .ok (.iadd, 1) := by decide +kernel
theorem dX12_cuesBy_25 : decode cX12_cuesBy 25 = .ok (.invokevirtual 211, 3) := by decide +kernel
theorem dX12_cuesBy_28 : decode cX12_cuesBy 28 = .ok (.istore 6, 2) := by decide +kernel
theorem dX12_cuesBy_30 : decode cX12_cuesBy 30 = .ok (.aload_n 0, 1) := by decide +kernel
theorem dX12_cuesBy_31 : decode cX12_cuesBy 31 = .ok (.iload 4, 2) := by decide +kernel
theorem dX12_cuesBy_33 : decode cX12_cuesBy 33 = .ok (.invokevirtual 190, 3) := by decide +kernel
theorem dX12_cuesBy_36 : decode cX12_cuesBy 36 = .ok (.ifCond .ne 5, 3) := by decide +kernel
theorem dX12_cuesBy_39 : decode cX12_cuesBy 39 = .ok (.iconst 0, 1) := by decide +kernel
theorem dX12_cuesBy_40 : decode cX12_cuesBy 40 = .ok (.ireturn, 1) := by decide +kernel
theorem dX12_cuesBy_41 : decode cX12_cuesBy 41 = .ok (.aload_n 0, 1) := by decide +kernel
theorem dX12_cuesBy_42 : decode cX12_cuesBy 42 = .ok (.iload_n 1, 1) := by decide +kernel
theorem dX12_cuesBy_43 : decode cX12_cuesBy 43 = .ok (.iload_n 2, 1) := by decide +kernel
theorem dX12_cuesBy_44 : decode cX12_cuesBy 44 = .ok (.invokevirtual 211, 3) := by decide +kernel
theorem dX12_cuesBy_47 : decode cX12_cuesBy 47 = .ok (.iconst 4, 1) := by decide +kernel
theorem dX12_cuesBy_48 : decode cX12_cuesBy 48 = .ok (.if_icmp .ge 114, 3) := by decide +kernel
theorem dX12_cuesBy_51 : decode cX12_cuesBy 51 = .ok (.iload 5, 2) := by decide +kernel
theorem dX12_cuesBy_53 : decode cX12_cuesBy 53 = .ok (.iconst (-1), 1) := by decide +kernel
theorem dX12_cuesBy_54 : decode cX12_cuesBy 54 = .ok (.if_icmp .eq 14, 3) := by decide +kernel
theorem dX12_cuesBy_57 : decode cX12_cuesBy 57 = .ok (.aload_n 0, 1) := by decide +kernel
theorem dX12_cuesBy_58 : decode cX12_cuesBy 58 = .ok (.iload 5, 2) := by decide +kernel
theorem dX12_cuesBy_60 : decode cX12_cuesBy 60 = .ok (.invokevirtual 186, 3) := by decide +kernel
theorem dX12_cuesBy_63 : decode cX12_cuesBy 63 = .ok (.ifCond .ne 5, 3) := by decide +kernel
theorem dX12_cuesBy_66 : decode cX12_cuesBy 66 = .ok (.iconst 0, 1) := by decide +kernel
theorem dX12_cuesBy_67 : decode cX12_cuesBy 67 = .ok (.ireturn, 1) := by decide +kernel
theorem dX12_cuesBy_68 : decode cX12_cuesBy 68 = .ok (.aload_n 0, 1) := by decide +kernel
theorem dX12_cuesBy_69 : decode cX12_cuesBy 69 = .ok (.iload_n 1, 1) := by decide +kernel
theorem dX12_cuesBy_70 : decode cX12_cuesBy 70 = .ok (.iload_n 2, 1) := by decide +kernel
theorem dX12_cuesBy_71 : decode cX12_cuesBy 71 = .ok (.invokevirtual 211, 3) := by decide +kernel
theorem dX12_cuesBy_74 : decode cX12_cuesBy 74 = .ok (.iconst 1, 1) := by decide +kernel
theorem dX12_cuesBy_75 : decode cX12_cuesBy 75 = .ok (.if_icmp .ne 34, 3) := by decide +kernel
theorem dX12_cuesBy_78 : decode cX12_cuesBy 78 = .ok (.iload 6, 2) := by decide +kernel
theorem dX12_cuesBy_80 : decode cX12_cuesBy 80 = .ok (.bipush (-4), 2) := by decide +kernel
theorem dX12_cuesBy_82 : decode cX12_cuesBy 82 = .ok (.iconst 4, 1) := by decide +kernel
theorem dX12_cuesBy_83 : decode cX12_cuesBy 83 = .ok (.invokestatic 177, 3) := by decide +kernel
theorem dX12_cuesBy_86 : decode cX12_cuesBy 86 = .ok (.ifCond .eq 21, 3) := by decide +kernel
theorem dX12_cuesBy_89 : decode cX12_cuesBy 89 = .ok (.aload_n 0, 1) := by decide +kernel
theorem dX12_cuesBy_90 : decode cX12_cuesBy 90 = .ok (.iload_n 3, 1) := by decide +kernel
theorem dX12_cuesBy_91 : decode cX12_cuesBy 91 = .ok (.iload 4, 2) := by decide +kernel
theorem dX12_cuesBy_93 : decode cX12_cuesBy 93 = .ok (.iload 5, 2) := by decide +kernel
theorem dX12_cuesBy_95 : decode cX12_cuesBy 95 = .ok (.iload 6, 2) := by decide +kernel
theorem dX12_cuesBy_97 : decode cX12_cuesBy 97 = .ok (.invokevirtual 215, 3) := by decide +kernel
theorem dX12_cuesBy_100 : decode cX12_cuesBy 100 = .ok (.ifCond .eq 7, 3) := by decide +kernel
theorem dX12_cuesBy_103 : decode cX12_cuesBy 103 = .ok (.iconst 1, 1) := by decide +kernel
theorem dX12_cuesBy_104 : decode cX12_cuesBy 104 = .ok (.goto 4, 3) := by decide +kernel
theorem dX12_cuesBy_107 : decode cX12_cuesBy 107 = .ok (.iconst 0, 1) := by decide +kernel
theorem dX12_cuesBy_108 : decode cX12_cuesBy 108 = .ok (.ireturn, 1) := by decide +kernel
theorem dX12_cuesBy_109 : decode cX12_cuesBy 109 = .ok (.iload 6, 2) := by decide +kernel
theorem dX12_cuesBy_111 : decode cX12_cuesBy 111 = .ok (.iconst 1, 1) := by decide +kernel
theorem dX12_cuesBy_112 : decode cX12_cuesBy 112 = .ok (.iconst 5, 1) := by decide +kernel
theorem dX12_cuesBy_113 : decode cX12_cuesBy 113 = .ok (.invokestatic 177, 3) := by decide +kernel
theorem dX12_cuesBy_116 : decode cX12_cuesBy 116 = .ok (.ifCond .ne 5, 3) := by decide +kernel
theorem dX12_cuesBy_119 : decode cX12_cuesBy 119 = .ok (.iconst 0, 1) := by decide +kernel
theorem dX12_cuesBy_120 : decode cX12_cuesBy 120 = .ok (.ireturn, 1) := by decide +kernel
theorem dX12_cuesBy_121 : decode cX12_cuesBy 121 = .ok (.iconst 0, 1) := by decide +kernel
theorem dX12_cuesBy_122 : decode cX12_cuesBy 122 = .ok (.istore 7, 2) := by decide +kernel
theorem dX12_cuesBy_124 : decode cX12_cuesBy 124 = .ok (.iload 7, 2) := by decide +kernel
theorem dX12_cuesBy_126 : decode cX12_cuesBy 126 = .ok (.iload 6, 2) := by decide +kernel
theorem dX12_cuesBy_128 : decode cX12_cuesBy 128 = .ok (.if_icmp .ge 32, 3) := by decide +kernel
theorem dX12_cuesBy_131 : decode cX12_cuesBy 131 = .ok (.aload_n 0, 1) := by decide +kernel
theorem dX12_cuesBy_132 : decode cX12_cuesBy 132 = .ok (.iload_n 3, 1) := by decide +kernel
theorem dX12_cuesBy_133 : decode cX12_cuesBy 133 = .ok (.iload 4, 2) := by decide +kernel
theorem dX12_cuesBy_135 : decode cX12_cuesBy 135 = .ok (.iload 5, 2) := by decide +kernel
theorem dX12_cuesBy_137 : decode cX12_cuesBy 137 = .ok (.iconst 2, 1) := by decide +kernel
theorem dX12_cuesBy_138 : decode cX12_cuesBy 138 = .ok (.iload 7, 2) := by decide +kernel
theorem dX12_cuesBy_140 : decode cX12_cuesBy 140 = .ok (.imul, 1) := by decide +kernel
theorem dX12_cuesBy_141 : decode cX12_cuesBy 141 = .ok (.iload 6, 2) := by decide +kernel
theorem dX12_cuesBy_143 : decode cX12_cuesBy 143 = .ok (.iconst 1, 1) := by decide +kernel
theorem dX12_cuesBy_144 : decode cX12_cuesBy 144 = .ok (.isub, 1) := by decide +kernel
theorem dX12_cuesBy_145 : decode cX12_cuesBy 145 = .ok (.isub, 1) := by decide +kernel
theorem dX12_cuesBy_146 : decode cX12_cuesBy 146 = .ok (.invokevirtual 215, 3) := by decide +kernel
theorem dX12_cuesBy_149 : decode cX12_cuesBy 149 = .ok (.ifCond .ne 5, 3) := by decide +kernel
theorem dX12_cuesBy_152 : decode cX12_cuesBy 152 = .ok (.iconst 0, 1) := by decide +kernel
theorem dX12_cuesBy_153 : decode cX12_cuesBy 153 = .ok (.ireturn, 1) := by decide +kernel
theorem dX12_cuesBy_154 : decode cX12_cuesBy 154 = .ok (.iinc 7 1, 3) := by decide +kernel
theorem dX12_cuesBy_157 : decode cX12_cuesBy 157 = .ok (.goto (-33), 3) := by decide +kernel
theorem dX12_cuesBy_160 : decode cX12_cuesBy 160 = .ok (.iconst 1, 1) := by decide +kernel
theorem dX12_cuesBy_161 : decode cX12_cuesBy 161 = .ok (.ireturn, 1) := by decide +kernel
theorem dX12_cuesBy_162 : decode cX12_cuesBy 162 = .ok (.aload_n 0, 1) := by decide +kernel
theorem dX12_cuesBy_163 : decode cX12_cuesBy 163 = .ok (.iload_n 1, 1) := by decide +kernel
theorem dX12_cuesBy_164 : decode cX12_cuesBy 164 = .ok (.iload_n 2, 1) := by decide +kernel
theorem dX12_cuesBy_165 : decode cX12_cuesBy 165 = .ok (.iconst 4, 1) := by decide +kernel
theorem dX12_cuesBy_166 : decode cX12_cuesBy 166 = .ok (.iadd, 1) := by decide +kernel
theorem dX12_cuesBy_167 : decode cX12_cuesBy 167 = .ok (.invokevirtual 211, 3) := by decide +kernel
theorem dX12_cuesBy_170 : decode cX12_cuesBy 170 = .ok (.aload_n 0, 1) := by decide +kernel
theorem dX12_cuesBy_171 : decode cX12_cuesBy 171 = .ok (.getfield 218, 3) := by decide +kernel
theorem dX12_cuesBy_174 : decode cX12_cuesBy 174 = .ok (.imul, 1) := by decide +kernel
theorem dX12_cuesBy_175 : decode cX12_cuesBy 175 = .ok (.istore 7, 2) := by decide +kernel
theorem dX12_cuesBy_177 : decode cX12_cuesBy 177 = .ok (.aload_n 0, 1) := by decide +kernel
theorem dX12_cuesBy_178 : decode cX12_cuesBy 178 = .ok (.iload 5, 2) := by decide +kernel
theorem dX12_cuesBy_180 : decode cX12_cuesBy 180 = .ok (.invokevirtual 186, 3) := by decide +kernel
theorem dX12_cuesBy_183 : decode cX12_cuesBy 183 = .ok (.ifCond .eq 29, 3) := by decide +kernel
theorem dX12_cuesBy_186 : decode cX12_cuesBy 186 = .ok (.aload_n 0, 1) := by decide +kernel
theorem dX12_cuesBy_187 : decode cX12_cuesBy 187 = .ok (.iload 6, 2) := by decide +kernel
theorem dX12_cuesBy_189 : decode cX12_cuesBy 189 = .ok (.invokevirtual 186, 3) := by decide +kernel
theorem dX12_cuesBy_192 : decode cX12_cuesBy 192 = .ok (.ifCond .eq 20, 3) := by decide +kernel
theorem dX12_cuesBy_195 : decode cX12_cuesBy 195 = .ok (.aload_n 0, 1) := by decide +kernel
theorem dX12_cuesBy_196 : decode cX12_cuesBy 196 = .ok (.iload_n 1, 1) := by decide +kernel
theorem dX12_cuesBy_197 : decode cX12_cuesBy 197 = .ok (.iload_n 2, 1) := by decide +kernel
theorem dX12_cuesBy_198 : decode cX12_cuesBy 198 = .ok (.iconst 4, 1) := by decide +kernel
theorem dX12_cuesBy_199 : decode cX12_cuesBy 199 = .ok (.iadd, 1) := by decide +kernel
theorem dX12_cuesBy_200 : decode cX12_cuesBy 200 = .ok (.invokevirtual 211, 3) := by decide +kernel
theorem dX12_cuesBy_203 : decode cX12_cuesBy 203 = .ok (.iconst 0, 1) := by decide +kernel
theorem dX12_cuesBy_204 : decode cX12_cuesBy 204 = .ok (.bipush 50, 2) := by decide +kernel
theorem dX12_cuesBy_206 : decode cX12_cuesBy 206 = .ok (.invokestatic 177, 3) := by decide +kernel
theorem dX12_cuesBy_209 : decode cX12_cuesBy 209 = .ok (.ifCond .ne 5, 3) := by decide +kernel
theorem dX12_cuesBy_212 : decode cX12_cuesBy 212 = .ok (.iconst 0, 1) := by decide +kernel
theorem dX12_cuesBy_213 : decode cX12_cuesBy 213 = .ok (.ireturn, 1) := by decide +kernel
theorem dX12_cuesBy_214 : decode cX12_cuesBy 214 = .ok (.aload_n 0, 1) := by decide +kernel
theorem dX12_cuesBy_215 : decode cX12_cuesBy 215 = .ok (.iload_n 1, 1) := by decide +kernel
theorem dX12_cuesBy_216 : decode cX12_cuesBy 216 = .ok (.iload_n 2, 1) := by decide +kernel
theorem dX12_cuesBy_217 : decode cX12_cuesBy 217 = .ok (.invokevirtual 211, 3) := by decide +kernel
theorem dX12_cuesBy_220 : decode cX12_cuesBy 220 = .ok (.iconst 5, 1) := by decide +kernel
theorem dX12_cuesBy_221 : decode cX12_cuesBy 221 = .ok (.if_icmp .ne 38, 3) := by decide +kernel
theorem dX12_cuesBy_224 : decode cX12_cuesBy 224 = .ok (.aload_n 0, 1) := by decide +kernel
theorem dX12_cuesBy_225 : decode cX12_cuesBy 225 = .ok (.iload_n 3, 1) := by decide +kernel
theorem dX12_cuesBy_226 : decode cX12_cuesBy 226 = .ok (.iload 4, 2) := by decide +kernel
theorem dX12_cuesBy_228 : decode cX12_cuesBy 228 = .ok (.iload 5, 2) := by decide +kernel
theorem dX12_cuesBy_230 : decode cX12_cuesBy 230 = .ok (.iconst 0, 1) := by decide +kernel
theorem dX12_cuesBy_231 : decode cX12_cuesBy 231 = .ok (.invokevirtual 215, 3) := by decide +kernel
theorem dX12_cuesBy_234 : decode cX12_cuesBy 234 = .ok (.ifCond .eq 23, 3) := by decide +kernel
theorem dX12_cuesBy_237 : decode cX12_cuesBy 237 = .ok (.aload_n 0, 1) := by decide +kernel
theorem dX12_cuesBy_238 : decode cX12_cuesBy 238 = .ok (.iload_n 3, 1) := by decide +kernel
theorem dX12_cuesBy_239 : decode cX12_cuesBy 239 = .ok (.iload 7, 2) := by decide +kernel
theorem dX12_cuesBy_241 : decode cX12_cuesBy 241 = .ok (.iadd, 1) := by decide +kernel
theorem dX12_cuesBy_242 : decode cX12_cuesBy 242 = .ok (.iload 4, 2) := by decide +kernel
theorem dX12_cuesBy_244 : decode cX12_cuesBy 244 = .ok (.iload 6, 2) := by decide +kernel
theorem dX12_cuesBy_246 : decode cX12_cuesBy 246 = .ok (.iconst 0, 1) := by decide +kernel
theorem dX12_cuesBy_247 : decode cX12_cuesBy 247 = .ok (.invokevirtual 215, 3) := by decide +kernel
theorem dX12_cuesBy_250 : decode cX12_cuesBy 250 = .ok (.ifCond .eq 7, 3) := by decide +kernel
theorem dX12_cuesBy_253 : decode cX12_cuesBy 253 = .ok (.iconst 1, 1) := by decide +kernel
theorem dX12_cuesBy_254 : decode cX12_cuesBy 254 = .ok (.goto 4, 3) := by decide +kernel
theorem dX12_cuesBy_257 : decode cX12_cuesBy 257 = .ok (.iconst 0, 1) := by decide +kernel
theorem dX12_cuesBy_258 : decode cX12_cuesBy 258 = .ok (.ireturn, 1) := by decide +kernel
theorem dX12_cuesBy_259 : decode cX12_cuesBy 259 = .ok (.iload 6, 2) := by decide +kernel
theorem dX12_cuesBy_261 : decode cX12_cuesBy 261 = .ok (.iload 5, 2) := by decide +kernel
theorem dX12_cuesBy_263 : decode cX12_cuesBy 263 = .ok (.if_icmp .ge 7, 3) := by decide +kernel
theorem dX12_cuesBy_266 : decode cX12_cuesBy 266 = .ok (.iconst (-1), 1) := by decide +kernel
theorem dX12_cuesBy_267 : decode cX12_cuesBy 267 = .ok (.goto 4, 3) := by decide +kernel
theorem dX12_cuesBy_270 : decode cX12_cuesBy 270 = .ok (.iconst 1, 1) := by decide +kernel
theorem dX12_cuesBy_271 : decode cX12_cuesBy 271 = .ok (.istore 8, 2) := by decide +kernel
theorem dX12_cuesBy_273 : decode cX12_cuesBy 273 = .ok (.iload_n 3, 1) := by decide +kernel
theorem dX12_cuesBy_274 : decode cX12_cuesBy 274 = .ok (.istore 9, 2) := by decide +kernel
theorem dX12_cuesBy_276 : decode cX12_cuesBy 276 = .ok (.iload 5, 2) := by decide +kernel
theorem dX12_cuesBy_278 : decode cX12_cuesBy 278 = .ok (.istore 10, 2) := by decide +kernel
theorem dX12_cuesBy_280 : decode cX12_cuesBy 280 = .ok (.iload 10, 2) := by decide +kernel
theorem dX12_cuesBy_282 : decode cX12_cuesBy 282 = .ok (.iload 6, 2) := by decide +kernel
theorem dX12_cuesBy_284 : decode cX12_cuesBy 284 = .ok (.iload 8, 2) := by decide +kernel
theorem dX12_cuesBy_286 : decode cX12_cuesBy 286 = .ok (.iadd, 1) := by decide +kernel
theorem dX12_cuesBy_287 : decode cX12_cuesBy 287 = .ok (.if_icmp .eq 45, 3) := by decide +kernel
theorem dX12_cuesBy_290 : decode cX12_cuesBy 290 = .ok (.aload_n 0, 1) := by decide +kernel
theorem dX12_cuesBy_291 : decode cX12_cuesBy 291 = .ok (.iload 10, 2) := by decide +kernel
theorem dX12_cuesBy_293 : decode cX12_cuesBy 293 = .ok (.invokevirtual 186, 3) := by decide +kernel
theorem dX12_cuesBy_296 : decode cX12_cuesBy 296 = .ok (.ifCond .eq 17, 3) := by decide +kernel
theorem dX12_cuesBy_299 : decode cX12_cuesBy 299 = .ok (.aload_n 0, 1) := by decide +kernel
theorem dX12_cuesBy_300 : decode cX12_cuesBy 300 = .ok (.iload 9, 2) := by decide +kernel
theorem dX12_cuesBy_302 : decode cX12_cuesBy 302 = .ok (.iload 4, 2) := by decide +kernel
theorem dX12_cuesBy_304 : decode cX12_cuesBy 304 = .ok (.iload 10, 2) := by decide +kernel
theorem dX12_cuesBy_306 : decode cX12_cuesBy 306 = .ok (.iconst 0, 1) := by decide +kernel
theorem dX12_cuesBy_307 : decode cX12_cuesBy 307 = .ok (.invokevirtual 215, 3) := by decide +kernel
theorem dX12_cuesBy_310 : decode cX12_cuesBy 310 = .ok (.ifCond .ne 5, 3) := by decide +kernel
theorem dX12_cuesBy_313 : decode cX12_cuesBy 313 = .ok (.iconst 0, 1) := by decide +kernel
theorem dX12_cuesBy_314 : decode cX12_cuesBy 314 = .ok (.ireturn, 1) := by decide +kernel
theorem dX12_cuesBy_315 : decode cX12_cuesBy 315 = .ok (.iload 9, 2) := by decide +kernel
theorem dX12_cuesBy_317 : decode cX12_cuesBy 317 = .ok (.iload 7, 2) := by decide +kernel
theorem dX12_cuesBy_319 : decode cX12_cuesBy 319 = .ok (.iadd, 1) := by decide +kernel
theorem dX12_cuesBy_320 : decode cX12_cuesBy 320 = .ok (.istore 9, 2) := by decide +kernel
theorem dX12_cuesBy_322 : decode cX12_cuesBy 322 = .ok (.iload 10, 2) := by decide +kernel
theorem dX12_cuesBy_324 : decode cX12_cuesBy 324 = .ok (.iload 8, 2) := by decide +kernel
theorem dX12_cuesBy_326 : decode cX12_cuesBy 326 = .ok (.iadd, 1) := by decide +kernel
theorem dX12_cuesBy_327 : decode cX12_cuesBy 327 = .ok (.istore 10, 2) := by decide +kernel
theorem dX12_cuesBy_329 : decode cX12_cuesBy 329 = .ok (.goto (-49), 3) := by decide +kernel
theorem dX12_cuesBy_332 : decode cX12_cuesBy 332 = .ok (.iconst 1, 1) := by decide +kernel
theorem dX12_cuesBy_333 : decode cX12_cuesBy 333 = .ok (.ireturn, 1) := by decide +kernel
theorem dX12_writes_0 : decode cX12_writes 0 = .ok (.aload_n 0, 1) := by decide +kernel
theorem dX12_writes_1 : decode cX12_writes 1 = .ok (.iconst 0, 1) := by decide +kernel
theorem dX12_writes_2 : decode cX12_writes 2 = .ok (.putfield 208, 3) := by decide +kernel
theorem dX12_writes_5 : decode cX12_writes 5 = .ok (.aload_n 0, 1) := by decide +kernel
theorem dX12_writes_6 : decode cX12_writes 6 = .ok (.bipush 10, 2) := by decide +kernel
theorem dX12_writes_8 : decode cX12_writes 8 = .ok (.putfield 218, 3) := by decide +kernel
theorem dX12_writes_11 : decode cX12_writes 11 = .ok (.iconst 0, 1) := by decide +kernel
theorem dX12_writes_12 : decode cX12_writes 12 = .ok (.istore_n 2, 1) := by decide +kernel
theorem dX12_writes_13 : decode cX12_writes 13 = .ok (.iconst 0, 1) := by decide +kernel
theorem dX12_writes_14 : decode cX12_writes 14 = .ok (.istore_n 3, 1) := by decide +kernel
theorem dX12_writes_15 : decode cX12_writes 15 = .ok (.iconst 0, 1) := by decide +kernel
theorem dX12_writes_16 : decode cX12_writes 16 = .ok (.istore 4, 2) := by decide +kernel
theorem dX12_writes_18 : decode cX12_writes 18 = .ok (.iload 4, 2) := by decide +kernel
theorem dX12_writes_20 : decode cX12_writes 20 = .ok (.aload_n 0, 1) := by decide +kernel
theorem dX12_writes_21 : decode cX12_writes 21 = .ok (.getfield 94, 3) := by decide +kernel
theorem dX12_writes_24 : decode cX12_writes 24 = .ok (.iload_n 1, 1) := by decide +kernel
theorem dX12_writes_25 : decode cX12_writes 25 = .ok (.iaload, 1) := by decide +kernel
theorem dX12_writes_26 : decode cX12_writes 26 = .ok (.if_icmp .ge 312, 3) := by decide +kernel
theorem dX12_writes_29 : decode cX12_writes 29 = .ok (.aload_n 0, 1) := by decide +kernel
theorem dX12_writes_30 : decode cX12_writes 30 = .ok (.iload_n 1, 1) := by decide +kernel
theorem dX12_writes_31 : decode cX12_writes 31 = .ok (.iload 4, 2) := by decide +kernel
theorem dX12_writes_33 : decode cX12_writes 33 = .ok (.invokevirtual 211, 3) := by decide +kernel
theorem dX12_writes_36 : decode cX12_writes 36 = .ok (.istore 5, 2) := by decide +kernel
theorem dX12_writes_38 : decode cX12_writes 38 = .ok (.iload 5, 2) := by decide +kernel
theorem dX12_writes_40 : decode cX12_writes 40 = .ok (.invokestatic 221, 3) := by decide +kernel
theorem dX12_writes_43 : decode cX12_writes 43 = .ok (.istore 6, 2) := by decide +kernel
theorem dX12_writes_45 : decode cX12_writes 45 = .ok (.iload 5, 2) := by decide +kernel
theorem dX12_writes_47 : decode cX12_writes 47 = .ok (.iconst 0, 1) := by decide +kernel
theorem dX12_writes_48 : decode cX12_writes 48 = .ok (.bipush 8, 2) := by decide +kernel
theorem dX12_writes_50 : decode cX12_writes 50 = .ok (.invokestatic 177, 3) := by decide +kernel
theorem dX12_writes_53 : decode cX12_writes 53 = .ok (.ifCond .eq 17, 3) := by decide +kernel
theorem dX12_writes_56 : decode cX12_writes 56 = .ok (.iload 4, 2) := by decide +kernel
theorem dX12_writes_58 : decode cX12_writes 58 = .ok (.iload 6, 2) := by decide +kernel
theorem dX12_writes_60 : decode cX12_writes 60 = .ok (.iadd, 1) := by decide +kernel
theorem dX12_writes_61 : decode cX12_writes 61 = .ok (.aload_n 0, 1) := by decide +kernel
theorem dX12_writes_62 : decode cX12_writes 62 = .ok (.getfield 94, 3) := by decide +kernel
theorem dX12_writes_65 : decode cX12_writes 65 = .ok (.iload_n 1, 1) := by decide +kernel
theorem dX12_writes_66 : decode cX12_writes 66 = .ok (.iaload, 1) := by decide +kernel
theorem dX12_writes_67 : decode cX12_writes 67 = .ok (.if_icmp .lt 6, 3) := by decide +kernel
theorem dX12_writes_70 : decode cX12_writes 70 = .ok (.iload 4, 2) := by decide +kernel
theorem dX12_writes_72 : decode cX12_writes 72 = .ok (.ireturn, 1) := by decide +kernel
theorem dX12_writes_73 : decode cX12_writes 73 = .ok (.iload 6, 2) := by decide +kernel
theorem dX12_writes_75 : decode cX12_writes 75 = .ok (.ifCond .le 15, 3) := by decide +kernel
theorem dX12_writes_78 : decode cX12_writes 78 = .ok (.aload_n 0, 1) := by decide +kernel
theorem dX12_writes_79 : decode cX12_writes 79 = .ok (.iload_n 1, 1) := by decide +kernel
theorem dX12_writes_80 : decode cX12_writes 80 = .ok (.iload 4, 2) := by decide +kernel
theorem dX12_writes_82 : decode cX12_writes 82 = .ok (.iconst 1, 1) := by decide +kernel
theorem dX12_writes_83 : decode cX12_writes 83 = .ok (.iadd, 1) := by decide +kernel
theorem dX12_writes_84 : decode cX12_writes 84 = .ok (.invokevirtual 211, 3) := by decide +kernel
theorem dX12_writes_87 : decode cX12_writes 87 = .ok (.goto 4, 3) := by decide +kernel
theorem dX12_writes_90 : decode cX12_writes 90 = .ok (.iconst 0, 1) := by decide +kernel
theorem dX12_writes_91 : decode cX12_writes 91 = .ok (.istore 7, 2) := by decide +kernel
theorem dX12_writes_93 : decode cX12_writes 93 = .ok (.iload 5, 2) := by decide +kernel
theorem dX12_writes_95 : decode cX12_writes 95 = .ok (.tableswitch 217 0 8 #[49, 217, 60, 217, 217, 217, 100, 143, 194], 49) := by decide +kernel
theorem dX12_writes_144 : decode cX12_writes 144 = .ok (.iload_n 3, 1) := by decide +kernel
theorem dX12_writes_145 : decode cX12_writes 145 = .ok (.ifCond .ne 7, 3) := by decide +kernel
theorem dX12_writes_148 : decode cX12_writes 148 = .ok (.iconst (-1), 1) := by decide +kernel
theorem dX12_writes_149 : decode cX12_writes 149 = .ok (.goto 5, 3) := by decide +kernel
theorem dX12_writes_152 : decode cX12_writes 152 = .ok (.iload 4, 2) := by decide +kernel
theorem dX12_writes_154 : decode cX12_writes 154 = .ok (.ireturn, 1) := by decide +kernel
theorem dX12_writes_155 : decode cX12_writes 155 = .ok (.iload 7, 2) := by decide +kernel
theorem dX12_writes_157 : decode cX12_writes 157 = .ok (.iconst 1, 1) := by decide +kernel
theorem dX12_writes_158 : decode cX12_writes 158 = .ok (.bipush 50, 2) := by decide +kernel
theorem dX12_writes_160 : decode cX12_writes 160 = .ok (.invokestatic 177, 3) := by decide +kernel
theorem dX12_writes_163 : decode cX12_writes 163 = .ok (.ifCond .ne 6, 3) := by decide +kernel
theorem dX12_writes_166 : decode cX12_writes 166 = .ok (.iload 4, 2) := by decide +kernel
theorem dX12_writes_168 : decode cX12_writes 168 = .ok (.ireturn, 1) := by decide +kernel
theorem dX12_writes_169 : decode cX12_writes 169 = .ok (.iload_n 2, 1) := by decide +kernel
theorem dX12_writes_170 : decode cX12_writes 170 = .ok (.iload 7, 2) := by decide +kernel
theorem dX12_writes_172 : decode cX12_writes 172 = .ok (.aload_n 0, 1) := by decide +kernel
theorem dX12_writes_173 : decode cX12_writes 173 = .ok (.getfield 218, 3) := by decide +kernel
theorem dX12_writes_176 : decode cX12_writes 176 = .ok (.imul, 1) := by decide +kernel
theorem dX12_writes_177 : decode cX12_writes 177 = .ok (.iadd, 1) := by decide +kernel
theorem dX12_writes_178 : decode cX12_writes 178 = .ok (.istore_n 2, 1) := by decide +kernel
theorem dX12_writes_179 : decode cX12_writes 179 = .ok (.iload_n 2, 1) := by decide +kernel
theorem dX12_writes_180 : decode cX12_writes 180 = .ok (.ldc 224, 2) := by decide +kernel
theorem dX12_writes_182 : decode cX12_writes 182 = .ok (.if_icmp .le 8, 3) := by decide +kernel
theorem dX12_writes_185 : decode cX12_writes 185 = .ok (.ldc 224, 2) := by decide +kernel
theorem dX12_writes_187 : decode cX12_writes 187 = .ok (.goto 4, 3) := by decide +kernel
theorem dX12_writes_190 : decode cX12_writes 190 = .ok (.iload_n 2, 1) := by decide +kernel
theorem dX12_writes_191 : decode cX12_writes 191 = .ok (.istore_n 2, 1) := by decide +kernel
theorem dX12_writes_192 : decode cX12_writes 192 = .ok (.goto 134, 3) := by decide +kernel
theorem dX12_writes_195 : decode cX12_writes 195 = .ok (.iload 7, 2) := by decide +kernel
theorem dX12_writes_197 : decode cX12_writes 197 = .ok (.iconst 2, 1) := by decide +kernel
theorem dX12_writes_198 : decode cX12_writes 198 = .ok (.bipush 9, 2) := by decide +kernel
theorem dX12_writes_200 : decode cX12_writes 200 = .ok (.invokestatic 177, 3) := by decide +kernel
theorem dX12_writes_203 : decode cX12_writes 203 = .ok (.ifCond .eq 8, 3) := by decide +kernel
theorem dX12_writes_206 : decode cX12_writes 206 = .ok (.iload_n 3, 1) := by decide +kernel
theorem dX12_writes_207 : decode cX12_writes 207 = .ok (.iconst 3, 1) := by decide +kernel
theorem dX12_writes_208 : decode cX12_writes 208 = .ok (.if_icmp .ne 6, 3) := by decide +kernel
theorem dX12_writes_211 : decode cX12_writes 211 = .ok (.iload 4, 2) := by decide +kernel
theorem dX12_writes_213 : decode cX12_writes 213 = .ok (.ireturn, 1) := by decide +kernel
theorem dX12_writes_214 : decode cX12_writes 214 = .ok (.aload_n 0, 1) := by decide +kernel
theorem dX12_writes_215 : decode cX12_writes 215 = .ok (.getfield 104, 3) := by decide +kernel
theorem dX12_writes_218 : decode cX12_writes 218 = .ok (.iload_n 3, 1) := by decide +kernel
theorem dX12_writes_219 : decode cX12_writes 219 = .ok (.iload 4, 2) := by decide +kernel
theorem dX12_writes_221 : decode cX12_writes 221 = .ok (.iconst 2, 1) := by decide +kernel
theorem dX12_writes_222 : decode cX12_writes 222 = .ok (.iadd, 1) := by decide +kernel
theorem dX12_writes_223 : decode cX12_writes 223 = .ok (.iastore, 1) := by decide +kernel
theorem dX12_writes_224 : decode cX12_writes 224 = .ok (.aload_n 0, 1) := by decide +kernel
theorem dX12_writes_225 : decode cX12_writes 225 = .ok (.getfield 107, 3) := by decide +kernel
theorem dX12_writes_228 : decode cX12_writes 228 = .ok (.iload_n 3, 1) := by decide +kernel
theorem dX12_writes_229 : decode cX12_writes 229 = .ok (.iload 7, 2) := by decide +kernel
theorem dX12_writes_231 : decode cX12_writes 231 = .ok (.iastore, 1) := by decide +kernel
theorem dX12_writes_232 : decode cX12_writes 232 = .ok (.iinc 3 1, 3) := by decide +kernel
theorem dX12_writes_235 : decode cX12_writes 235 = .ok (.goto 91, 3) := by decide +kernel
theorem dX12_writes_238 : decode cX12_writes 238 = .ok (.iload_n 3, 1) := by decide +kernel
theorem dX12_writes_239 : decode cX12_writes 239 = .ok (.ifCond .ne 6, 3) := by decide +kernel
theorem dX12_writes_242 : decode cX12_writes 242 = .ok (.iload 4, 2) := by decide +kernel
theorem dX12_writes_244 : decode cX12_writes 244 = .ok (.ireturn, 1) := by decide +kernel
theorem dX12_writes_245 : decode cX12_writes 245 = .ok (.aload_n 0, 1) := by decide +kernel
theorem dX12_writes_246 : decode cX12_writes 246 = .ok (.getfield 107, 3) := by decide +kernel
theorem dX12_writes_249 : decode cX12_writes 249 = .ok (.iload_n 3, 1) := by decide +kernel
theorem dX12_writes_250 : decode cX12_writes 250 = .ok (.iconst 1, 1) := by decide +kernel
theorem dX12_writes_251 : decode cX12_writes 251 = .ok (.isub, 1) := by decide +kernel
theorem dX12_writes_252 : decode cX12_writes 252 = .ok (.dup2, 1) := by decide +kernel
theorem dX12_writes_253 : decode cX12_writes 253 = .ok (.iaload, 1) := by decide +kernel
theorem dX12_writes_254 : decode cX12_writes 254 = .ok (.iconst 1, 1) := by decide +kernel
theorem dX12_writes_255 : decode cX12_writes 255 = .ok (.isub, 1) := by decide +kernel
theorem dX12_writes_256 : decode cX12_writes 256 = .ok (.iastore, 1) := by decide +kernel
theorem dX12_writes_257 : decode cX12_writes 257 = .ok (.aload_n 0, 1) := by decide +kernel
theorem dX12_writes_258 : decode cX12_writes 258 = .ok (.getfield 107, 3) := by decide +kernel
theorem dX12_writes_261 : decode cX12_writes 261 = .ok (.iload_n 3, 1) := by decide +kernel
theorem dX12_writes_262 : decode cX12_writes 262 = .ok (.iconst 1, 1) := by decide +kernel
theorem dX12_writes_263 : decode cX12_writes 263 = .ok (.isub, 1) := by decide +kernel
theorem dX12_writes_264 : decode cX12_writes 264 = .ok (.iaload, 1) := by decide +kernel
theorem dX12_writes_265 : decode cX12_writes 265 = .ok (.ifCond .le 18, 3) := by decide +kernel
theorem dX12_writes_268 : decode cX12_writes 268 = .ok (.aload_n 0, 1) := by decide +kernel
theorem dX12_writes_269 : decode cX12_writes 269 = .ok (.getfield 104, 3) := by decide +kernel
theorem dX12_writes_272 : decode cX12_writes 272 = .ok (.iload_n 3, 1) := by decide +kernel
theorem dX12_writes_273 : decode cX12_writes 273 = .ok (.iconst 1, 1) := by decide +kernel
theorem dX12_writes_274 : decode cX12_writes 274 = .ok (.isub, 1) := by decide +kernel
theorem dX12_writes_275 : decode cX12_writes 275 = .ok (.iaload, 1) := by decide +kernel
theorem dX12_writes_276 : decode cX12_writes 276 = .ok (.iconst 1, 1) := by decide +kernel
theorem dX12_writes_277 : decode cX12_writes 277 = .ok (.isub, 1) := by decide +kernel
theorem dX12_writes_278 : decode cX12_writes 278 = .ok (.istore 4, 2) := by decide +kernel
theorem dX12_writes_280 : decode cX12_writes 280 = .ok (.goto 46, 3) := by decide +kernel
theorem dX12_writes_283 : decode cX12_writes 283 = .ok (.iinc 3 (-1), 3) := by decide +kernel
theorem dX12_writes_286 : decode cX12_writes 286 = .ok (.goto 40, 3) := by decide +kernel
theorem dX12_writes_289 : decode cX12_writes 289 = .ok (.iload 7, 2) := by decide +kernel
theorem dX12_writes_291 : decode cX12_writes 291 = .ok (.iconst 1, 1) := by decide +kernel
theorem dX12_writes_292 : decode cX12_writes 292 = .ok (.bipush 50, 2) := by decide +kernel
theorem dX12_writes_294 : decode cX12_writes 294 = .ok (.invokestatic 177, 3) := by decide +kernel
theorem dX12_writes_297 : decode cX12_writes 297 = .ok (.ifCond .ne 6, 3) := by decide +kernel
theorem dX12_writes_300 : decode cX12_writes 300 = .ok (.iload 4, 2) := by decide +kernel
theorem dX12_writes_302 : decode cX12_writes 302 = .ok (.ireturn, 1) := by decide +kernel
theorem dX12_writes_303 : decode cX12_writes 303 = .ok (.aload_n 0, 1) := by decide +kernel
theorem dX12_writes_304 : decode cX12_writes 304 = .ok (.iload 7, 2) := by decide +kernel
theorem dX12_writes_306 : decode cX12_writes 306 = .ok (.putfield 218, 3) := by decide +kernel
theorem dX12_writes_309 : decode cX12_writes 309 = .ok (.goto 17, 3) := by decide +kernel
theorem dX12_writes_312 : decode cX12_writes 312 = .ok (.aload_n 0, 1) := by decide +kernel
theorem dX12_writes_313 : decode cX12_writes 313 = .ok (.iload_n 1, 1) := by decide +kernel
theorem dX12_writes_314 : decode cX12_writes 314 = .ok (.iload 4, 2) := by decide +kernel
theorem dX12_writes_316 : decode cX12_writes 316 = .ok (.iload_n 2, 1) := by decide +kernel
theorem dX12_writes_317 : decode cX12_writes 317 = .ok (.invokevirtual 225, 3) := by decide +kernel
theorem dX12_writes_320 : decode cX12_writes 320 = .ok (.ifCond .ne 6, 3) := by decide +kernel
theorem dX12_writes_323 : decode cX12_writes 323 = .ok (.iload 4, 2) := by decide +kernel
theorem dX12_writes_325 : decode cX12_writes 325 = .ok (.ireturn, 1) := by decide +kernel
theorem dX12_writes_326 : decode cX12_writes 326 = .ok (.iload 4, 2) := by decide +kernel
theorem dX12_writes_328 : decode cX12_writes 328 = .ok (.iload 6, 2) := by decide +kernel
theorem dX12_writes_330 : decode cX12_writes 330 = .ok (.iconst 1, 1) := by decide +kernel
theorem dX12_writes_331 : decode cX12_writes 331 = .ok (.iadd, 1) := by decide +kernel
theorem dX12_writes_332 : decode cX12_writes 332 = .ok (.iadd, 1) := by decide +kernel
theorem dX12_writes_333 : decode cX12_writes 333 = .ok (.istore 4, 2) := by decide +kernel
theorem dX12_writes_335 : decode cX12_writes 335 = .ok (.goto (-317), 3) := by decide +kernel
theorem dX12_writes_338 : decode cX12_writes 338 = .ok (.aload_n 0, 1) := by decide +kernel
theorem dX12_writes_339 : decode cX12_writes 339 = .ok (.getfield 94, 3) := by decide +kernel
theorem dX12_writes_342 : decode cX12_writes 342 = .ok (.iload_n 1, 1) := by decide +kernel
theorem dX12_writes_343 : decode cX12_writes 343 = .ok (.iaload, 1) := by decide +kernel
theorem dX12_writes_344 : decode cX12_writes 344 = .ok (.ireturn, 1) := by decide +kernel
theorem dX12_isTape_0 : decode cX12_isTape 0 = .ok (.iload_n 0, 1) := by decide +kernel
theorem dX12_isTape_1 : decode cX12_isTape 1 = .ok (.iconst 0, 1) := by decide +kernel
theorem dX12_isTape_2 : decode cX12_isTape 2 = .ok (.iconst 5, 1) := by decide +kernel
theorem dX12_isTape_3 : decode cX12_isTape 3 = .ok (.invokestatic 177, 3) := by decide +kernel
theorem dX12_isTape_6 : decode cX12_isTape 6 = .ok (.ireturn, 1) := by decide +kernel
theorem dX12_wrongBytes_0 : decode cX12_wrongBytes 0 = .ok (.aload_n 0, 1) := by decide +kernel
theorem dX12_wrongBytes_1 : decode cX12_wrongBytes 1 = .ok (.getfield 91, 3) := by decide +kernel
theorem dX12_wrongBytes_4 : decode cX12_wrongBytes 4 = .ok (.iload_n 1, 1) := by decide +kernel
theorem dX12_wrongBytes_5 : decode cX12_wrongBytes 5 = .ok (.iaload, 1) := by decide +kernel
theorem dX12_wrongBytes_6 : decode cX12_wrongBytes 6 = .ok (.ifCond .ne 12, 3) := by decide +kernel
theorem dX12_wrongBytes_9 : decode cX12_wrongBytes 9 = .ok (.aload_n 0, 1) := by decide +kernel
theorem dX12_wrongBytes_10 : decode cX12_wrongBytes 10 = .ok (.bipush (-11), 2) := by decide +kernel
theorem dX12_wrongBytes_12 : decode cX12_wrongBytes 12 = .ok (.invokevirtual 228, 3) := by decide +kernel
theorem dX12_wrongBytes_15 : decode cX12_wrongBytes 15 = .ok (.goto 23, 3) := by decide +kernel
theorem dX12_wrongBytes_18 : decode cX12_wrongBytes 18 = .ok (.aload_n 0, 1) := by decide +kernel
theorem dX12_wrongBytes_19 : decode cX12_wrongBytes 19 = .ok (.getfield 91, 3) := by decide +kernel
theorem dX12_wrongBytes_22 : decode cX12_wrongBytes 22 = .ok (.iload_n 1, 1) := by decide +kernel
theorem dX12_wrongBytes_23 : decode cX12_wrongBytes 23 = .ok (.iaload, 1) := by decide +kernel
theorem dX12_wrongBytes_24 : decode cX12_wrongBytes 24 = .ok (.iconst 1, 1) := by decide +kernel
theorem dX12_wrongBytes_25 : decode cX12_wrongBytes 25 = .ok (.if_icmp .eq 12, 3) := by decide +kernel
theorem dX12_wrongBytes_28 : decode cX12_wrongBytes 28 = .ok (.aload_n 0, 1) := by decide +kernel
theorem dX12_wrongBytes_29 : decode cX12_wrongBytes 29 = .ok (.bipush (-12), 2) := by decide +kernel
theorem dX12_wrongBytes_31 : decode cX12_wrongBytes 31 = .ok (.invokevirtual 228, 3) := by decide +kernel
theorem dX12_wrongBytes_34 : decode cX12_wrongBytes 34 = .ok (.goto 4, 3) := by decide +kernel
theorem dX12_wrongBytes_37 : decode cX12_wrongBytes 37 = .ok (.iconst 0, 1) := by decide +kernel
theorem dX12_wrongBytes_38 : decode cX12_wrongBytes 38 = .ok (.ireturn, 1) := by decide +kernel
theorem dX12_write_0 : decode cX12_write 0 = .ok (.aload_n 0, 1) := by decide +kernel
theorem dX12_write_1 : decode cX12_write 1 = .ok (.iconst 0, 1) := by decide +kernel
theorem dX12_write_2 : decode cX12_write 2 = .ok (.putfield 155, 3) := by decide +kernel
theorem dX12_write_5 : decode cX12_write 5 = .ok (.iload_n 1, 1) := by decide +kernel
theorem dX12_write_6 : decode cX12_write 6 = .ok (.invokestatic 231, 3) := by decide +kernel
theorem dX12_write_9 : decode cX12_write 9 = .ok (.ifCond .ne 5, 3) := by decide +kernel
theorem dX12_write_12 : decode cX12_write 12 = .ok (.iconst (-1), 1) := by decide +kernel
theorem dX12_write_13 : decode cX12_write 13 = .ok (.ireturn, 1) := by decide +kernel
theorem dX12_write_14 : decode cX12_write 14 = .ok (.aload_n 0, 1) := by decide +kernel
theorem dX12_write_15 : decode cX12_write 15 = .ok (.iload_n 1, 1) := by decide +kernel
theorem dX12_write_16 : decode cX12_write 16 = .ok (.invokevirtual 234, 3) := by decide +kernel
theorem dX12_write_19 : decode cX12_write 19 = .ok (.istore_n 2, 1) := by decide +kernel
theorem dX12_write_20 : decode cX12_write 20 = .ok (.iload_n 2, 1) := by decide +kernel
theorem dX12_write_21 : decode cX12_write 21 = .ok (.ifCond .eq 5, 3) := by decide +kernel
theorem dX12_write_24 : decode cX12_write 24 = .ok (.iload_n 2, 1) := by decide +kernel
theorem dX12_write_25 : decode cX12_write 25 = .ok (.ireturn, 1) := by decide +kernel
theorem dX12_write_26 : decode cX12_write 26 = .ok (.aload_n 0, 1) := by decide +kernel
theorem dX12_write_27 : decode cX12_write 27 = .ok (.iload_n 1, 1) := by decide +kernel
theorem dX12_write_28 : decode cX12_write 28 = .ok (.invokevirtual 237, 3) := by decide +kernel
theorem dX12_write_31 : decode cX12_write 31 = .ok (.istore_n 3, 1) := by decide +kernel
theorem dX12_write_32 : decode cX12_write 32 = .ok (.iload_n 3, 1) := by decide +kernel
theorem dX12_write_33 : decode cX12_write 33 = .ok (.ifCond .lt 8, 3) := by decide +kernel
theorem dX12_write_36 : decode cX12_write 36 = .ok (.bipush (-100), 2) := by decide +kernel
theorem dX12_write_38 : decode cX12_write 38 = .ok (.iload_n 3, 1) := by decide +kernel
theorem dX12_write_39 : decode cX12_write 39 = .ok (.isub, 1) := by decide +kernel
theorem dX12_write_40 : decode cX12_write 40 = .ok (.ireturn, 1) := by decide +kernel
theorem dX12_write_41 : decode cX12_write 41 = .ok (.aload_n 0, 1) := by decide +kernel
theorem dX12_write_42 : decode cX12_write 42 = .ok (.aload_n 0, 1) := by decide +kernel
theorem dX12_write_43 : decode cX12_write 43 = .ok (.getfield 208, 3) := by decide +kernel
theorem dX12_write_46 : decode cX12_write 46 = .ok (.invokevirtual 240, 3) := by decide +kernel
theorem dX12_write_49 : decode cX12_write 49 = .ok (.iconst 0, 1) := by decide +kernel
theorem dX12_write_50 : decode cX12_write 50 = .ok (.istore 4, 2) := by decide +kernel
theorem dX12_write_52 : decode cX12_write 52 = .ok (.iload 4, 2) := by decide +kernel
theorem dX12_write_54 : decode cX12_write 54 = .ok (.aload_n 0, 1) := by decide +kernel
theorem dX12_write_55 : decode cX12_write 55 = .ok (.getfield 159, 3) := by decide +kernel
theorem dX12_write_58 : decode cX12_write 58 = .ok (.if_icmp .ge 65, 3) := by decide +kernel
theorem dX12_write_61 : decode cX12_write 61 = .ok (.aload_n 0, 1) := by decide +kernel
theorem dX12_write_62 : decode cX12_write 62 = .ok (.getfield 46, 3) := by decide +kernel
theorem dX12_write_65 : decode cX12_write 65 = .ok (.iload 4, 2) := by decide +kernel
theorem dX12_write_67 : decode cX12_write 67 = .ok (.aload_n 0, 1) := by decide +kernel
theorem dX12_write_68 : decode cX12_write 68 = .ok (.getfield 61, 3) := by decide +kernel
theorem dX12_write_71 : decode cX12_write 71 = .ok (.iload 4, 2) := by decide +kernel
theorem dX12_write_73 : decode cX12_write 73 = .ok (.iaload, 1) := by decide +kernel
theorem dX12_write_74 : decode cX12_write 74 = .ok (.iastore, 1) := by decide +kernel
theorem dX12_write_75 : decode cX12_write 75 = .ok (.aload_n 0, 1) := by decide +kernel
theorem dX12_write_76 : decode cX12_write 76 = .ok (.getfield 49, 3) := by decide +kernel
theorem dX12_write_79 : decode cX12_write 79 = .ok (.iload 4, 2) := by decide +kernel
theorem dX12_write_81 : decode cX12_write 81 = .ok (.aload_n 0, 1) := by decide +kernel
theorem dX12_write_82 : decode cX12_write 82 = .ok (.getfield 64, 3) := by decide +kernel
theorem dX12_write_85 : decode cX12_write 85 = .ok (.iload 4, 2) := by decide +kernel
theorem dX12_write_87 : decode cX12_write 87 = .ok (.iaload, 1) := by decide +kernel
theorem dX12_write_88 : decode cX12_write 88 = .ok (.iastore, 1) := by decide +kernel
theorem dX12_write_89 : decode cX12_write 89 = .ok (.aload_n 0, 1) := by decide +kernel
theorem dX12_write_90 : decode cX12_write 90 = .ok (.getfield 52, 3) := by decide +kernel
theorem dX12_write_93 : decode cX12_write 93 = .ok (.iload 4, 2) := by decide +kernel
theorem dX12_write_95 : decode cX12_write 95 = .ok (.aload_n 0, 1) := by decide +kernel
theorem dX12_write_96 : decode cX12_write 96 = .ok (.getfield 67, 3) := by decide +kernel
theorem dX12_write_99 : decode cX12_write 99 = .ok (.iload 4, 2) := by decide +kernel
theorem dX12_write_101 : decode cX12_write 101 = .ok (.iaload, 1) := by decide +kernel
theorem dX12_write_102 : decode cX12_write 102 = .ok (.iastore, 1) := by decide +kernel
theorem dX12_write_103 : decode cX12_write 103 = .ok (.aload_n 0, 1) := by decide +kernel
theorem dX12_write_104 : decode cX12_write 104 = .ok (.getfield 55, 3) := by decide +kernel
theorem dX12_write_107 : decode cX12_write 107 = .ok (.iload 4, 2) := by decide +kernel
theorem dX12_write_109 : decode cX12_write 109 = .ok (.aload_n 0, 1) := by decide +kernel
theorem dX12_write_110 : decode cX12_write 110 = .ok (.getfield 70, 3) := by decide +kernel
theorem dX12_write_113 : decode cX12_write 113 = .ok (.iload 4, 2) := by decide +kernel
theorem dX12_write_115 : decode cX12_write 115 = .ok (.iaload, 1) := by decide +kernel
theorem dX12_write_116 : decode cX12_write 116 = .ok (.iastore, 1) := by decide +kernel
theorem dX12_write_117 : decode cX12_write 117 = .ok (.iinc 4 1, 3) := by decide +kernel
theorem dX12_write_120 : decode cX12_write 120 = .ok (.goto (-68), 3) := by decide +kernel
theorem dX12_write_123 : decode cX12_write 123 = .ok (.aload_n 0, 1) := by decide +kernel
theorem dX12_write_124 : decode cX12_write 124 = .ok (.getfield 159, 3) := by decide +kernel
theorem dX12_write_127 : decode cX12_write 127 = .ok (.ireturn, 1) := by decide +kernel
theorem dX12_comes_0 : decode cX12_comes 0 = .ok (.aload_n 0, 1) := by decide +kernel
theorem dX12_comes_1 : decode cX12_comes 1 = .ok (.iload_n 1, 1) := by decide +kernel
theorem dX12_comes_2 : decode cX12_comes 2 = .ok (.putfield 159, 3) := by decide +kernel
theorem dX12_comes_5 : decode cX12_comes 5 = .ok (.aload_n 0, 1) := by decide +kernel
theorem dX12_comes_6 : decode cX12_comes 6 = .ok (.iconst 0, 1) := by decide +kernel
theorem dX12_comes_7 : decode cX12_comes 7 = .ok (.putfield 171, 3) := by decide +kernel
theorem dX12_comes_10 : decode cX12_comes 10 = .ok (.iconst 0, 1) := by decide +kernel
theorem dX12_comes_11 : decode cX12_comes 11 = .ok (.istore_n 2, 1) := by decide +kernel
theorem dX12_comes_12 : decode cX12_comes 12 = .ok (.iload_n 2, 1) := by decide +kernel
theorem dX12_comes_13 : decode cX12_comes 13 = .ok (.bipush 120, 2) := by decide +kernel
theorem dX12_comes_15 : decode cX12_comes 15 = .ok (.if_icmp .ge 16, 3) := by decide +kernel
theorem dX12_comes_18 : decode cX12_comes 18 = .ok (.aload_n 0, 1) := by decide +kernel
theorem dX12_comes_19 : decode cX12_comes 19 = .ok (.getfield 58, 3) := by decide +kernel
theorem dX12_comes_22 : decode cX12_comes 22 = .ok (.iload_n 2, 1) := by decide +kernel
theorem dX12_comes_23 : decode cX12_comes 23 = .ok (.iconst 0, 1) := by decide +kernel
theorem dX12_comes_24 : decode cX12_comes 24 = .ok (.iastore, 1) := by decide +kernel
theorem dX12_comes_25 : decode cX12_comes 25 = .ok (.iinc 2 1, 3) := by decide +kernel
theorem dX12_comes_28 : decode cX12_comes 28 = .ok (.goto (-16), 3) := by decide +kernel
theorem dX12_comes_31 : decode cX12_comes 31 = .ok (.return_, 1) := by decide +kernel
theorem dX12_cue_0 : decode cX12_cue 0 = .ok (.aload_n 0, 1) := by decide +kernel
theorem dX12_cue_1 : decode cX12_cue 1 = .ok (.iload_n 2, 1) := by decide +kernel
theorem dX12_cue_2 : decode cX12_cue 2 = .ok (.iconst 0, 1) := by decide +kernel
theorem dX12_cue_3 : decode cX12_cue 3 = .ok (.iconst 4, 1) := by decide +kernel
theorem dX12_cue_4 : decode cX12_cue 4 = .ok (.invokestatic 177, 3) := by decide +kernel
theorem dX12_cue_7 : decode cX12_cue 7 = .ok (.ifCond .ne 7, 3) := by decide +kernel
theorem dX12_cue_10 : decode cX12_cue 10 = .ok (.iconst 1, 1) := by decide +kernel
theorem dX12_cue_11 : decode cX12_cue 11 = .ok (.goto 16, 3) := by decide +kernel
theorem dX12_cue_14 : decode cX12_cue 14 = .ok (.aload_n 0, 1) := by decide +kernel
theorem dX12_cue_15 : decode cX12_cue 15 = .ok (.iload_n 1, 1) := by decide +kernel
theorem dX12_cue_16 : decode cX12_cue 16 = .ok (.invokevirtual 244, 3) := by decide +kernel
theorem dX12_cue_19 : decode cX12_cue 19 = .ok (.ifCond .ne 7, 3) := by decide +kernel
theorem dX12_cue_22 : decode cX12_cue 22 = .ok (.iconst 2, 1) := by decide +kernel
theorem dX12_cue_23 : decode cX12_cue 23 = .ok (.goto 4, 3) := by decide +kernel
theorem dX12_cue_26 : decode cX12_cue 26 = .ok (.iconst 0, 1) := by decide +kernel
theorem dX12_cue_27 : decode cX12_cue 27 = .ok (.putfield 148, 3) := by decide +kernel
theorem dX12_cue_30 : decode cX12_cue 30 = .ok (.aload_n 0, 1) := by decide +kernel
theorem dX12_cue_31 : decode cX12_cue 31 = .ok (.getfield 148, 3) := by decide +kernel
theorem dX12_cue_34 : decode cX12_cue 34 = .ok (.ifCond .eq 5, 3) := by decide +kernel
theorem dX12_cue_37 : decode cX12_cue 37 = .ok (.iconst 0, 1) := by decide +kernel
theorem dX12_cue_38 : decode cX12_cue 38 = .ok (.ireturn, 1) := by decide +kernel
theorem dX12_cue_39 : decode cX12_cue 39 = .ok (.iload_n 2, 1) := by decide +kernel
theorem dX12_cue_40 : decode cX12_cue 40 = .ok (.ifCond .ne 12, 3) := by decide +kernel
theorem dX12_cue_43 : decode cX12_cue 43 = .ok (.aload_n 0, 1) := by decide +kernel
theorem dX12_cue_44 : decode cX12_cue 44 = .ok (.getfield 46, 3) := by decide +kernel
theorem dX12_cue_47 : decode cX12_cue 47 = .ok (.iload_n 1, 1) := by decide +kernel
theorem dX12_cue_48 : decode cX12_cue 48 = .ok (.iaload, 1) := by decide +kernel
theorem dX12_cue_49 : decode cX12_cue 49 = .ok (.goto 63, 3) := by decide +kernel
theorem dX12_cue_52 : decode cX12_cue 52 = .ok (.iload_n 2, 1) := by decide +kernel
theorem dX12_cue_53 : decode cX12_cue 53 = .ok (.iconst 1, 1) := by decide +kernel
theorem dX12_cue_54 : decode cX12_cue 54 = .ok (.if_icmp .ne 12, 3) := by decide +kernel
theorem dX12_cue_57 : decode cX12_cue 57 = .ok (.aload_n 0, 1) := by decide +kernel
theorem dX12_cue_58 : decode cX12_cue 58 = .ok (.getfield 49, 3) := by decide +kernel
theorem dX12_cue_61 : decode cX12_cue 61 = .ok (.iload_n 1, 1) := by decide +kernel
theorem dX12_cue_62 : decode cX12_cue 62 = .ok (.iaload, 1) := by decide +kernel
theorem dX12_cue_63 : decode cX12_cue 63 = .ok (.goto 49, 3) := by decide +kernel
theorem dX12_cue_66 : decode cX12_cue 66 = .ok (.iload_n 2, 1) := by decide +kernel
theorem dX12_cue_67 : decode cX12_cue 67 = .ok (.iconst 2, 1) := by decide +kernel
theorem dX12_cue_68 : decode cX12_cue 68 = .ok (.if_icmp .ne 12, 3) := by decide +kernel
theorem dX12_cue_71 : decode cX12_cue 71 = .ok (.aload_n 0, 1) := by decide +kernel
theorem dX12_cue_72 : decode cX12_cue 72 = .ok (.getfield 52, 3) := by decide +kernel
theorem dX12_cue_75 : decode cX12_cue 75 = .ok (.iload_n 1, 1) := by decide +kernel
theorem dX12_cue_76 : decode cX12_cue 76 = .ok (.iaload, 1) := by decide +kernel
theorem dX12_cue_77 : decode cX12_cue 77 = .ok (.goto 35, 3) := by decide +kernel
theorem dX12_cue_80 : decode cX12_cue 80 = .ok (.iload_n 2, 1) := by decide +kernel
theorem dX12_cue_81 : decode cX12_cue 81 = .ok (.iconst 3, 1) := by decide +kernel
theorem dX12_cue_82 : decode cX12_cue 82 = .ok (.if_icmp .ne 12, 3) := by decide +kernel
theorem dX12_cue_85 : decode cX12_cue 85 = .ok (.aload_n 0, 1) := by decide +kernel
theorem dX12_cue_86 : decode cX12_cue 86 = .ok (.getfield 55, 3) := by decide +kernel
theorem dX12_cue_89 : decode cX12_cue 89 = .ok (.iload_n 1, 1) := by decide +kernel
theorem dX12_cue_90 : decode cX12_cue 90 = .ok (.iaload, 1) := by decide +kernel
theorem dX12_cue_91 : decode cX12_cue 91 = .ok (.goto 21, 3) := by decide +kernel
theorem dX12_cue_94 : decode cX12_cue 94 = .ok (.aload_n 0, 1) := by decide +kernel
theorem dX12_cue_95 : decode cX12_cue 95 = .ok (.getfield 46, 3) := by decide +kernel
theorem dX12_cue_98 : decode cX12_cue 98 = .ok (.iload_n 1, 1) := by decide +kernel
theorem dX12_cue_99 : decode cX12_cue 99 = .ok (.iaload, 1) := by decide +kernel
theorem dX12_cue_100 : decode cX12_cue 100 = .ok (.aload_n 0, 1) := by decide +kernel
theorem dX12_cue_101 : decode cX12_cue 101 = .ok (.getfield 13, 3) := by decide +kernel
theorem dX12_cue_104 : decode cX12_cue 104 = .ok (.aload_n 0, 1) := by decide +kernel
theorem dX12_cue_105 : decode cX12_cue 105 = .ok (.getfield 49, 3) := by decide +kernel
theorem dX12_cue_108 : decode cX12_cue 108 = .ok (.iload_n 1, 1) := by decide +kernel
theorem dX12_cue_109 : decode cX12_cue 109 = .ok (.iaload, 1) := by decide +kernel
theorem dX12_cue_110 : decode cX12_cue 110 = .ok (.iaload, 1) := by decide +kernel
theorem dX12_cue_111 : decode cX12_cue 111 = .ok (.isub, 1) := by decide +kernel
theorem dX12_cue_112 : decode cX12_cue 112 = .ok (.ireturn, 1) := by decide +kernel
theorem dX12_stretched_0 : decode cX12_stretched 0 = .ok (.iload_n 0, 1) := by decide +kernel
theorem dX12_stretched_1 : decode cX12_stretched 1 = .ok (.iload_n 1, 1) := by decide +kernel
theorem dX12_stretched_2 : decode cX12_stretched 2 = .ok (.if_icmp .ge 7, 3) := by decide +kernel
theorem dX12_stretched_5 : decode cX12_stretched 5 = .ok (.iload_n 0, 1) := by decide +kernel
theorem dX12_stretched_6 : decode cX12_stretched 6 = .ok (.goto 12, 3) := by decide +kernel
theorem dX12_stretched_9 : decode cX12_stretched 9 = .ok (.iload_n 1, 1) := by decide +kernel
theorem dX12_stretched_10 : decode cX12_stretched 10 = .ok (.iload_n 0, 1) := by decide +kernel
theorem dX12_stretched_11 : decode cX12_stretched 11 = .ok (.iload_n 1, 1) := by decide +kernel
theorem dX12_stretched_12 : decode cX12_stretched 12 = .ok (.isub, 1) := by decide +kernel
theorem dX12_stretched_13 : decode cX12_stretched 13 = .ok (.iload_n 2, 1) := by decide +kernel
theorem dX12_stretched_14 : decode cX12_stretched 14 = .ok (.imul, 1) := by decide +kernel
theorem dX12_stretched_15 : decode cX12_stretched 15 = .ok (.iload_n 3, 1) := by decide +kernel
theorem dX12_stretched_16 : decode cX12_stretched 16 = .ok (.idiv, 1) := by decide +kernel
theorem dX12_stretched_17 : decode cX12_stretched 17 = .ok (.iadd, 1) := by decide +kernel
theorem dX12_stretched_18 : decode cX12_stretched 18 = .ok (.ireturn, 1) := by decide +kernel
theorem dX12_stretch_0 : decode cX12_stretch 0 = .ok (.aload_n 0, 1) := by decide +kernel
theorem dX12_stretch_1 : decode cX12_stretch 1 = .ok (.iconst 0, 1) := by decide +kernel
theorem dX12_stretch_2 : decode cX12_stretch 2 = .ok (.putfield 155, 3) := by decide +kernel
theorem dX12_stretch_5 : decode cX12_stretch 5 = .ok (.iload_n 1, 1) := by decide +kernel
theorem dX12_stretch_6 : decode cX12_stretch 6 = .ok (.iconst 0, 1) := by decide +kernel
theorem dX12_stretch_7 : decode cX12_stretch 7 = .ok (.sipush 20000, 3) := by decide +kernel
theorem dX12_stretch_10 : decode cX12_stretch 10 = .ok (.invokestatic 177, 3) := by decide +kernel
theorem dX12_stretch_13 : decode cX12_stretch 13 = .ok (.ifCond .eq 23, 3) := by decide +kernel
theorem dX12_stretch_16 : decode cX12_stretch 16 = .ok (.iload_n 2, 1) := by decide +kernel
theorem dX12_stretch_17 : decode cX12_stretch 17 = .ok (.iconst 1, 1) := by decide +kernel
theorem dX12_stretch_18 : decode cX12_stretch 18 = .ok (.bipush 100, 2) := by decide +kernel
theorem dX12_stretch_20 : decode cX12_stretch 20 = .ok (.invokestatic 177, 3) := by decide +kernel
theorem dX12_stretch_23 : decode cX12_stretch 23 = .ok (.ifCond .eq 13, 3) := by decide +kernel
theorem dX12_stretch_26 : decode cX12_stretch 26 = .ok (.iload_n 3, 1) := by decide +kernel
theorem dX12_stretch_27 : decode cX12_stretch 27 = .ok (.iconst 1, 1) := by decide +kernel
theorem dX12_stretch_28 : decode cX12_stretch 28 = .ok (.bipush 100, 2) := by decide +kernel
theorem dX12_stretch_30 : decode cX12_stretch 30 = .ok (.invokestatic 177, 3) := by decide +kernel
theorem dX12_stretch_33 : decode cX12_stretch 33 = .ok (.ifCond .ne 5, 3) := by decide +kernel
theorem dX12_stretch_36 : decode cX12_stretch 36 = .ok (.iconst (-1), 1) := by decide +kernel
theorem dX12_stretch_37 : decode cX12_stretch 37 = .ok (.ireturn, 1) := by decide +kernel
theorem dX12_stretch_38 : decode cX12_stretch 38 = .ok (.iconst 0, 1) := by decide +kernel
theorem dX12_stretch_39 : decode cX12_stretch 39 = .ok (.istore 4, 2) := by decide +kernel
theorem dX12_stretch_41 : decode cX12_stretch 41 = .ok (.iload 4, 2) := by decide +kernel
theorem dX12_stretch_43 : decode cX12_stretch 43 = .ok (.aload_n 0, 1) := by decide +kernel
theorem dX12_stretch_44 : decode cX12_stretch 44 = .ok (.getfield 159, 3) := by decide +kernel
theorem dX12_stretch_47 : decode cX12_stretch 47 = .ok (.if_icmp .ge 40, 3) := by decide +kernel
theorem dX12_stretch_50 : decode cX12_stretch 50 = .ok (.aload_n 0, 1) := by decide +kernel
theorem dX12_stretch_51 : decode cX12_stretch 51 = .ok (.getfield 46, 3) := by decide +kernel
theorem dX12_stretch_54 : decode cX12_stretch 54 = .ok (.iload 4, 2) := by decide +kernel
theorem dX12_stretch_56 : decode cX12_stretch 56 = .ok (.iaload, 1) := by decide +kernel
theorem dX12_stretch_57 : decode cX12_stretch 57 = .ok (.iload_n 1, 1) := by decide +kernel
theorem dX12_stretch_58 : decode cX12_stretch 58 = .ok (.iload_n 2, 1) := by decide +kernel
theorem dX12_stretch_59 : decode cX12_stretch 59 = .ok (.iload_n 3, 1) := by decide +kernel
theorem dX12_stretch_60 : decode cX12_stretch 60 = .ok (.invokestatic 247, 3) := by decide +kernel
theorem dX12_stretch_63 : decode cX12_stretch 63 = .ok (.aload_n 0, 1) := by decide +kernel
theorem dX12_stretch_64 : decode cX12_stretch 64 = .ok (.getfield 13, 3) := by decide +kernel
theorem dX12_stretch_67 : decode cX12_stretch 67 = .ok (.aload_n 0, 1) := by decide +kernel
theorem dX12_stretch_68 : decode cX12_stretch 68 = .ok (.getfield 49, 3) := by decide +kernel
theorem dX12_stretch_71 : decode cX12_stretch 71 = .ok (.iload 4, 2) := by decide +kernel
theorem dX12_stretch_73 : decode cX12_stretch 73 = .ok (.iaload, 1) := by decide +kernel
theorem dX12_stretch_74 : decode cX12_stretch 74 = .ok (.iaload, 1) := by decide +kernel
theorem dX12_stretch_75 : decode cX12_stretch 75 = .ok (.if_icmp .ge 6, 3) := by decide +kernel
theorem dX12_stretch_78 : decode cX12_stretch 78 = .ok (.bipush (-5), 2) := by decide +kernel
theorem dX12_stretch_80 : decode cX12_stretch 80 = .ok (.ireturn, 1) := by decide +kernel
theorem dX12_stretch_81 : decode cX12_stretch 81 = .ok (.iinc 4 1, 3) := by decide +kernel
theorem dX12_stretch_84 : decode cX12_stretch 84 = .ok (.goto (-43), 3) := by decide +kernel
theorem dX12_stretch_87 : decode cX12_stretch 87 = .ok (.iconst 0, 1) := by decide +kernel
theorem dX12_stretch_88 : decode cX12_stretch 88 = .ok (.istore 4, 2) := by decide +kernel
theorem dX12_stretch_90 : decode cX12_stretch 90 = .ok (.iload 4, 2) := by decide +kernel
theorem dX12_stretch_92 : decode cX12_stretch 92 = .ok (.aload_n 0, 1) := by decide +kernel
theorem dX12_stretch_93 : decode cX12_stretch 93 = .ok (.getfield 159, 3) := by decide +kernel
theorem dX12_stretch_96 : decode cX12_stretch 96 = .ok (.if_icmp .ge 31, 3) := by decide +kernel
theorem dX12_stretch_99 : decode cX12_stretch 99 = .ok (.aload_n 0, 1) := by decide +kernel
theorem dX12_stretch_100 : decode cX12_stretch 100 = .ok (.getfield 46, 3) := by decide +kernel
theorem dX12_stretch_103 : decode cX12_stretch 103 = .ok (.iload 4, 2) := by decide +kernel
theorem dX12_stretch_105 : decode cX12_stretch 105 = .ok (.iaload, 1) := by decide +kernel
theorem dX12_stretch_106 : decode cX12_stretch 106 = .ok (.iload_n 1, 1) := by decide +kernel
theorem dX12_stretch_107 : decode cX12_stretch 107 = .ok (.iload_n 2, 1) := by decide +kernel
theorem dX12_stretch_108 : decode cX12_stretch 108 = .ok (.iload_n 3, 1) := by decide +kernel
theorem dX12_stretch_109 : decode cX12_stretch 109 = .ok (.invokestatic 247, 3) := by decide +kernel
theorem dX12_stretch_112 : decode cX12_stretch 112 = .ok (.sipush 20000, 3) := by decide +kernel
theorem dX12_stretch_115 : decode cX12_stretch 115 = .ok (.if_icmp .le 6, 3) := by decide +kernel
theorem dX12_stretch_118 : decode cX12_stretch 118 = .ok (.bipush (-2), 2) := by decide +kernel
theorem dX12_stretch_120 : decode cX12_stretch 120 = .ok (.ireturn, 1) := by decide +kernel
theorem dX12_stretch_121 : decode cX12_stretch 121 = .ok (.iinc 4 1, 3) := by decide +kernel
theorem dX12_stretch_124 : decode cX12_stretch 124 = .ok (.goto (-34), 3) := by decide +kernel
theorem dX12_stretch_127 : decode cX12_stretch 127 = .ok (.iconst 0, 1) := by decide +kernel
theorem dX12_stretch_128 : decode cX12_stretch 128 = .ok (.istore 4, 2) := by decide +kernel
theorem dX12_stretch_130 : decode cX12_stretch 130 = .ok (.iconst 0, 1) := by decide +kernel
theorem dX12_stretch_131 : decode cX12_stretch 131 = .ok (.istore 5, 2) := by decide +kernel
theorem dX12_stretch_133 : decode cX12_stretch 133 = .ok (.iload 5, 2) := by decide +kernel
theorem dX12_stretch_135 : decode cX12_stretch 135 = .ok (.aload_n 0, 1) := by decide +kernel
theorem dX12_stretch_136 : decode cX12_stretch 136 = .ok (.getfield 159, 3) := by decide +kernel
theorem dX12_stretch_139 : decode cX12_stretch 139 = .ok (.if_icmp .ge 55, 3) := by decide +kernel
theorem dX12_stretch_142 : decode cX12_stretch 142 = .ok (.aload_n 0, 1) := by decide +kernel
theorem dX12_stretch_143 : decode cX12_stretch 143 = .ok (.getfield 46, 3) := by decide +kernel
theorem dX12_stretch_146 : decode cX12_stretch 146 = .ok (.iload 5, 2) := by decide +kernel
theorem dX12_stretch_148 : decode cX12_stretch 148 = .ok (.iaload, 1) := by decide +kernel
theorem dX12_stretch_149 : decode cX12_stretch 149 = .ok (.iload_n 1, 1) := by decide +kernel
theorem dX12_stretch_150 : decode cX12_stretch 150 = .ok (.iload_n 2, 1) := by decide +kernel
theorem dX12_stretch_151 : decode cX12_stretch 151 = .ok (.iload_n 3, 1) := by decide +kernel
theorem dX12_stretch_152 : decode cX12_stretch 152 = .ok (.invokestatic 247, 3) := by decide +kernel
theorem dX12_stretch_155 : decode cX12_stretch 155 = .ok (.istore 6, 2) := by decide +kernel
theorem dX12_stretch_157 : decode cX12_stretch 157 = .ok (.iload 4, 2) := by decide +kernel
theorem dX12_stretch_159 : decode cX12_stretch 159 = .ok (.iload 6, 2) := by decide +kernel
theorem dX12_stretch_161 : decode cX12_stretch 161 = .ok (.aload_n 0, 1) := by decide +kernel
theorem dX12_stretch_162 : decode cX12_stretch 162 = .ok (.getfield 46, 3) := by decide +kernel
theorem dX12_stretch_165 : decode cX12_stretch 165 = .ok (.iload 5, 2) := by decide +kernel
theorem dX12_stretch_167 : decode cX12_stretch 167 = .ok (.iaload, 1) := by decide +kernel
theorem dX12_stretch_168 : decode cX12_stretch 168 = .ok (.if_icmp .eq 7, 3) := by decide +kernel
theorem dX12_stretch_171 : decode cX12_stretch 171 = .ok (.iconst 1, 1) := by decide +kernel
theorem dX12_stretch_172 : decode cX12_stretch 172 = .ok (.goto 4, 3) := by decide +kernel
theorem dX12_stretch_175 : decode cX12_stretch 175 = .ok (.iconst 0, 1) := by decide +kernel
theorem dX12_stretch_176 : decode cX12_stretch 176 = .ok (.iadd, 1) := by decide +kernel
theorem dX12_stretch_177 : decode cX12_stretch 177 = .ok (.istore 4, 2) := by decide +kernel
theorem dX12_stretch_179 : decode cX12_stretch 179 = .ok (.aload_n 0, 1) := by decide +kernel
theorem dX12_stretch_180 : decode cX12_stretch 180 = .ok (.getfield 46, 3) := by decide +kernel
theorem dX12_stretch_183 : decode cX12_stretch 183 = .ok (.iload 5, 2) := by decide +kernel
theorem dX12_stretch_185 : decode cX12_stretch 185 = .ok (.iload 6, 2) := by decide +kernel
theorem dX12_stretch_187 : decode cX12_stretch 187 = .ok (.iastore, 1) := by decide +kernel
theorem dX12_stretch_188 : decode cX12_stretch 188 = .ok (.iinc 5 1, 3) := by decide +kernel
theorem dX12_stretch_191 : decode cX12_stretch 191 = .ok (.goto (-58), 3) := by decide +kernel
theorem dX12_stretch_194 : decode cX12_stretch 194 = .ok (.iload 4, 2) := by decide +kernel
theorem dX12_stretch_196 : decode cX12_stretch 196 = .ok (.ireturn, 1) := by decide +kernel
theorem dX12_fire_0 : decode cX12_fire 0 = .ok (.aload_n 0, 1) := by decide +kernel
theorem dX12_fire_1 : decode cX12_fire 1 = .ok (.getfield 46, 3) := by decide +kernel
theorem dX12_fire_4 : decode cX12_fire 4 = .ok (.iload_n 1, 1) := by decide +kernel
theorem dX12_fire_5 : decode cX12_fire 5 = .ok (.iaload, 1) := by decide +kernel
theorem dX12_fire_6 : decode cX12_fire 6 = .ok (.aload_n 0, 1) := by decide +kernel
theorem dX12_fire_7 : decode cX12_fire 7 = .ok (.getfield 13, 3) := by decide +kernel
theorem dX12_fire_10 : decode cX12_fire 10 = .ok (.aload_n 0, 1) := by decide +kernel
theorem dX12_fire_11 : decode cX12_fire 11 = .ok (.getfield 49, 3) := by decide +kernel
theorem dX12_fire_14 : decode cX12_fire 14 = .ok (.iload_n 1, 1) := by decide +kernel
theorem dX12_fire_15 : decode cX12_fire 15 = .ok (.iaload, 1) := by decide +kernel
theorem dX12_fire_16 : decode cX12_fire 16 = .ok (.iaload, 1) := by decide +kernel
theorem dX12_fire_17 : decode cX12_fire 17 = .ok (.isub, 1) := by decide +kernel
theorem dX12_fire_18 : decode cX12_fire 18 = .ok (.ireturn, 1) := by decide +kernel
theorem dX12_gathers_0 : decode cX12_gathers 0 = .ok (.aload_n 0, 1) := by decide +kernel
theorem dX12_gathers_1 : decode cX12_gathers 1 = .ok (.iconst 0, 1) := by decide +kernel
theorem dX12_gathers_2 : decode cX12_gathers 2 = .ok (.putfield 251, 3) := by decide +kernel
theorem dX12_gathers_5 : decode cX12_gathers 5 = .ok (.iconst 0, 1) := by decide +kernel
theorem dX12_gathers_6 : decode cX12_gathers 6 = .ok (.istore_n 1, 1) := by decide +kernel
theorem dX12_gathers_7 : decode cX12_gathers 7 = .ok (.iload_n 1, 1) := by decide +kernel
theorem dX12_gathers_8 : decode cX12_gathers 8 = .ok (.bipush 6, 2) := by decide +kernel
theorem dX12_gathers_10 : decode cX12_gathers 10 = .ok (.if_icmp .ge 16, 3) := by decide +kernel
theorem dX12_gathers_13 : decode cX12_gathers 13 = .ok (.aload_n 0, 1) := by decide +kernel
theorem dX12_gathers_14 : decode cX12_gathers 14 = .ok (.getfield 119, 3) := by decide +kernel
theorem dX12_gathers_17 : decode cX12_gathers 17 = .ok (.iload_n 1, 1) := by decide +kernel
theorem dX12_gathers_18 : decode cX12_gathers 18 = .ok (.iconst 0, 1) := by decide +kernel
theorem dX12_gathers_19 : decode cX12_gathers 19 = .ok (.iastore, 1) := by decide +kernel
theorem dX12_gathers_20 : decode cX12_gathers 20 = .ok (.iinc 1 1, 3) := by decide +kernel
theorem dX12_gathers_23 : decode cX12_gathers 23 = .ok (.goto (-16), 3) := by decide +kernel
theorem dX12_gathers_26 : decode cX12_gathers 26 = .ok (.iconst 0, 1) := by decide +kernel
theorem dX12_gathers_27 : decode cX12_gathers 27 = .ok (.istore_n 1, 1) := by decide +kernel
theorem dX12_gathers_28 : decode cX12_gathers 28 = .ok (.iload_n 1, 1) := by decide +kernel
theorem dX12_gathers_29 : decode cX12_gathers 29 = .ok (.aload_n 0, 1) := by decide +kernel
theorem dX12_gathers_30 : decode cX12_gathers 30 = .ok (.getfield 159, 3) := by decide +kernel
theorem dX12_gathers_33 : decode cX12_gathers 33 = .ok (.if_icmp .ge 56, 3) := by decide +kernel
theorem dX12_gathers_36 : decode cX12_gathers 36 = .ok (.aload_n 0, 1) := by decide +kernel
theorem dX12_gathers_37 : decode cX12_gathers 37 = .ok (.getfield 52, 3) := by decide +kernel
theorem dX12_gathers_40 : decode cX12_gathers 40 = .ok (.iload_n 1, 1) := by decide +kernel
theorem dX12_gathers_41 : decode cX12_gathers 41 = .ok (.iaload, 1) := by decide +kernel
theorem dX12_gathers_42 : decode cX12_gathers 42 = .ok (.ifCond .lt 21, 3) := by decide +kernel
theorem dX12_gathers_45 : decode cX12_gathers 45 = .ok (.aload_n 0, 1) := by decide +kernel
theorem dX12_gathers_46 : decode cX12_gathers 46 = .ok (.getfield 119, 3) := by decide +kernel
theorem dX12_gathers_49 : decode cX12_gathers 49 = .ok (.aload_n 0, 1) := by decide +kernel
theorem dX12_gathers_50 : decode cX12_gathers 50 = .ok (.getfield 52, 3) := by decide +kernel
theorem dX12_gathers_53 : decode cX12_gathers 53 = .ok (.iload_n 1, 1) := by decide +kernel
theorem dX12_gathers_54 : decode cX12_gathers 54 = .ok (.iaload, 1) := by decide +kernel
theorem dX12_gathers_55 : decode cX12_gathers 55 = .ok (.dup2, 1) := by decide +kernel
theorem dX12_gathers_56 : decode cX12_gathers 56 = .ok (.iaload, 1) := by decide +kernel
theorem dX12_gathers_57 : decode cX12_gathers 57 = .ok (.iconst 1, 1) := by decide +kernel
theorem dX12_gathers_58 : decode cX12_gathers 58 = .ok (.iadd, 1) := by decide +kernel
theorem dX12_gathers_59 : decode cX12_gathers 59 = .ok (.iastore, 1) := by decide +kernel
theorem dX12_gathers_60 : decode cX12_gathers 60 = .ok (.goto 23, 3) := by decide +kernel
theorem dX12_gathers_63 : decode cX12_gathers 63 = .ok (.aload_n 0, 1) := by decide +kernel
theorem dX12_gathers_64 : decode cX12_gathers 64 = .ok (.getfield 110, 3) := by decide +kernel
theorem dX12_gathers_67 : decode cX12_gathers 67 = .ok (.aload_n 0, 1) := by decide +kernel
theorem dX12_gathers_68 : decode cX12_gathers 68 = .ok (.getfield 251, 3) := by decide +kernel
theorem dX12_gathers_71 : decode cX12_gathers 71 = .ok (.iload_n 1, 1) := by decide +kernel
theorem dX12_gathers_72 : decode cX12_gathers 72 = .ok (.iastore, 1) := by decide +kernel
theorem dX12_gathers_73 : decode cX12_gathers 73 = .ok (.aload_n 0, 1) := by decide +kernel
theorem dX12_gathers_74 : decode cX12_gathers 74 = .ok (.dup, 1) := by decide +kernel
theorem dX12_gathers_75 : decode cX12_gathers 75 = .ok (.getfield 251, 3) := by decide +kernel
theorem dX12_gathers_78 : decode cX12_gathers 78 = .ok (.iconst 1, 1) := by decide +kernel
theorem dX12_gathers_79 : decode cX12_gathers 79 = .ok (.iadd, 1) := by decide +kernel
theorem dX12_gathers_80 : decode cX12_gathers 80 = .ok (.putfield 251, 3) := by decide +kernel
theorem dX12_gathers_83 : decode cX12_gathers 83 = .ok (.iinc 1 1, 3) := by decide +kernel
theorem dX12_gathers_86 : decode cX12_gathers 86 = .ok (.goto (-58), 3) := by decide +kernel
theorem dX12_gathers_89 : decode cX12_gathers 89 = .ok (.return_, 1) := by decide +kernel
theorem dX12_mayStand_0 : decode cX12_mayStand 0 = .ok (.aload_n 0, 1) := by decide +kernel
theorem dX12_mayStand_1 : decode cX12_mayStand 1 = .ok (.iload_n 2, 1) := by decide +kernel
theorem dX12_mayStand_2 : decode cX12_mayStand 2 = .ok (.invokevirtual 186, 3) := by decide +kernel
theorem dX12_mayStand_5 : decode cX12_mayStand 5 = .ok (.ifCond .eq 17, 3) := by decide +kernel
theorem dX12_mayStand_8 : decode cX12_mayStand 8 = .ok (.aload_n 0, 1) := by decide +kernel
theorem dX12_mayStand_9 : decode cX12_mayStand 9 = .ok (.iload_n 2, 1) := by decide +kernel
theorem dX12_mayStand_10 : decode cX12_mayStand 10 = .ok (.aload_n 0, 1) := by decide +kernel
theorem dX12_mayStand_11 : decode cX12_mayStand 11 = .ok (.getfield 49, 3) := by decide +kernel
theorem dX12_mayStand_14 : decode cX12_mayStand 14 = .ok (.iload_n 1, 1) := by decide +kernel
theorem dX12_mayStand_15 : decode cX12_mayStand 15 = .ok (.iaload, 1) := by decide +kernel
theorem dX12_mayStand_16 : decode cX12_mayStand 16 = .ok (.invokevirtual 193, 3) := by decide +kernel
theorem dX12_mayStand_19 : decode cX12_mayStand 19 = .ok (.ifCond .ne 5, 3) := by decide +kernel
theorem dX12_mayStand_22 : decode cX12_mayStand 22 = .ok (.iconst 0, 1) := by decide +kernel
theorem dX12_mayStand_23 : decode cX12_mayStand 23 = .ok (.ireturn, 1) := by decide +kernel
theorem dX12_mayStand_24 : decode cX12_mayStand 24 = .ok (.iconst 0, 1) := by decide +kernel
theorem dX12_mayStand_25 : decode cX12_mayStand 25 = .ok (.istore 4, 2) := by decide +kernel
theorem dX12_mayStand_27 : decode cX12_mayStand 27 = .ok (.iload 4, 2) := by decide +kernel
theorem dX12_mayStand_29 : decode cX12_mayStand 29 = .ok (.iload_n 3, 1) := by decide +kernel
theorem dX12_mayStand_30 : decode cX12_mayStand 30 = .ok (.if_icmp .ge 33, 3) := by decide +kernel
theorem dX12_mayStand_33 : decode cX12_mayStand 33 = .ok (.aload_n 0, 1) := by decide +kernel
theorem dX12_mayStand_34 : decode cX12_mayStand 34 = .ok (.aload_n 0, 1) := by decide +kernel
theorem dX12_mayStand_35 : decode cX12_mayStand 35 = .ok (.getfield 49, 3) := by decide +kernel
theorem dX12_mayStand_38 : decode cX12_mayStand 38 = .ok (.iload_n 1, 1) := by decide +kernel
theorem dX12_mayStand_39 : decode cX12_mayStand 39 = .ok (.iaload, 1) := by decide +kernel
theorem dX12_mayStand_40 : decode cX12_mayStand 40 = .ok (.iload_n 2, 1) := by decide +kernel
theorem dX12_mayStand_41 : decode cX12_mayStand 41 = .ok (.aload_n 0, 1) := by decide +kernel
theorem dX12_mayStand_42 : decode cX12_mayStand 42 = .ok (.getfield 55, 3) := by decide +kernel
theorem dX12_mayStand_45 : decode cX12_mayStand 45 = .ok (.iload_n 1, 1) := by decide +kernel
theorem dX12_mayStand_46 : decode cX12_mayStand 46 = .ok (.iaload, 1) := by decide +kernel
theorem dX12_mayStand_47 : decode cX12_mayStand 47 = .ok (.iload 4, 2) := by decide +kernel
theorem dX12_mayStand_49 : decode cX12_mayStand 49 = .ok (.invokevirtual 205, 3) := by decide +kernel
theorem dX12_mayStand_52 : decode cX12_mayStand 52 = .ok (.ifCond .ne 5, 3) := by decide +kernel
theorem dX12_mayStand_55 : decode cX12_mayStand 55 = .ok (.iconst 0, 1) := by decide +kernel
theorem dX12_mayStand_56 : decode cX12_mayStand 56 = .ok (.ireturn, 1) := by decide +kernel
theorem dX12_mayStand_57 : decode cX12_mayStand 57 = .ok (.iinc 4 1, 3) := by decide +kernel
theorem dX12_mayStand_60 : decode cX12_mayStand 60 = .ok (.goto (-33), 3) := by decide +kernel
theorem dX12_mayStand_63 : decode cX12_mayStand 63 = .ok (.iconst 0, 1) := by decide +kernel
theorem dX12_mayStand_64 : decode cX12_mayStand 64 = .ok (.istore 4, 2) := by decide +kernel
theorem dX12_mayStand_66 : decode cX12_mayStand 66 = .ok (.iload 4, 2) := by decide +kernel
theorem dX12_mayStand_68 : decode cX12_mayStand 68 = .ok (.aload_n 0, 1) := by decide +kernel
theorem dX12_mayStand_69 : decode cX12_mayStand 69 = .ok (.getfield 159, 3) := by decide +kernel
theorem dX12_mayStand_72 : decode cX12_mayStand 72 = .ok (.if_icmp .ge 44, 3) := by decide +kernel
theorem dX12_mayStand_75 : decode cX12_mayStand 75 = .ok (.aload_n 0, 1) := by decide +kernel
theorem dX12_mayStand_76 : decode cX12_mayStand 76 = .ok (.getfield 52, 3) := by decide +kernel
theorem dX12_mayStand_79 : decode cX12_mayStand 79 = .ok (.iload 4, 2) := by decide +kernel
theorem dX12_mayStand_81 : decode cX12_mayStand 81 = .ok (.iaload, 1) := by decide +kernel
theorem dX12_mayStand_82 : decode cX12_mayStand 82 = .ok (.iload_n 2, 1) := by decide +kernel
theorem dX12_mayStand_83 : decode cX12_mayStand 83 = .ok (.if_icmp .ne 27, 3) := by decide +kernel
theorem dX12_mayStand_86 : decode cX12_mayStand 86 = .ok (.aload_n 0, 1) := by decide +kernel
theorem dX12_mayStand_87 : decode cX12_mayStand 87 = .ok (.iload 4, 2) := by decide +kernel
theorem dX12_mayStand_89 : decode cX12_mayStand 89 = .ok (.invokevirtual 254, 3) := by decide +kernel
theorem dX12_mayStand_92 : decode cX12_mayStand 92 = .ok (.aload_n 0, 1) := by decide +kernel
theorem dX12_mayStand_93 : decode cX12_mayStand 93 = .ok (.iload_n 1, 1) := by decide +kernel
theorem dX12_mayStand_94 : decode cX12_mayStand 94 = .ok (.invokevirtual 254, 3) := by decide +kernel
theorem dX12_mayStand_97 : decode cX12_mayStand 97 = .ok (.isub, 1) := by decide +kernel
theorem dX12_mayStand_98 : decode cX12_mayStand 98 = .ok (.invokestatic 182, 3) := by decide +kernel
theorem dX12_mayStand_101 : decode cX12_mayStand 101 = .ok (.aload_n 0, 1) := by decide +kernel
theorem dX12_mayStand_102 : decode cX12_mayStand 102 = .ok (.getfield 174, 3) := by decide +kernel
theorem dX12_mayStand_105 : decode cX12_mayStand 105 = .ok (.if_icmp .ge 5, 3) := by decide +kernel
theorem dX12_mayStand_108 : decode cX12_mayStand 108 = .ok (.iconst 0, 1) := by decide +kernel
theorem dX12_mayStand_109 : decode cX12_mayStand 109 = .ok (.ireturn, 1) := by decide +kernel
theorem dX12_mayStand_110 : decode cX12_mayStand 110 = .ok (.iinc 4 1, 3) := by decide +kernel
theorem dX12_mayStand_113 : decode cX12_mayStand 113 = .ok (.goto (-47), 3) := by decide +kernel
theorem dX12_mayStand_116 : decode cX12_mayStand 116 = .ok (.iconst 1, 1) := by decide +kernel
theorem dX12_mayStand_117 : decode cX12_mayStand 117 = .ok (.ireturn, 1) := by decide +kernel
theorem dX12_findFits_0 : decode cX12_findFits 0 = .ok (.iconst 0, 1) := by decide +kernel
theorem dX12_findFits_1 : decode cX12_findFits 1 = .ok (.istore_n 2, 1) := by decide +kernel
theorem dX12_findFits_2 : decode cX12_findFits 2 = .ok (.iload_n 2, 1) := by decide +kernel
theorem dX12_findFits_3 : decode cX12_findFits 3 = .ok (.aload_n 0, 1) := by decide +kernel
theorem dX12_findFits_4 : decode cX12_findFits 4 = .ok (.getfield 251, 3) := by decide +kernel
theorem dX12_findFits_7 : decode cX12_findFits 7 = .ok (.if_icmp .ge 46, 3) := by decide +kernel
theorem dX12_findFits_10 : decode cX12_findFits 10 = .ok (.iconst 0, 1) := by decide +kernel
theorem dX12_findFits_11 : decode cX12_findFits 11 = .ok (.istore_n 3, 1) := by decide +kernel
theorem dX12_findFits_12 : decode cX12_findFits 12 = .ok (.iload_n 3, 1) := by decide +kernel
theorem dX12_findFits_13 : decode cX12_findFits 13 = .ok (.bipush 6, 2) := by decide +kernel
theorem dX12_findFits_15 : decode cX12_findFits 15 = .ok (.if_icmp .ge 32, 3) := by decide +kernel
theorem dX12_findFits_18 : decode cX12_findFits 18 = .ok (.aload_n 0, 1) := by decide +kernel
theorem dX12_findFits_19 : decode cX12_findFits 19 = .ok (.getfield 122, 3) := by decide +kernel
theorem dX12_findFits_22 : decode cX12_findFits 22 = .ok (.bipush 6, 2) := by decide +kernel
theorem dX12_findFits_24 : decode cX12_findFits 24 = .ok (.iload_n 2, 1) := by decide +kernel
theorem dX12_findFits_25 : decode cX12_findFits 25 = .ok (.imul, 1) := by decide +kernel
theorem dX12_findFits_26 : decode cX12_findFits 26 = .ok (.iload_n 3, 1) := by decide +kernel
theorem dX12_findFits_27 : decode cX12_findFits 27 = .ok (.iadd, 1) := by decide +kernel
theorem dX12_findFits_28 : decode cX12_findFits 28 = .ok (.aload_n 0, 1) := by decide +kernel
theorem dX12_findFits_29 : decode cX12_findFits 29 = .ok (.aload_n 0, 1) := by decide +kernel
theorem dX12_findFits_30 : decode cX12_findFits 30 = .ok (.getfield 110, 3) := by decide +kernel
theorem dX12_findFits_33 : decode cX12_findFits 33 = .ok (.iload_n 2, 1) := by decide +kernel
theorem dX12_findFits_34 : decode cX12_findFits 34 = .ok (.iaload, 1) := by decide +kernel
theorem dX12_findFits_35 : decode cX12_findFits 35 = .ok (.iload_n 3, 1) := by decide +kernel
theorem dX12_findFits_36 : decode cX12_findFits 36 = .ok (.iload_n 1, 1) := by decide +kernel
theorem dX12_findFits_37 : decode cX12_findFits 37 = .ok (.invokevirtual 257, 3) := by decide +kernel
theorem dX12_findFits_40 : decode cX12_findFits 40 = .ok (.bastore, 1) := by decide +kernel
theorem dX12_findFits_41 : decode cX12_findFits 41 = .ok (.iinc 3 1, 3) := by decide +kernel
theorem dX12_findFits_44 : decode cX12_findFits 44 = .ok (.goto (-32), 3) := by decide +kernel
theorem dX12_findFits_47 : decode cX12_findFits 47 = .ok (.iinc 2 1, 3) := by decide +kernel
theorem dX12_findFits_50 : decode cX12_findFits 50 = .ok (.goto (-48), 3) := by decide +kernel
theorem dX12_findFits_53 : decode cX12_findFits 53 = .ok (.return_, 1) := by decide +kernel
theorem dX12_mayGet_0 : decode cX12_mayGet 0 = .ok (.aload_n 0, 1) := by decide +kernel
theorem dX12_mayGet_1 : decode cX12_mayGet 1 = .ok (.getfield 110, 3) := by decide +kernel
theorem dX12_mayGet_4 : decode cX12_mayGet 4 = .ok (.iload_n 1, 1) := by decide +kernel
theorem dX12_mayGet_5 : decode cX12_mayGet 5 = .ok (.iaload, 1) := by decide +kernel
theorem dX12_mayGet_6 : decode cX12_mayGet 6 = .ok (.istore_n 3, 1) := by decide +kernel
theorem dX12_mayGet_7 : decode cX12_mayGet 7 = .ok (.aload_n 0, 1) := by decide +kernel
theorem dX12_mayGet_8 : decode cX12_mayGet 8 = .ok (.getfield 119, 3) := by decide +kernel
theorem dX12_mayGet_11 : decode cX12_mayGet 11 = .ok (.iload_n 2, 1) := by decide +kernel
theorem dX12_mayGet_12 : decode cX12_mayGet 12 = .ok (.iaload, 1) := by decide +kernel
theorem dX12_mayGet_13 : decode cX12_mayGet 13 = .ok (.aload_n 0, 1) := by decide +kernel
theorem dX12_mayGet_14 : decode cX12_mayGet 14 = .ok (.getfield 37, 3) := by decide +kernel
theorem dX12_mayGet_17 : decode cX12_mayGet 17 = .ok (.iload_n 2, 1) := by decide +kernel
theorem dX12_mayGet_18 : decode cX12_mayGet 18 = .ok (.iaload, 1) := by decide +kernel
theorem dX12_mayGet_19 : decode cX12_mayGet 19 = .ok (.if_icmp .ge 17, 3) := by decide +kernel
theorem dX12_mayGet_22 : decode cX12_mayGet 22 = .ok (.aload_n 0, 1) := by decide +kernel
theorem dX12_mayGet_23 : decode cX12_mayGet 23 = .ok (.getfield 122, 3) := by decide +kernel
theorem dX12_mayGet_26 : decode cX12_mayGet 26 = .ok (.bipush 6, 2) := by decide +kernel
theorem dX12_mayGet_28 : decode cX12_mayGet 28 = .ok (.iload_n 1, 1) := by decide +kernel
theorem dX12_mayGet_29 : decode cX12_mayGet 29 = .ok (.imul, 1) := by decide +kernel
theorem dX12_mayGet_30 : decode cX12_mayGet 30 = .ok (.iload_n 2, 1) := by decide +kernel
theorem dX12_mayGet_31 : decode cX12_mayGet 31 = .ok (.iadd, 1) := by decide +kernel
theorem dX12_mayGet_32 : decode cX12_mayGet 32 = .ok (.baload, 1) := by decide +kernel
theorem dX12_mayGet_33 : decode cX12_mayGet 33 = .ok (.ifCond .ne 5, 3) := by decide +kernel
theorem dX12_mayGet_36 : decode cX12_mayGet 36 = .ok (.iconst 0, 1) := by decide +kernel
theorem dX12_mayGet_37 : decode cX12_mayGet 37 = .ok (.ireturn, 1) := by decide +kernel
theorem dX12_mayGet_38 : decode cX12_mayGet 38 = .ok (.iconst 0, 1) := by decide +kernel
theorem dX12_mayGet_39 : decode cX12_mayGet 39 = .ok (.istore 4, 2) := by decide +kernel
theorem dX12_mayGet_41 : decode cX12_mayGet 41 = .ok (.iload 4, 2) := by decide +kernel
theorem dX12_mayGet_43 : decode cX12_mayGet 43 = .ok (.iload_n 1, 1) := by decide +kernel
theorem dX12_mayGet_44 : decode cX12_mayGet 44 = .ok (.if_icmp .ge 49, 3) := by decide +kernel
theorem dX12_mayGet_47 : decode cX12_mayGet 47 = .ok (.aload_n 0, 1) := by decide +kernel
theorem dX12_mayGet_48 : decode cX12_mayGet 48 = .ok (.getfield 113, 3) := by decide +kernel
theorem dX12_mayGet_51 : decode cX12_mayGet 51 = .ok (.iload 4, 2) := by decide +kernel
theorem dX12_mayGet_53 : decode cX12_mayGet 53 = .ok (.iaload, 1) := by decide +kernel
theorem dX12_mayGet_54 : decode cX12_mayGet 54 = .ok (.iload_n 2, 1) := by decide +kernel
theorem dX12_mayGet_55 : decode cX12_mayGet 55 = .ok (.if_icmp .ne 32, 3) := by decide +kernel
theorem dX12_mayGet_58 : decode cX12_mayGet 58 = .ok (.aload_n 0, 1) := by decide +kernel
theorem dX12_mayGet_59 : decode cX12_mayGet 59 = .ok (.aload_n 0, 1) := by decide +kernel
theorem dX12_mayGet_60 : decode cX12_mayGet 60 = .ok (.getfield 110, 3) := by decide +kernel
theorem dX12_mayGet_63 : decode cX12_mayGet 63 = .ok (.iload 4, 2) := by decide +kernel
theorem dX12_mayGet_65 : decode cX12_mayGet 65 = .ok (.iaload, 1) := by decide +kernel
theorem dX12_mayGet_66 : decode cX12_mayGet 66 = .ok (.invokevirtual 254, 3) := by decide +kernel
theorem dX12_mayGet_69 : decode cX12_mayGet 69 = .ok (.aload_n 0, 1) := by decide +kernel
theorem dX12_mayGet_70 : decode cX12_mayGet 70 = .ok (.iload_n 3, 1) := by decide +kernel
theorem dX12_mayGet_71 : decode cX12_mayGet 71 = .ok (.invokevirtual 254, 3) := by decide +kernel
theorem dX12_mayGet_74 : decode cX12_mayGet 74 = .ok (.isub, 1) := by decide +kernel
theorem dX12_mayGet_75 : decode cX12_mayGet 75 = .ok (.invokestatic 182, 3) := by decide +kernel
theorem dX12_mayGet_78 : decode cX12_mayGet 78 = .ok (.aload_n 0, 1) := by decide +kernel
theorem dX12_mayGet_79 : decode cX12_mayGet 79 = .ok (.getfield 174, 3) := by decide +kernel
theorem dX12_mayGet_82 : decode cX12_mayGet 82 = .ok (.if_icmp .ge 5, 3) := by decide +kernel
theorem dX12_mayGet_85 : decode cX12_mayGet 85 = .ok (.iconst 0, 1) := by decide +kernel
theorem dX12_mayGet_86 : decode cX12_mayGet 86 = .ok (.ireturn, 1) := by decide +kernel
theorem dX12_mayGet_87 : decode cX12_mayGet 87 = .ok (.iinc 4 1, 3) := by decide +kernel
theorem dX12_mayGet_90 : decode cX12_mayGet 90 = .ok (.goto (-49), 3) := by decide +kernel
theorem dX12_mayGet_93 : decode cX12_mayGet 93 = .ok (.iconst 1, 1) := by decide +kernel
theorem dX12_mayGet_94 : decode cX12_mayGet 94 = .ok (.ireturn, 1) := by decide +kernel
theorem dX12_greatest_0 : decode cX12_greatest 0 = .ok (.iconst 0, 1) := by decide +kernel
theorem dX12_greatest_1 : decode cX12_greatest 1 = .ok (.istore_n 1, 1) := by decide +kernel
theorem dX12_greatest_2 : decode cX12_greatest 2 = .ok (.iconst 0, 1) := by decide +kernel
theorem dX12_greatest_3 : decode cX12_greatest 3 = .ok (.istore_n 2, 1) := by decide +kernel
theorem dX12_greatest_4 : decode cX12_greatest 4 = .ok (.iload_n 2, 1) := by decide +kernel
theorem dX12_greatest_5 : decode cX12_greatest 5 = .ok (.bipush 6, 2) := by decide +kernel
theorem dX12_greatest_7 : decode cX12_greatest 7 = .ok (.if_icmp .ge 30, 3) := by decide +kernel
theorem dX12_greatest_10 : decode cX12_greatest 10 = .ok (.aload_n 0, 1) := by decide +kernel
theorem dX12_greatest_11 : decode cX12_greatest 11 = .ok (.getfield 119, 3) := by decide +kernel
theorem dX12_greatest_14 : decode cX12_greatest 14 = .ok (.iload_n 2, 1) := by decide +kernel
theorem dX12_greatest_15 : decode cX12_greatest 15 = .ok (.iaload, 1) := by decide +kernel
theorem dX12_greatest_16 : decode cX12_greatest 16 = .ok (.iload_n 1, 1) := by decide +kernel
theorem dX12_greatest_17 : decode cX12_greatest 17 = .ok (.if_icmp .le 12, 3) := by decide +kernel
theorem dX12_greatest_20 : decode cX12_greatest 20 = .ok (.aload_n 0, 1) := by decide +kernel
theorem dX12_greatest_21 : decode cX12_greatest 21 = .ok (.getfield 119, 3) := by decide +kernel
theorem dX12_greatest_24 : decode cX12_greatest 24 = .ok (.iload_n 2, 1) := by decide +kernel
theorem dX12_greatest_25 : decode cX12_greatest 25 = .ok (.iaload, 1) := by decide +kernel
theorem dX12_greatest_26 : decode cX12_greatest 26 = .ok (.goto 4, 3) := by decide +kernel
theorem dX12_greatest_29 : decode cX12_greatest 29 = .ok (.iload_n 1, 1) := by decide +kernel
theorem dX12_greatest_30 : decode cX12_greatest 30 = .ok (.istore_n 1, 1) := by decide +kernel
theorem dX12_greatest_31 : decode cX12_greatest 31 = .ok (.iinc 2 1, 3) := by decide +kernel
theorem dX12_greatest_34 : decode cX12_greatest 34 = .ok (.goto (-30), 3) := by decide +kernel
theorem dX12_greatest_37 : decode cX12_greatest 37 = .ok (.iload_n 1, 1) := by decide +kernel
theorem dX12_greatest_38 : decode cX12_greatest 38 = .ok (.ireturn, 1) := by decide +kernel
theorem dX12_lays_0 : decode cX12_lays 0 = .ok (.aload_n 0, 1) := by decide +kernel
theorem dX12_lays_1 : decode cX12_lays 1 = .ok (.getfield 260, 3) := by decide +kernel
theorem dX12_lays_4 : decode cX12_lays 4 = .ok (.ifCond .lt 15, 3) := by decide +kernel
theorem dX12_lays_7 : decode cX12_lays 7 = .ok (.aload_n 0, 1) := by decide +kernel
theorem dX12_lays_8 : decode cX12_lays 8 = .ok (.invokevirtual 263, 3) := by decide +kernel
theorem dX12_lays_11 : decode cX12_lays 11 = .ok (.aload_n 0, 1) := by decide +kernel
theorem dX12_lays_12 : decode cX12_lays 12 = .ok (.getfield 260, 3) := by decide +kernel
theorem dX12_lays_15 : decode cX12_lays 15 = .ok (.if_icmp .lt 4, 3) := by decide +kernel
theorem dX12_lays_18 : decode cX12_lays 18 = .ok (.return_, 1) := by decide +kernel
theorem dX12_lays_19 : decode cX12_lays 19 = .ok (.iload_n 1, 1) := by decide +kernel
theorem dX12_lays_20 : decode cX12_lays 20 = .ok (.aload_n 0, 1) := by decide +kernel
theorem dX12_lays_21 : decode cX12_lays 21 = .ok (.getfield 251, 3) := by decide +kernel
theorem dX12_lays_24 : decode cX12_lays 24 = .ok (.if_icmp .ne 37, 3) := by decide +kernel
theorem dX12_lays_27 : decode cX12_lays 27 = .ok (.aload_n 0, 1) := by decide +kernel
theorem dX12_lays_28 : decode cX12_lays 28 = .ok (.aload_n 0, 1) := by decide +kernel
theorem dX12_lays_29 : decode cX12_lays 29 = .ok (.invokevirtual 263, 3) := by decide +kernel
theorem dX12_lays_32 : decode cX12_lays 32 = .ok (.putfield 260, 3) := by decide +kernel
theorem dX12_lays_35 : decode cX12_lays 35 = .ok (.iconst 0, 1) := by decide +kernel
theorem dX12_lays_36 : decode cX12_lays 36 = .ok (.istore_n 2, 1) := by decide +kernel
theorem dX12_lays_37 : decode cX12_lays 37 = .ok (.iload_n 2, 1) := by decide +kernel
theorem dX12_lays_38 : decode cX12_lays 38 = .ok (.iload_n 1, 1) := by decide +kernel
theorem dX12_lays_39 : decode cX12_lays 39 = .ok (.if_icmp .ge 21, 3) := by decide +kernel
theorem dX12_lays_42 : decode cX12_lays 42 = .ok (.aload_n 0, 1) := by decide +kernel
theorem dX12_lays_43 : decode cX12_lays 43 = .ok (.getfield 116, 3) := by decide +kernel
theorem dX12_lays_46 : decode cX12_lays 46 = .ok (.iload_n 2, 1) := by decide +kernel
theorem dX12_lays_47 : decode cX12_lays 47 = .ok (.aload_n 0, 1) := by decide +kernel
theorem dX12_lays_48 : decode cX12_lays 48 = .ok (.getfield 113, 3) := by decide +kernel
theorem dX12_lays_51 : decode cX12_lays 51 = .ok (.iload_n 2, 1) := by decide +kernel
theorem dX12_lays_52 : decode cX12_lays 52 = .ok (.iaload, 1) := by decide +kernel
theorem dX12_lays_53 : decode cX12_lays 53 = .ok (.iastore, 1) := by decide +kernel
theorem dX12_lays_54 : decode cX12_lays 54 = .ok (.iinc 2 1, 3) := by decide +kernel
theorem dX12_lays_57 : decode cX12_lays 57 = .ok (.goto (-20), 3) := by decide +kernel
theorem dX12_lays_60 : decode cX12_lays 60 = .ok (.return_, 1) := by decide +kernel
theorem dX12_lays_61 : decode cX12_lays 61 = .ok (.iconst 0, 1) := by decide +kernel
theorem dX12_lays_62 : decode cX12_lays 62 = .ok (.istore_n 2, 1) := by decide +kernel
theorem dX12_lays_63 : decode cX12_lays 63 = .ok (.iload_n 2, 1) := by decide +kernel
theorem dX12_lays_64 : decode cX12_lays 64 = .ok (.bipush 6, 2) := by decide +kernel
theorem dX12_lays_66 : decode cX12_lays 66 = .ok (.if_icmp .ge 55, 3) := by decide +kernel
theorem dX12_lays_69 : decode cX12_lays 69 = .ok (.aload_n 0, 1) := by decide +kernel
theorem dX12_lays_70 : decode cX12_lays 70 = .ok (.iload_n 1, 1) := by decide +kernel
theorem dX12_lays_71 : decode cX12_lays 71 = .ok (.iload_n 2, 1) := by decide +kernel
theorem dX12_lays_72 : decode cX12_lays 72 = .ok (.invokevirtual 266, 3) := by decide +kernel
theorem dX12_lays_75 : decode cX12_lays 75 = .ok (.ifCond .ne 6, 3) := by decide +kernel
theorem dX12_lays_78 : decode cX12_lays 78 = .ok (.goto 37, 3) := by decide +kernel
theorem dX12_lays_81 : decode cX12_lays 81 = .ok (.aload_n 0, 1) := by decide +kernel
theorem dX12_lays_82 : decode cX12_lays 82 = .ok (.getfield 113, 3) := by decide +kernel
theorem dX12_lays_85 : decode cX12_lays 85 = .ok (.iload_n 1, 1) := by decide +kernel
theorem dX12_lays_86 : decode cX12_lays 86 = .ok (.iload_n 2, 1) := by decide +kernel
theorem dX12_lays_87 : decode cX12_lays 87 = .ok (.iastore, 1) := by decide +kernel
theorem dX12_lays_88 : decode cX12_lays 88 = .ok (.aload_n 0, 1) := by decide +kernel
theorem dX12_lays_89 : decode cX12_lays 89 = .ok (.getfield 119, 3) := by decide +kernel
theorem dX12_lays_92 : decode cX12_lays 92 = .ok (.iload_n 2, 1) := by decide +kernel
theorem dX12_lays_93 : decode cX12_lays 93 = .ok (.dup2, 1) := by decide +kernel
theorem dX12_lays_94 : decode cX12_lays 94 = .ok (.iaload, 1) := by decide +kernel
theorem dX12_lays_95 : decode cX12_lays 95 = .ok (.iconst 1, 1) := by decide +kernel
theorem dX12_lays_96 : decode cX12_lays 96 = .ok (.iadd, 1) := by decide +kernel
theorem dX12_lays_97 : decode cX12_lays 97 = .ok (.iastore, 1) := by decide +kernel
theorem dX12_lays_98 : decode cX12_lays 98 = .ok (.aload_n 0, 1) := by decide +kernel
theorem dX12_lays_99 : decode cX12_lays 99 = .ok (.iload_n 1, 1) := by decide +kernel
theorem dX12_lays_100 : decode cX12_lays 100 = .ok (.iconst 1, 1) := by decide +kernel
theorem dX12_lays_101 : decode cX12_lays 101 = .ok (.iadd, 1) := by decide +kernel
theorem dX12_lays_102 : decode cX12_lays 102 = .ok (.invokevirtual 269, 3) := by decide +kernel
theorem dX12_lays_105 : decode cX12_lays 105 = .ok (.aload_n 0, 1) := by decide +kernel
theorem dX12_lays_106 : decode cX12_lays 106 = .ok (.getfield 119, 3) := by decide +kernel
theorem dX12_lays_109 : decode cX12_lays 109 = .ok (.iload_n 2, 1) := by decide +kernel
theorem dX12_lays_110 : decode cX12_lays 110 = .ok (.dup2, 1) := by decide +kernel
theorem dX12_lays_111 : decode cX12_lays 111 = .ok (.iaload, 1) := by decide +kernel
theorem dX12_lays_112 : decode cX12_lays 112 = .ok (.iconst 1, 1) := by decide +kernel
theorem dX12_lays_113 : decode cX12_lays 113 = .ok (.isub, 1) := by decide +kernel
theorem dX12_lays_114 : decode cX12_lays 114 = .ok (.iastore, 1) := by decide +kernel
theorem dX12_lays_115 : decode cX12_lays 115 = .ok (.iinc 2 1, 3) := by decide +kernel
theorem dX12_lays_118 : decode cX12_lays 118 = .ok (.goto (-55), 3) := by decide +kernel
theorem dX12_lays_121 : decode cX12_lays 121 = .ok (.return_, 1) := by decide +kernel
theorem dX12_lay_0 : decode cX12_lay 0 = .ok (.aload_n 0, 1) := by decide +kernel
theorem dX12_lay_1 : decode cX12_lay 1 = .ok (.iconst 0, 1) := by decide +kernel
theorem dX12_lay_2 : decode cX12_lay 2 = .ok (.putfield 155, 3) := by decide +kernel
theorem dX12_lay_5 : decode cX12_lay 5 = .ok (.iload_n 1, 1) := by decide +kernel
theorem dX12_lay_6 : decode cX12_lay 6 = .ok (.iconst 0, 1) := by decide +kernel
theorem dX12_lay_7 : decode cX12_lay 7 = .ok (.iconst 4, 1) := by decide +kernel
theorem dX12_lay_8 : decode cX12_lay 8 = .ok (.invokestatic 177, 3) := by decide +kernel
theorem dX12_lay_11 : decode cX12_lay 11 = .ok (.ifCond .ne 5, 3) := by decide +kernel
theorem dX12_lay_14 : decode cX12_lay 14 = .ok (.iconst (-1), 1) := by decide +kernel
theorem dX12_lay_15 : decode cX12_lay 15 = .ok (.ireturn, 1) := by decide +kernel
theorem dX12_lay_16 : decode cX12_lay 16 = .ok (.aload_n 0, 1) := by decide +kernel
theorem dX12_lay_17 : decode cX12_lay 17 = .ok (.invokevirtual 272, 3) := by decide +kernel
theorem dX12_lay_20 : decode cX12_lay 20 = .ok (.aload_n 0, 1) := by decide +kernel
theorem dX12_lay_21 : decode cX12_lay 21 = .ok (.getfield 251, 3) := by decide +kernel
theorem dX12_lay_24 : decode cX12_lay 24 = .ok (.bipush 8, 2) := by decide +kernel
theorem dX12_lay_26 : decode cX12_lay 26 = .ok (.if_icmp .le 6, 3) := by decide +kernel
theorem dX12_lay_29 : decode cX12_lay 29 = .ok (.bipush (-4), 2) := by decide +kernel
theorem dX12_lay_31 : decode cX12_lay 31 = .ok (.ireturn, 1) := by decide +kernel
theorem dX12_lay_32 : decode cX12_lay 32 = .ok (.aload_n 0, 1) := by decide +kernel
theorem dX12_lay_33 : decode cX12_lay 33 = .ok (.iconst (-1), 1) := by decide +kernel
theorem dX12_lay_34 : decode cX12_lay 34 = .ok (.putfield 260, 3) := by decide +kernel
theorem dX12_lay_37 : decode cX12_lay 37 = .ok (.aload_n 0, 1) := by decide +kernel
theorem dX12_lay_38 : decode cX12_lay 38 = .ok (.iload_n 1, 1) := by decide +kernel
theorem dX12_lay_39 : decode cX12_lay 39 = .ok (.invokevirtual 275, 3) := by decide +kernel
theorem dX12_lay_42 : decode cX12_lay 42 = .ok (.aload_n 0, 1) := by decide +kernel
theorem dX12_lay_43 : decode cX12_lay 43 = .ok (.iconst 0, 1) := by decide +kernel
theorem dX12_lay_44 : decode cX12_lay 44 = .ok (.invokevirtual 269, 3) := by decide +kernel
theorem dX12_lay_47 : decode cX12_lay 47 = .ok (.aload_n 0, 1) := by decide +kernel
theorem dX12_lay_48 : decode cX12_lay 48 = .ok (.getfield 260, 3) := by decide +kernel
theorem dX12_lay_51 : decode cX12_lay 51 = .ok (.ifCond .ge 6, 3) := by decide +kernel
theorem dX12_lay_54 : decode cX12_lay 54 = .ok (.bipush (-3), 2) := by decide +kernel
theorem dX12_lay_56 : decode cX12_lay 56 = .ok (.ireturn, 1) := by decide +kernel
theorem dX12_lay_57 : decode cX12_lay 57 = .ok (.iconst 0, 1) := by decide +kernel
theorem dX12_lay_58 : decode cX12_lay 58 = .ok (.istore_n 2, 1) := by decide +kernel
theorem dX12_lay_59 : decode cX12_lay 59 = .ok (.iload_n 2, 1) := by decide +kernel
theorem dX12_lay_60 : decode cX12_lay 60 = .ok (.aload_n 0, 1) := by decide +kernel
theorem dX12_lay_61 : decode cX12_lay 61 = .ok (.getfield 251, 3) := by decide +kernel
theorem dX12_lay_64 : decode cX12_lay 64 = .ok (.if_icmp .ge 26, 3) := by decide +kernel
theorem dX12_lay_67 : decode cX12_lay 67 = .ok (.aload_n 0, 1) := by decide +kernel
theorem dX12_lay_68 : decode cX12_lay 68 = .ok (.getfield 52, 3) := by decide +kernel
theorem dX12_lay_71 : decode cX12_lay 71 = .ok (.aload_n 0, 1) := by decide +kernel
theorem dX12_lay_72 : decode cX12_lay 72 = .ok (.getfield 110, 3) := by decide +kernel
theorem dX12_lay_75 : decode cX12_lay 75 = .ok (.iload_n 2, 1) := by decide +kernel
theorem dX12_lay_76 : decode cX12_lay 76 = .ok (.iaload, 1) := by decide +kernel
theorem dX12_lay_77 : decode cX12_lay 77 = .ok (.aload_n 0, 1) := by decide +kernel
theorem dX12_lay_78 : decode cX12_lay 78 = .ok (.getfield 116, 3) := by decide +kernel
theorem dX12_lay_81 : decode cX12_lay 81 = .ok (.iload_n 2, 1) := by decide +kernel
theorem dX12_lay_82 : decode cX12_lay 82 = .ok (.iaload, 1) := by decide +kernel
theorem dX12_lay_83 : decode cX12_lay 83 = .ok (.iastore, 1) := by decide +kernel
theorem dX12_lay_84 : decode cX12_lay 84 = .ok (.iinc 2 1, 3) := by decide +kernel
theorem dX12_lay_87 : decode cX12_lay 87 = .ok (.goto (-28), 3) := by decide +kernel
theorem dX12_lay_90 : decode cX12_lay 90 = .ok (.aload_n 0, 1) := by decide +kernel
theorem dX12_lay_91 : decode cX12_lay 91 = .ok (.getfield 260, 3) := by decide +kernel
theorem dX12_lay_94 : decode cX12_lay 94 = .ok (.ireturn, 1) := by decide +kernel
theorem dX12_proof_0 : decode cX12_proof 0 = .ok (.iload_n 1, 1) := by decide +kernel
theorem dX12_proof_1 : decode cX12_proof 1 = .ok (.invokestatic 231, 3) := by decide +kernel
theorem dX12_proof_4 : decode cX12_proof 4 = .ok (.ifCond .eq 12, 3) := by decide +kernel
theorem dX12_proof_7 : decode cX12_proof 7 = .ok (.iload_n 2, 1) := by decide +kernel
theorem dX12_proof_8 : decode cX12_proof 8 = .ok (.iconst 0, 1) := by decide +kernel
theorem dX12_proof_9 : decode cX12_proof 9 = .ok (.iconst 4, 1) := by decide +kernel
theorem dX12_proof_10 : decode cX12_proof 10 = .ok (.invokestatic 177, 3) := by decide +kernel
theorem dX12_proof_13 : decode cX12_proof 13 = .ok (.ifCond .ne 5, 3) := by decide +kernel
theorem dX12_proof_16 : decode cX12_proof 16 = .ok (.iconst (-1), 1) := by decide +kernel
theorem dX12_proof_17 : decode cX12_proof 17 = .ok (.ireturn, 1) := by decide +kernel
theorem dX12_proof_18 : decode cX12_proof 18 = .ok (.aload_n 0, 1) := by decide +kernel
theorem dX12_proof_19 : decode cX12_proof 19 = .ok (.invokevirtual 272, 3) := by decide +kernel
theorem dX12_proof_22 : decode cX12_proof 22 = .ok (.aload_n 0, 1) := by decide +kernel
theorem dX12_proof_23 : decode cX12_proof 23 = .ok (.getfield 251, 3) := by decide +kernel
theorem dX12_proof_26 : decode cX12_proof 26 = .ok (.bipush 8, 2) := by decide +kernel
theorem dX12_proof_28 : decode cX12_proof 28 = .ok (.if_icmp .le 6, 3) := by decide +kernel
theorem dX12_proof_31 : decode cX12_proof 31 = .ok (.bipush (-4), 2) := by decide +kernel
theorem dX12_proof_33 : decode cX12_proof 33 = .ok (.ireturn, 1) := by decide +kernel
theorem dX12_proof_34 : decode cX12_proof 34 = .ok (.aload_n 0, 1) := by decide +kernel
theorem dX12_proof_35 : decode cX12_proof 35 = .ok (.iload_n 1, 1) := by decide +kernel
theorem dX12_proof_36 : decode cX12_proof 36 = .ok (.invokevirtual 234, 3) := by decide +kernel
theorem dX12_proof_39 : decode cX12_proof 39 = .ok (.istore_n 3, 1) := by decide +kernel
theorem dX12_proof_40 : decode cX12_proof 40 = .ok (.iload_n 3, 1) := by decide +kernel
theorem dX12_proof_41 : decode cX12_proof 41 = .ok (.ifCond .eq 5, 3) := by decide +kernel
theorem dX12_proof_44 : decode cX12_proof 44 = .ok (.iload_n 3, 1) := by decide +kernel
theorem dX12_proof_45 : decode cX12_proof 45 = .ok (.ireturn, 1) := by decide +kernel
theorem dX12_proof_46 : decode cX12_proof 46 = .ok (.aload_n 0, 1) := by decide +kernel
theorem dX12_proof_47 : decode cX12_proof 47 = .ok (.iload_n 2, 1) := by decide +kernel
theorem dX12_proof_48 : decode cX12_proof 48 = .ok (.invokevirtual 275, 3) := by decide +kernel
theorem dX12_proof_51 : decode cX12_proof 51 = .ok (.iconst 0, 1) := by decide +kernel
theorem dX12_proof_52 : decode cX12_proof 52 = .ok (.istore 4, 2) := by decide +kernel
theorem dX12_proof_54 : decode cX12_proof 54 = .ok (.iload 4, 2) := by decide +kernel
theorem dX12_proof_56 : decode cX12_proof 56 = .ok (.aload_n 0, 1) := by decide +kernel
theorem dX12_proof_57 : decode cX12_proof 57 = .ok (.getfield 251, 3) := by decide +kernel
theorem dX12_proof_60 : decode cX12_proof 60 = .ok (.if_icmp .ge 75, 3) := by decide +kernel
theorem dX12_proof_63 : decode cX12_proof 63 = .ok (.iload 4, 2) := by decide +kernel
theorem dX12_proof_65 : decode cX12_proof 65 = .ok (.aload_n 0, 1) := by decide +kernel
theorem dX12_proof_66 : decode cX12_proof 66 = .ok (.getfield 94, 3) := by decide +kernel
theorem dX12_proof_69 : decode cX12_proof 69 = .ok (.iload_n 1, 1) := by decide +kernel
theorem dX12_proof_70 : decode cX12_proof 70 = .ok (.iaload, 1) := by decide +kernel
theorem dX12_proof_71 : decode cX12_proof 71 = .ok (.if_icmp .ge 64, 3) := by decide +kernel
theorem dX12_proof_74 : decode cX12_proof 74 = .ok (.aload_n 0, 1) := by decide +kernel
theorem dX12_proof_75 : decode cX12_proof 75 = .ok (.iload_n 1, 1) := by decide +kernel
theorem dX12_proof_76 : decode cX12_proof 76 = .ok (.iload 4, 2) := by decide +kernel
theorem dX12_proof_78 : decode cX12_proof 78 = .ok (.invokevirtual 211, 3) := by decide +kernel
theorem dX12_proof_81 : decode cX12_proof 81 = .ok (.istore 5, 2) := by decide +kernel
theorem dX12_proof_83 : decode cX12_proof 83 = .ok (.aload_n 0, 1) := by decide +kernel
theorem dX12_proof_84 : decode cX12_proof 84 = .ok (.iload 5, 2) := by decide +kernel
theorem dX12_proof_86 : decode cX12_proof 86 = .ok (.invokevirtual 186, 3) := by decide +kernel
theorem dX12_proof_89 : decode cX12_proof 89 = .ok (.ifCond .eq 14, 3) := by decide +kernel
theorem dX12_proof_92 : decode cX12_proof 92 = .ok (.aload_n 0, 1) := by decide +kernel
theorem dX12_proof_93 : decode cX12_proof 93 = .ok (.iload 4, 2) := by decide +kernel
theorem dX12_proof_95 : decode cX12_proof 95 = .ok (.iload 5, 2) := by decide +kernel
theorem dX12_proof_97 : decode cX12_proof 97 = .ok (.invokevirtual 266, 3) := by decide +kernel
theorem dX12_proof_100 : decode cX12_proof 100 = .ok (.ifCond .ne 9, 3) := by decide +kernel
theorem dX12_proof_103 : decode cX12_proof 103 = .ok (.bipush (-100), 2) := by decide +kernel
theorem dX12_proof_105 : decode cX12_proof 105 = .ok (.iload 4, 2) := by decide +kernel
theorem dX12_proof_107 : decode cX12_proof 107 = .ok (.isub, 1) := by decide +kernel
theorem dX12_proof_108 : decode cX12_proof 108 = .ok (.ireturn, 1) := by decide +kernel
theorem dX12_proof_109 : decode cX12_proof 109 = .ok (.aload_n 0, 1) := by decide +kernel
theorem dX12_proof_110 : decode cX12_proof 110 = .ok (.getfield 113, 3) := by decide +kernel
theorem dX12_proof_113 : decode cX12_proof 113 = .ok (.iload 4, 2) := by decide +kernel
theorem dX12_proof_115 : decode cX12_proof 115 = .ok (.iload 5, 2) := by decide +kernel
theorem dX12_proof_117 : decode cX12_proof 117 = .ok (.iastore, 1) := by decide +kernel
theorem dX12_proof_118 : decode cX12_proof 118 = .ok (.aload_n 0, 1) := by decide +kernel
theorem dX12_proof_119 : decode cX12_proof 119 = .ok (.getfield 119, 3) := by decide +kernel
theorem dX12_proof_122 : decode cX12_proof 122 = .ok (.iload 5, 2) := by decide +kernel
theorem dX12_proof_124 : decode cX12_proof 124 = .ok (.dup2, 1) := by decide +kernel
theorem dX12_proof_125 : decode cX12_proof 125 = .ok (.iaload, 1) := by decide +kernel
theorem dX12_proof_126 : decode cX12_proof 126 = .ok (.iconst 1, 1) := by decide +kernel
theorem dX12_proof_127 : decode cX12_proof 127 = .ok (.iadd, 1) := by decide +kernel
theorem dX12_proof_128 : decode cX12_proof 128 = .ok (.iastore, 1) := by decide +kernel
theorem dX12_proof_129 : decode cX12_proof 129 = .ok (.iinc 4 1, 3) := by decide +kernel
theorem dX12_proof_132 : decode cX12_proof 132 = .ok (.goto (-78), 3) := by decide +kernel
theorem dX12_proof_135 : decode cX12_proof 135 = .ok (.aload_n 0, 1) := by decide +kernel
theorem dX12_proof_136 : decode cX12_proof 136 = .ok (.getfield 94, 3) := by decide +kernel
theorem dX12_proof_139 : decode cX12_proof 139 = .ok (.iload_n 1, 1) := by decide +kernel
theorem dX12_proof_140 : decode cX12_proof 140 = .ok (.iaload, 1) := by decide +kernel
theorem dX12_proof_141 : decode cX12_proof 141 = .ok (.aload_n 0, 1) := by decide +kernel
theorem dX12_proof_142 : decode cX12_proof 142 = .ok (.getfield 251, 3) := by decide +kernel
theorem dX12_proof_145 : decode cX12_proof 145 = .ok (.if_icmp .ge 12, 3) := by decide +kernel
theorem dX12_proof_148 : decode cX12_proof 148 = .ok (.aload_n 0, 1) := by decide +kernel
theorem dX12_proof_149 : decode cX12_proof 149 = .ok (.bipush (-13), 2) := by decide +kernel
theorem dX12_proof_151 : decode cX12_proof 151 = .ok (.invokevirtual 228, 3) := by decide +kernel
theorem dX12_proof_154 : decode cX12_proof 154 = .ok (.goto 7, 3) := by decide +kernel
theorem dX12_proof_157 : decode cX12_proof 157 = .ok (.aload_n 0, 1) := by decide +kernel
theorem dX12_proof_158 : decode cX12_proof 158 = .ok (.invokevirtual 263, 3) := by decide +kernel
theorem dX12_proof_161 : decode cX12_proof 161 = .ok (.ireturn, 1) := by decide +kernel
theorem dX12_place_0 : decode cX12_place 0 = .ok (.aload_n 0, 1) := by decide +kernel
theorem dX12_place_1 : decode cX12_place 1 = .ok (.iconst 0, 1) := by decide +kernel
theorem dX12_place_2 : decode cX12_place 2 = .ok (.putfield 155, 3) := by decide +kernel
theorem dX12_place_5 : decode cX12_place 5 = .ok (.aload_n 0, 1) := by decide +kernel
theorem dX12_place_6 : decode cX12_place 6 = .ok (.iload_n 1, 1) := by decide +kernel
theorem dX12_place_7 : decode cX12_place 7 = .ok (.invokevirtual 244, 3) := by decide +kernel
theorem dX12_place_10 : decode cX12_place 10 = .ok (.ifCond .eq 16, 3) := by decide +kernel
theorem dX12_place_13 : decode cX12_place 13 = .ok (.iload_n 2, 1) := by decide +kernel
theorem dX12_place_14 : decode cX12_place 14 = .ok (.iconst (-1), 1) := by decide +kernel
theorem dX12_place_15 : decode cX12_place 15 = .ok (.if_icmp .eq 13, 3) := by decide +kernel
theorem dX12_place_18 : decode cX12_place 18 = .ok (.aload_n 0, 1) := by decide +kernel
theorem dX12_place_19 : decode cX12_place 19 = .ok (.iload_n 2, 1) := by decide +kernel
theorem dX12_place_20 : decode cX12_place 20 = .ok (.invokevirtual 186, 3) := by decide +kernel
theorem dX12_place_23 : decode cX12_place 23 = .ok (.ifCond .ne 5, 3) := by decide +kernel
theorem dX12_place_26 : decode cX12_place 26 = .ok (.iconst (-1), 1) := by decide +kernel
theorem dX12_place_27 : decode cX12_place 27 = .ok (.ireturn, 1) := by decide +kernel
theorem dX12_place_28 : decode cX12_place 28 = .ok (.aload_n 0, 1) := by decide +kernel
theorem dX12_place_29 : decode cX12_place 29 = .ok (.getfield 52, 3) := by decide +kernel
theorem dX12_place_32 : decode cX12_place 32 = .ok (.iload_n 1, 1) := by decide +kernel
theorem dX12_place_33 : decode cX12_place 33 = .ok (.iaload, 1) := by decide +kernel
theorem dX12_place_34 : decode cX12_place 34 = .ok (.istore_n 3, 1) := by decide +kernel
theorem dX12_place_35 : decode cX12_place 35 = .ok (.aload_n 0, 1) := by decide +kernel
theorem dX12_place_36 : decode cX12_place 36 = .ok (.getfield 52, 3) := by decide +kernel
theorem dX12_place_39 : decode cX12_place 39 = .ok (.iload_n 1, 1) := by decide +kernel
theorem dX12_place_40 : decode cX12_place 40 = .ok (.iload_n 2, 1) := by decide +kernel
theorem dX12_place_41 : decode cX12_place 41 = .ok (.iastore, 1) := by decide +kernel
theorem dX12_place_42 : decode cX12_place 42 = .ok (.iload_n 3, 1) := by decide +kernel
theorem dX12_place_43 : decode cX12_place 43 = .ok (.ireturn, 1) := by decide +kernel
theorem dX12_meter_0 : decode cX12_meter 0 = .ok (.aload_n 0, 1) := by decide +kernel
theorem dX12_meter_1 : decode cX12_meter 1 = .ok (.iconst 0, 1) := by decide +kernel
theorem dX12_meter_2 : decode cX12_meter 2 = .ok (.putfield 155, 3) := by decide +kernel
theorem dX12_meter_5 : decode cX12_meter 5 = .ok (.iload_n 1, 1) := by decide +kernel
theorem dX12_meter_6 : decode cX12_meter 6 = .ok (.iconst 0, 1) := by decide +kernel
theorem dX12_meter_7 : decode cX12_meter 7 = .ok (.iconst 3, 1) := by decide +kernel
theorem dX12_meter_8 : decode cX12_meter 8 = .ok (.invokestatic 177, 3) := by decide +kernel
theorem dX12_meter_11 : decode cX12_meter 11 = .ok (.ifCond .eq 25, 3) := by decide +kernel
theorem dX12_meter_14 : decode cX12_meter 14 = .ok (.iload_n 2, 1) := by decide +kernel
theorem dX12_meter_15 : decode cX12_meter 15 = .ok (.iconst 0, 1) := by decide +kernel
theorem dX12_meter_16 : decode cX12_meter 16 = .ok (.sipush 20000, 3) := by decide +kernel
theorem dX12_meter_19 : decode cX12_meter 19 = .ok (.invokestatic 177, 3) := by decide +kernel
theorem dX12_meter_22 : decode cX12_meter 22 = .ok (.ifCond .eq 14, 3) := by decide +kernel
theorem dX12_meter_25 : decode cX12_meter 25 = .ok (.iload_n 3, 1) := by decide +kernel
theorem dX12_meter_26 : decode cX12_meter 26 = .ok (.iload_n 2, 1) := by decide +kernel
theorem dX12_meter_27 : decode cX12_meter 27 = .ok (.sipush 20000, 3) := by decide +kernel
theorem dX12_meter_30 : decode cX12_meter 30 = .ok (.invokestatic 177, 3) := by decide +kernel
theorem dX12_meter_33 : decode cX12_meter 33 = .ok (.ifCond .ne 5, 3) := by decide +kernel
theorem dX12_meter_36 : decode cX12_meter 36 = .ok (.iconst (-1), 1) := by decide +kernel
theorem dX12_meter_37 : decode cX12_meter 37 = .ok (.ireturn, 1) := by decide +kernel
theorem dX12_meter_38 : decode cX12_meter 38 = .ok (.aload_n 0, 1) := by decide +kernel
theorem dX12_meter_39 : decode cX12_meter 39 = .ok (.getfield 162, 3) := by decide +kernel
theorem dX12_meter_42 : decode cX12_meter 42 = .ok (.bipush 20, 2) := by decide +kernel
theorem dX12_meter_44 : decode cX12_meter 44 = .ok (.if_icmp .ne 6, 3) := by decide +kernel
theorem dX12_meter_47 : decode cX12_meter 47 = .ok (.bipush (-2), 2) := by decide +kernel
theorem dX12_meter_49 : decode cX12_meter 49 = .ok (.ireturn, 1) := by decide +kernel
theorem dX12_meter_50 : decode cX12_meter 50 = .ok (.aload_n 0, 1) := by decide +kernel
theorem dX12_meter_51 : decode cX12_meter 51 = .ok (.getfield 73, 3) := by decide +kernel
theorem dX12_meter_54 : decode cX12_meter 54 = .ok (.aload_n 0, 1) := by decide +kernel
theorem dX12_meter_55 : decode cX12_meter 55 = .ok (.getfield 162, 3) := by decide +kernel
theorem dX12_meter_58 : decode cX12_meter 58 = .ok (.iload_n 1, 1) := by decide +kernel
theorem dX12_meter_59 : decode cX12_meter 59 = .ok (.iastore, 1) := by decide +kernel
theorem dX12_meter_60 : decode cX12_meter 60 = .ok (.aload_n 0, 1) := by decide +kernel
theorem dX12_meter_61 : decode cX12_meter 61 = .ok (.getfield 76, 3) := by decide +kernel
theorem dX12_meter_64 : decode cX12_meter 64 = .ok (.aload_n 0, 1) := by decide +kernel
theorem dX12_meter_65 : decode cX12_meter 65 = .ok (.getfield 162, 3) := by decide +kernel
theorem dX12_meter_68 : decode cX12_meter 68 = .ok (.iload_n 2, 1) := by decide +kernel
theorem dX12_meter_69 : decode cX12_meter 69 = .ok (.iastore, 1) := by decide +kernel
theorem dX12_meter_70 : decode cX12_meter 70 = .ok (.aload_n 0, 1) := by decide +kernel
theorem dX12_meter_71 : decode cX12_meter 71 = .ok (.getfield 79, 3) := by decide +kernel
theorem dX12_meter_74 : decode cX12_meter 74 = .ok (.aload_n 0, 1) := by decide +kernel
theorem dX12_meter_75 : decode cX12_meter 75 = .ok (.getfield 162, 3) := by decide +kernel
theorem dX12_meter_78 : decode cX12_meter 78 = .ok (.iload_n 3, 1) := by decide +kernel
theorem dX12_meter_79 : decode cX12_meter 79 = .ok (.iastore, 1) := by decide +kernel
theorem dX12_meter_80 : decode cX12_meter 80 = .ok (.aload_n 0, 1) := by decide +kernel
theorem dX12_meter_81 : decode cX12_meter 81 = .ok (.dup, 1) := by decide +kernel
theorem dX12_meter_82 : decode cX12_meter 82 = .ok (.getfield 162, 3) := by decide +kernel
theorem dX12_meter_85 : decode cX12_meter 85 = .ok (.iconst 1, 1) := by decide +kernel
theorem dX12_meter_86 : decode cX12_meter 86 = .ok (.iadd, 1) := by decide +kernel
theorem dX12_meter_87 : decode cX12_meter 87 = .ok (.putfield 162, 3) := by decide +kernel
theorem dX12_meter_90 : decode cX12_meter 90 = .ok (.aload_n 0, 1) := by decide +kernel
theorem dX12_meter_91 : decode cX12_meter 91 = .ok (.getfield 162, 3) := by decide +kernel
theorem dX12_meter_94 : decode cX12_meter 94 = .ok (.ireturn, 1) := by decide +kernel
theorem dX12_knownWind_0 : decode cX12_knownWind 0 = .ok (.iconst (-1), 1) := by decide +kernel
theorem dX12_knownWind_1 : decode cX12_knownWind 1 = .ok (.istore_n 2, 1) := by decide +kernel
theorem dX12_knownWind_2 : decode cX12_knownWind 2 = .ok (.iconst 0, 1) := by decide +kernel
theorem dX12_knownWind_3 : decode cX12_knownWind 3 = .ok (.istore_n 3, 1) := by decide +kernel
theorem dX12_knownWind_4 : decode cX12_knownWind 4 = .ok (.iload_n 3, 1) := by decide +kernel
theorem dX12_knownWind_5 : decode cX12_knownWind 5 = .ok (.aload_n 0, 1) := by decide +kernel
theorem dX12_knownWind_6 : decode cX12_knownWind 6 = .ok (.getfield 162, 3) := by decide +kernel
theorem dX12_knownWind_9 : decode cX12_knownWind 9 = .ok (.if_icmp .ge 40, 3) := by decide +kernel
theorem dX12_knownWind_12 : decode cX12_knownWind 12 = .ok (.aload_n 0, 1) := by decide +kernel
theorem dX12_knownWind_13 : decode cX12_knownWind 13 = .ok (.getfield 79, 3) := by decide +kernel
theorem dX12_knownWind_16 : decode cX12_knownWind 16 = .ok (.iload_n 3, 1) := by decide +kernel
theorem dX12_knownWind_17 : decode cX12_knownWind 17 = .ok (.iaload, 1) := by decide +kernel
theorem dX12_knownWind_18 : decode cX12_knownWind 18 = .ok (.iload_n 1, 1) := by decide +kernel
theorem dX12_knownWind_19 : decode cX12_knownWind 19 = .ok (.if_icmp .gt 24, 3) := by decide +kernel
theorem dX12_knownWind_22 : decode cX12_knownWind 22 = .ok (.iload_n 2, 1) := by decide +kernel
theorem dX12_knownWind_23 : decode cX12_knownWind 23 = .ok (.ifCond .lt 18, 3) := by decide +kernel
theorem dX12_knownWind_26 : decode cX12_knownWind 26 = .ok (.aload_n 0, 1) := by decide +kernel
theorem dX12_knownWind_27 : decode cX12_knownWind 27 = .ok (.getfield 76, 3) := by decide +kernel
theorem dX12_knownWind_30 : decode cX12_knownWind 30 = .ok (.iload_n 3, 1) := by decide +kernel
theorem dX12_knownWind_31 : decode cX12_knownWind 31 = .ok (.iaload, 1) := by decide +kernel
theorem dX12_knownWind_32 : decode cX12_knownWind 32 = .ok (.aload_n 0, 1) := by decide +kernel
theorem dX12_knownWind_33 : decode cX12_knownWind 33 = .ok (.getfield 76, 3) := by decide +kernel
theorem dX12_knownWind_36 : decode cX12_knownWind 36 = .ok (.iload_n 2, 1) := by decide +kernel
theorem dX12_knownWind_37 : decode cX12_knownWind 37 = .ok (.iaload, 1) := by decide +kernel
theorem dX12_knownWind_38 : decode cX12_knownWind 38 = .ok (.if_icmp .lt 5, 3) := by decide +kernel
theorem dX12_knownWind_41 : decode cX12_knownWind 41 = .ok (.iload_n 3, 1) := by decide +kernel
theorem dX12_knownWind_42 : decode cX12_knownWind 42 = .ok (.istore_n 2, 1) := by decide +kernel
theorem dX12_knownWind_43 : decode cX12_knownWind 43 = .ok (.iinc 3 1, 3) := by decide +kernel
theorem dX12_knownWind_46 : decode cX12_knownWind 46 = .ok (.goto (-42), 3) := by decide +kernel
theorem dX12_knownWind_49 : decode cX12_knownWind 49 = .ok (.iload_n 2, 1) := by decide +kernel
theorem dX12_knownWind_50 : decode cX12_knownWind 50 = .ok (.ifCond .ge 7, 3) := by decide +kernel
theorem dX12_knownWind_53 : decode cX12_knownWind 53 = .ok (.iconst 0, 1) := by decide +kernel
theorem dX12_knownWind_54 : decode cX12_knownWind 54 = .ok (.goto 9, 3) := by decide +kernel
theorem dX12_knownWind_57 : decode cX12_knownWind 57 = .ok (.aload_n 0, 1) := by decide +kernel
theorem dX12_knownWind_58 : decode cX12_knownWind 58 = .ok (.getfield 73, 3) := by decide +kernel
theorem dX12_knownWind_61 : decode cX12_knownWind 61 = .ok (.iload_n 2, 1) := by decide +kernel
theorem dX12_knownWind_62 : decode cX12_knownWind 62 = .ok (.iaload, 1) := by decide +kernel
theorem dX12_knownWind_63 : decode cX12_knownWind 63 = .ok (.ireturn, 1) := by decide +kernel
theorem dX12_knows_0 : decode cX12_knows 0 = .ok (.iload_n 1, 1) := by decide +kernel
theorem dX12_knows_1 : decode cX12_knows 1 = .ok (.iconst 0, 1) := by decide +kernel
theorem dX12_knows_2 : decode cX12_knows 2 = .ok (.sipush 20000, 3) := by decide +kernel
theorem dX12_knows_5 : decode cX12_knows 5 = .ok (.invokestatic 177, 3) := by decide +kernel
theorem dX12_knows_8 : decode cX12_knows 8 = .ok (.ifCond .eq 11, 3) := by decide +kernel
theorem dX12_knows_11 : decode cX12_knows 11 = .ok (.aload_n 0, 1) := by decide +kernel
theorem dX12_knows_12 : decode cX12_knows 12 = .ok (.iload_n 1, 1) := by decide +kernel
theorem dX12_knows_13 : decode cX12_knows 13 = .ok (.invokevirtual 278, 3) := by decide +kernel
theorem dX12_knows_16 : decode cX12_knows 16 = .ok (.goto 4, 3) := by decide +kernel
theorem dX12_knows_19 : decode cX12_knows 19 = .ok (.iconst (-1), 1) := by decide +kernel
theorem dX12_knows_20 : decode cX12_knows 20 = .ok (.ireturn, 1) := by decide +kernel
theorem dX12_orders_0 : decode cX12_orders 0 = .ok (.iconst 0, 1) := by decide +kernel
theorem dX12_orders_1 : decode cX12_orders 1 = .ok (.istore_n 2, 1) := by decide +kernel
theorem dX12_orders_2 : decode cX12_orders 2 = .ok (.iconst 0, 1) := by decide +kernel
theorem dX12_orders_3 : decode cX12_orders 3 = .ok (.istore_n 3, 1) := by decide +kernel
theorem dX12_orders_4 : decode cX12_orders 4 = .ok (.iconst 0, 1) := by decide +kernel
theorem dX12_orders_5 : decode cX12_orders 5 = .ok (.istore 4, 2) := by decide +kernel
theorem dX12_orders_7 : decode cX12_orders 7 = .ok (.iload 4, 2) := by decide +kernel
theorem dX12_orders_9 : decode cX12_orders 9 = .ok (.aload_n 0, 1) := by decide +kernel
theorem dX12_orders_10 : decode cX12_orders 10 = .ok (.getfield 94, 3) := by decide +kernel
theorem dX12_orders_13 : decode cX12_orders 13 = .ok (.iload_n 1, 1) := by decide +kernel
theorem dX12_orders_14 : decode cX12_orders 14 = .ok (.iaload, 1) := by decide +kernel
theorem dX12_orders_15 : decode cX12_orders 15 = .ok (.if_icmp .ge 209, 3) := by decide +kernel
theorem dX12_orders_18 : decode cX12_orders 18 = .ok (.aload_n 0, 1) := by decide +kernel
theorem dX12_orders_19 : decode cX12_orders 19 = .ok (.iload_n 1, 1) := by decide +kernel
theorem dX12_orders_20 : decode cX12_orders 20 = .ok (.iload 4, 2) := by decide +kernel
theorem dX12_orders_22 : decode cX12_orders 22 = .ok (.invokevirtual 211, 3) := by decide +kernel
theorem dX12_orders_25 : decode cX12_orders 25 = .ok (.istore 5, 2) := by decide +kernel
theorem dX12_orders_27 : decode cX12_orders 27 = .ok (.iload 5, 2) := by decide +kernel
theorem dX12_orders_29 : decode cX12_orders 29 = .ok (.iconst 1, 1) := by decide +kernel
theorem dX12_orders_30 : decode cX12_orders 30 = .ok (.iconst 5, 1) := by decide +kernel
theorem dX12_orders_31 : decode cX12_orders 31 = .ok (.invokestatic 177, 3) := by decide +kernel
theorem dX12_orders_34 : decode cX12_orders 34 = .ok (.ifCond .eq 7, 3) := by decide +kernel
theorem dX12_orders_37 : decode cX12_orders 37 = .ok (.iconst 1, 1) := by decide +kernel
theorem dX12_orders_38 : decode cX12_orders 38 = .ok (.goto 4, 3) := by decide +kernel
theorem dX12_orders_41 : decode cX12_orders 41 = .ok (.iconst 0, 1) := by decide +kernel
theorem dX12_orders_42 : decode cX12_orders 42 = .ok (.istore 6, 2) := by decide +kernel
theorem dX12_orders_44 : decode cX12_orders 44 = .ok (.iload 5, 2) := by decide +kernel
theorem dX12_orders_46 : decode cX12_orders 46 = .ok (.iconst 0, 1) := by decide +kernel
theorem dX12_orders_47 : decode cX12_orders 47 = .ok (.bipush 8, 2) := by decide +kernel
theorem dX12_orders_49 : decode cX12_orders 49 = .ok (.invokestatic 177, 3) := by decide +kernel
theorem dX12_orders_52 : decode cX12_orders 52 = .ok (.ifCond .eq 38, 3) := by decide +kernel
theorem dX12_orders_55 : decode cX12_orders 55 = .ok (.iload 4, 2) := by decide +kernel
theorem dX12_orders_57 : decode cX12_orders 57 = .ok (.iload 6, 2) := by decide +kernel
theorem dX12_orders_59 : decode cX12_orders 59 = .ok (.iadd, 1) := by decide +kernel
theorem dX12_orders_60 : decode cX12_orders 60 = .ok (.aload_n 0, 1) := by decide +kernel
theorem dX12_orders_61 : decode cX12_orders 61 = .ok (.getfield 94, 3) := by decide +kernel
theorem dX12_orders_64 : decode cX12_orders 64 = .ok (.iload_n 1, 1) := by decide +kernel
theorem dX12_orders_65 : decode cX12_orders 65 = .ok (.iaload, 1) := by decide +kernel
theorem dX12_orders_66 : decode cX12_orders 66 = .ok (.if_icmp .ge 24, 3) := by decide +kernel
theorem dX12_orders_69 : decode cX12_orders 69 = .ok (.iload 6, 2) := by decide +kernel
theorem dX12_orders_71 : decode cX12_orders 71 = .ok (.ifCond .eq 15, 3) := by decide +kernel
theorem dX12_orders_74 : decode cX12_orders 74 = .ok (.aload_n 0, 1) := by decide +kernel
theorem dX12_orders_75 : decode cX12_orders 75 = .ok (.iload_n 1, 1) := by decide +kernel
theorem dX12_orders_76 : decode cX12_orders 76 = .ok (.iload 4, 2) := by decide +kernel
theorem dX12_orders_78 : decode cX12_orders 78 = .ok (.iconst 1, 1) := by decide +kernel
theorem dX12_orders_79 : decode cX12_orders 79 = .ok (.iadd, 1) := by decide +kernel
theorem dX12_orders_80 : decode cX12_orders 80 = .ok (.invokevirtual 211, 3) := by decide +kernel
theorem dX12_orders_83 : decode cX12_orders 83 = .ok (.ifCond .lt 7, 3) := by decide +kernel
theorem dX12_orders_86 : decode cX12_orders 86 = .ok (.iconst 1, 1) := by decide +kernel
theorem dX12_orders_87 : decode cX12_orders 87 = .ok (.goto 4, 3) := by decide +kernel
theorem dX12_orders_90 : decode cX12_orders 90 = .ok (.iconst 0, 1) := by decide +kernel
theorem dX12_orders_91 : decode cX12_orders 91 = .ok (.istore 7, 2) := by decide +kernel
theorem dX12_orders_93 : decode cX12_orders 93 = .ok (.iload 7, 2) := by decide +kernel
theorem dX12_orders_95 : decode cX12_orders 95 = .ok (.ifCond .eq 72, 3) := by decide +kernel
theorem dX12_orders_98 : decode cX12_orders 98 = .ok (.iload 5, 2) := by decide +kernel
theorem dX12_orders_100 : decode cX12_orders 100 = .ok (.ifCond .ne 16, 3) := by decide +kernel
theorem dX12_orders_103 : decode cX12_orders 103 = .ok (.iload_n 3, 1) := by decide +kernel
theorem dX12_orders_104 : decode cX12_orders 104 = .ok (.iconst 1, 1) := by decide +kernel
theorem dX12_orders_105 : decode cX12_orders 105 = .ok (.if_icmp .ne 7, 3) := by decide +kernel
theorem dX12_orders_108 : decode cX12_orders 108 = .ok (.iconst 1, 1) := by decide +kernel
theorem dX12_orders_109 : decode cX12_orders 109 = .ok (.goto 56, 3) := by decide +kernel
theorem dX12_orders_112 : decode cX12_orders 112 = .ok (.iconst 0, 1) := by decide +kernel
theorem dX12_orders_113 : decode cX12_orders 113 = .ok (.goto 52, 3) := by decide +kernel
theorem dX12_orders_116 : decode cX12_orders 116 = .ok (.iload 6, 2) := by decide +kernel
theorem dX12_orders_118 : decode cX12_orders 118 = .ok (.iconst 1, 1) := by decide +kernel
theorem dX12_orders_119 : decode cX12_orders 119 = .ok (.if_icmp .ne 17, 3) := by decide +kernel
theorem dX12_orders_122 : decode cX12_orders 122 = .ok (.iload_n 3, 1) := by decide +kernel
theorem dX12_orders_123 : decode cX12_orders 123 = .ok (.bipush 8, 2) := by decide +kernel
theorem dX12_orders_125 : decode cX12_orders 125 = .ok (.if_icmp .ge 7, 3) := by decide +kernel
theorem dX12_orders_128 : decode cX12_orders 128 = .ok (.iconst 1, 1) := by decide +kernel
theorem dX12_orders_129 : decode cX12_orders 129 = .ok (.goto 36, 3) := by decide +kernel
theorem dX12_orders_132 : decode cX12_orders 132 = .ok (.iconst 0, 1) := by decide +kernel
theorem dX12_orders_133 : decode cX12_orders 133 = .ok (.goto 32, 3) := by decide +kernel
theorem dX12_orders_136 : decode cX12_orders 136 = .ok (.iload 5, 2) := by decide +kernel
theorem dX12_orders_138 : decode cX12_orders 138 = .ok (.bipush 8, 2) := by decide +kernel
theorem dX12_orders_140 : decode cX12_orders 140 = .ok (.if_icmp .ne 15, 3) := by decide +kernel
theorem dX12_orders_143 : decode cX12_orders 143 = .ok (.iload_n 3, 1) := by decide +kernel
theorem dX12_orders_144 : decode cX12_orders 144 = .ok (.ifCond .le 7, 3) := by decide +kernel
theorem dX12_orders_147 : decode cX12_orders 147 = .ok (.iconst 1, 1) := by decide +kernel
theorem dX12_orders_148 : decode cX12_orders 148 = .ok (.goto 17, 3) := by decide +kernel
theorem dX12_orders_151 : decode cX12_orders 151 = .ok (.iconst 0, 1) := by decide +kernel
theorem dX12_orders_152 : decode cX12_orders 152 = .ok (.goto 13, 3) := by decide +kernel
theorem dX12_orders_155 : decode cX12_orders 155 = .ok (.iload_n 3, 1) := by decide +kernel
theorem dX12_orders_156 : decode cX12_orders 156 = .ok (.iconst 1, 1) := by decide +kernel
theorem dX12_orders_157 : decode cX12_orders 157 = .ok (.if_icmp .le 7, 3) := by decide +kernel
theorem dX12_orders_160 : decode cX12_orders 160 = .ok (.iconst 1, 1) := by decide +kernel
theorem dX12_orders_161 : decode cX12_orders 161 = .ok (.goto 4, 3) := by decide +kernel
theorem dX12_orders_164 : decode cX12_orders 164 = .ok (.iconst 0, 1) := by decide +kernel
theorem dX12_orders_165 : decode cX12_orders 165 = .ok (.istore 7, 2) := by decide +kernel
theorem dX12_orders_167 : decode cX12_orders 167 = .ok (.iload 7, 2) := by decide +kernel
theorem dX12_orders_169 : decode cX12_orders 169 = .ok (.ifCond .ne 8, 3) := by decide +kernel
theorem dX12_orders_172 : decode cX12_orders 172 = .ok (.iconst (-1), 1) := by decide +kernel
theorem dX12_orders_173 : decode cX12_orders 173 = .ok (.iload 4, 2) := by decide +kernel
theorem dX12_orders_175 : decode cX12_orders 175 = .ok (.isub, 1) := by decide +kernel
theorem dX12_orders_176 : decode cX12_orders 176 = .ok (.ireturn, 1) := by decide +kernel
theorem dX12_orders_177 : decode cX12_orders 177 = .ok (.iload 5, 2) := by decide +kernel
theorem dX12_orders_179 : decode cX12_orders 179 = .ok (.ifCond .ne 5, 3) := by decide +kernel
theorem dX12_orders_182 : decode cX12_orders 182 = .ok (.iload_n 2, 1) := by decide +kernel
theorem dX12_orders_183 : decode cX12_orders 183 = .ok (.ireturn, 1) := by decide +kernel
theorem dX12_orders_184 : decode cX12_orders 184 = .ok (.iload_n 3, 1) := by decide +kernel
theorem dX12_orders_185 : decode cX12_orders 185 = .ok (.iload 6, 2) := by decide +kernel
theorem dX12_orders_187 : decode cX12_orders 187 = .ok (.iconst 1, 1) := by decide +kernel
theorem dX12_orders_188 : decode cX12_orders 188 = .ok (.if_icmp .ne 7, 3) := by decide +kernel
theorem dX12_orders_191 : decode cX12_orders 191 = .ok (.iconst 1, 1) := by decide +kernel
theorem dX12_orders_192 : decode cX12_orders 192 = .ok (.goto 15, 3) := by decide +kernel
theorem dX12_orders_195 : decode cX12_orders 195 = .ok (.iload 5, 2) := by decide +kernel
theorem dX12_orders_197 : decode cX12_orders 197 = .ok (.bipush 8, 2) := by decide +kernel
theorem dX12_orders_199 : decode cX12_orders 199 = .ok (.if_icmp .ne 7, 3) := by decide +kernel
theorem dX12_orders_202 : decode cX12_orders 202 = .ok (.iconst 0, 1) := by decide +kernel
theorem dX12_orders_203 : decode cX12_orders 203 = .ok (.goto 4, 3) := by decide +kernel
theorem dX12_orders_206 : decode cX12_orders 206 = .ok (.iconst (-1), 1) := by decide +kernel
theorem dX12_orders_207 : decode cX12_orders 207 = .ok (.iadd, 1) := by decide +kernel
theorem dX12_orders_208 : decode cX12_orders 208 = .ok (.istore_n 3, 1) := by decide +kernel
theorem dX12_orders_209 : decode cX12_orders 209 = .ok (.iinc 2 1, 3) := by decide +kernel
theorem dX12_orders_212 : decode cX12_orders 212 = .ok (.iload 4, 2) := by decide +kernel
theorem dX12_orders_214 : decode cX12_orders 214 = .ok (.iload 6, 2) := by decide +kernel
theorem dX12_orders_216 : decode cX12_orders 216 = .ok (.iconst 1, 1) := by decide +kernel
theorem dX12_orders_217 : decode cX12_orders 217 = .ok (.iadd, 1) := by decide +kernel
theorem dX12_orders_218 : decode cX12_orders 218 = .ok (.iadd, 1) := by decide +kernel
theorem dX12_orders_219 : decode cX12_orders 219 = .ok (.istore 4, 2) := by decide +kernel
theorem dX12_orders_221 : decode cX12_orders 221 = .ok (.goto (-214), 3) := by decide +kernel
theorem dX12_orders_224 : decode cX12_orders 224 = .ok (.iconst (-1), 1) := by decide +kernel
theorem dX12_orders_225 : decode cX12_orders 225 = .ok (.aload_n 0, 1) := by decide +kernel
theorem dX12_orders_226 : decode cX12_orders 226 = .ok (.getfield 94, 3) := by decide +kernel
theorem dX12_orders_229 : decode cX12_orders 229 = .ok (.iload_n 1, 1) := by decide +kernel
theorem dX12_orders_230 : decode cX12_orders 230 = .ok (.iaload, 1) := by decide +kernel
theorem dX12_orders_231 : decode cX12_orders 231 = .ok (.isub, 1) := by decide +kernel
theorem dX12_orders_232 : decode cX12_orders 232 = .ok (.ireturn, 1) := by decide +kernel
theorem dX12_hold_0 : decode cX12_hold 0 = .ok (.aload_n 0, 1) := by decide +kernel
theorem dX12_hold_1 : decode cX12_hold 1 = .ok (.iconst 0, 1) := by decide +kernel
theorem dX12_hold_2 : decode cX12_hold 2 = .ok (.putfield 155, 3) := by decide +kernel
theorem dX12_hold_5 : decode cX12_hold 5 = .ok (.iload_n 1, 1) := by decide +kernel
theorem dX12_hold_6 : decode cX12_hold 6 = .ok (.invokestatic 231, 3) := by decide +kernel
theorem dX12_hold_9 : decode cX12_hold 9 = .ok (.ifCond .ne 5, 3) := by decide +kernel
theorem dX12_hold_12 : decode cX12_hold 12 = .ok (.iconst (-1), 1) := by decide +kernel
theorem dX12_hold_13 : decode cX12_hold 13 = .ok (.ireturn, 1) := by decide +kernel
theorem dX12_hold_14 : decode cX12_hold 14 = .ok (.aload_n 0, 1) := by decide +kernel
theorem dX12_hold_15 : decode cX12_hold 15 = .ok (.iload_n 1, 1) := by decide +kernel
theorem dX12_hold_16 : decode cX12_hold 16 = .ok (.invokevirtual 234, 3) := by decide +kernel
theorem dX12_hold_19 : decode cX12_hold 19 = .ok (.istore_n 2, 1) := by decide +kernel
theorem dX12_hold_20 : decode cX12_hold 20 = .ok (.iload_n 2, 1) := by decide +kernel
theorem dX12_hold_21 : decode cX12_hold 21 = .ok (.ifCond .eq 5, 3) := by decide +kernel
theorem dX12_hold_24 : decode cX12_hold 24 = .ok (.iload_n 2, 1) := by decide +kernel
theorem dX12_hold_25 : decode cX12_hold 25 = .ok (.ireturn, 1) := by decide +kernel
theorem dX12_hold_26 : decode cX12_hold 26 = .ok (.aload_n 0, 1) := by decide +kernel
theorem dX12_hold_27 : decode cX12_hold 27 = .ok (.iload_n 1, 1) := by decide +kernel
theorem dX12_hold_28 : decode cX12_hold 28 = .ok (.invokevirtual 281, 3) := by decide +kernel
theorem dX12_hold_31 : decode cX12_hold 31 = .ok (.istore_n 3, 1) := by decide +kernel
theorem dX12_hold_32 : decode cX12_hold 32 = .ok (.iload_n 3, 1) := by decide +kernel
theorem dX12_hold_33 : decode cX12_hold 33 = .ok (.ifCond .ge 8, 3) := by decide +kernel
theorem dX12_hold_36 : decode cX12_hold 36 = .ok (.bipush (-99), 2) := by decide +kernel
theorem dX12_hold_38 : decode cX12_hold 38 = .ok (.iload_n 3, 1) := by decide +kernel
theorem dX12_hold_39 : decode cX12_hold 39 = .ok (.iadd, 1) := by decide +kernel
theorem dX12_hold_40 : decode cX12_hold 40 = .ok (.ireturn, 1) := by decide +kernel
theorem dX12_hold_41 : decode cX12_hold 41 = .ok (.aload_n 0, 1) := by decide +kernel
theorem dX12_hold_42 : decode cX12_hold 42 = .ok (.getfield 165, 3) := by decide +kernel
theorem dX12_hold_45 : decode cX12_hold 45 = .ok (.bipush 8, 2) := by decide +kernel
theorem dX12_hold_47 : decode cX12_hold 47 = .ok (.if_icmp .eq 9, 3) := by decide +kernel
theorem dX12_hold_50 : decode cX12_hold 50 = .ok (.iload_n 3, 1) := by decide +kernel
theorem dX12_hold_51 : decode cX12_hold 51 = .ok (.bipush 20, 2) := by decide +kernel
theorem dX12_hold_53 : decode cX12_hold 53 = .ok (.if_icmp .le 6, 3) := by decide +kernel
theorem dX12_hold_56 : decode cX12_hold 56 = .ok (.bipush (-2), 2) := by decide +kernel
theorem dX12_hold_58 : decode cX12_hold 58 = .ok (.ireturn, 1) := by decide +kernel
theorem dX12_hold_59 : decode cX12_hold 59 = .ok (.iconst 0, 1) := by decide +kernel
theorem dX12_hold_60 : decode cX12_hold 60 = .ok (.istore 4, 2) := by decide +kernel
theorem dX12_hold_62 : decode cX12_hold 62 = .ok (.iload 4, 2) := by decide +kernel
theorem dX12_hold_64 : decode cX12_hold 64 = .ok (.aload_n 0, 1) := by decide +kernel
theorem dX12_hold_65 : decode cX12_hold 65 = .ok (.getfield 94, 3) := by decide +kernel
theorem dX12_hold_68 : decode cX12_hold 68 = .ok (.iload_n 1, 1) := by decide +kernel
theorem dX12_hold_69 : decode cX12_hold 69 = .ok (.iaload, 1) := by decide +kernel
theorem dX12_hold_70 : decode cX12_hold 70 = .ok (.if_icmp .ge 31, 3) := by decide +kernel
theorem dX12_hold_73 : decode cX12_hold 73 = .ok (.aload_n 0, 1) := by decide +kernel
theorem dX12_hold_74 : decode cX12_hold 74 = .ok (.getfield 82, 3) := by decide +kernel
theorem dX12_hold_77 : decode cX12_hold 77 = .ok (.bipush 100, 2) := by decide +kernel
theorem dX12_hold_79 : decode cX12_hold 79 = .ok (.aload_n 0, 1) := by decide +kernel
theorem dX12_hold_80 : decode cX12_hold 80 = .ok (.getfield 165, 3) := by decide +kernel
theorem dX12_hold_83 : decode cX12_hold 83 = .ok (.imul, 1) := by decide +kernel
theorem dX12_hold_84 : decode cX12_hold 84 = .ok (.iload 4, 2) := by decide +kernel
theorem dX12_hold_86 : decode cX12_hold 86 = .ok (.iadd, 1) := by decide +kernel
theorem dX12_hold_87 : decode cX12_hold 87 = .ok (.aload_n 0, 1) := by decide +kernel
theorem dX12_hold_88 : decode cX12_hold 88 = .ok (.iload_n 1, 1) := by decide +kernel
theorem dX12_hold_89 : decode cX12_hold 89 = .ok (.iload 4, 2) := by decide +kernel
theorem dX12_hold_91 : decode cX12_hold 91 = .ok (.invokevirtual 211, 3) := by decide +kernel
theorem dX12_hold_94 : decode cX12_hold 94 = .ok (.iastore, 1) := by decide +kernel
theorem dX12_hold_95 : decode cX12_hold 95 = .ok (.iinc 4 1, 3) := by decide +kernel
theorem dX12_hold_98 : decode cX12_hold 98 = .ok (.goto (-36), 3) := by decide +kernel
theorem dX12_hold_101 : decode cX12_hold 101 = .ok (.aload_n 0, 1) := by decide +kernel
theorem dX12_hold_102 : decode cX12_hold 102 = .ok (.dup, 1) := by decide +kernel
theorem dX12_hold_103 : decode cX12_hold 103 = .ok (.getfield 165, 3) := by decide +kernel
theorem dX12_hold_106 : decode cX12_hold 106 = .ok (.iconst 1, 1) := by decide +kernel
theorem dX12_hold_107 : decode cX12_hold 107 = .ok (.iadd, 1) := by decide +kernel
theorem dX12_hold_108 : decode cX12_hold 108 = .ok (.putfield 165, 3) := by decide +kernel
theorem dX12_hold_111 : decode cX12_hold 111 = .ok (.aload_n 0, 1) := by decide +kernel
theorem dX12_hold_112 : decode cX12_hold 112 = .ok (.getfield 165, 3) := by decide +kernel
theorem dX12_hold_115 : decode cX12_hold 115 = .ok (.iconst 1, 1) := by decide +kernel
theorem dX12_hold_116 : decode cX12_hold 116 = .ok (.isub, 1) := by decide +kernel
theorem dX12_hold_117 : decode cX12_hold 117 = .ok (.ireturn, 1) := by decide +kernel
theorem dX12_holdless_0 : decode cX12_holdless 0 = .ok (.aload_n 0, 1) := by decide +kernel
theorem dX12_holdless_1 : decode cX12_holdless 1 = .ok (.iconst 0, 1) := by decide +kernel
theorem dX12_holdless_2 : decode cX12_holdless 2 = .ok (.putfield 155, 3) := by decide +kernel
theorem dX12_holdless_5 : decode cX12_holdless 5 = .ok (.aload_n 0, 1) := by decide +kernel
theorem dX12_holdless_6 : decode cX12_holdless 6 = .ok (.getfield 165, 3) := by decide +kernel
theorem dX12_holdless_9 : decode cX12_holdless 9 = .ok (.istore_n 1, 1) := by decide +kernel
theorem dX12_holdless_10 : decode cX12_holdless 10 = .ok (.aload_n 0, 1) := by decide +kernel
theorem dX12_holdless_11 : decode cX12_holdless 11 = .ok (.iconst 0, 1) := by decide +kernel
theorem dX12_holdless_12 : decode cX12_holdless 12 = .ok (.putfield 165, 3) := by decide +kernel
theorem dX12_holdless_15 : decode cX12_holdless 15 = .ok (.iload_n 1, 1) := by decide +kernel
theorem dX12_holdless_16 : decode cX12_holdless 16 = .ok (.ireturn, 1) := by decide +kernel
theorem dX12_holdsFor_0 : decode cX12_holdsFor 0 = .ok (.iconst 0, 1) := by decide +kernel
theorem dX12_holdsFor_1 : decode cX12_holdsFor 1 = .ok (.istore 4, 2) := by decide +kernel
theorem dX12_holdsFor_3 : decode cX12_holdsFor 3 = .ok (.bipush 100, 2) := by decide +kernel
theorem dX12_holdsFor_5 : decode cX12_holdsFor 5 = .ok (.iload_n 1, 1) := by decide +kernel
theorem dX12_holdsFor_6 : decode cX12_holdsFor 6 = .ok (.imul, 1) := by decide +kernel
theorem dX12_holdsFor_7 : decode cX12_holdsFor 7 = .ok (.istore 5, 2) := by decide +kernel
theorem dX12_holdsFor_9 : decode cX12_holdsFor 9 = .ok (.aload_n 0, 1) := by decide +kernel
theorem dX12_holdsFor_10 : decode cX12_holdsFor 10 = .ok (.getfield 82, 3) := by decide +kernel
theorem dX12_holdsFor_13 : decode cX12_holdsFor 13 = .ok (.iload 5, 2) := by decide +kernel
theorem dX12_holdsFor_15 : decode cX12_holdsFor 15 = .ok (.iaload, 1) := by decide +kernel
theorem dX12_holdsFor_16 : decode cX12_holdsFor 16 = .ok (.ifCond .eq 280, 3) := by decide +kernel
theorem dX12_holdsFor_19 : decode cX12_holdsFor 19 = .ok (.aload_n 0, 1) := by decide +kernel
theorem dX12_holdsFor_20 : decode cX12_holdsFor 20 = .ok (.getfield 82, 3) := by decide +kernel
theorem dX12_holdsFor_23 : decode cX12_holdsFor 23 = .ok (.iload 5, 2) := by decide +kernel
theorem dX12_holdsFor_25 : decode cX12_holdsFor 25 = .ok (.iconst 1, 1) := by decide +kernel
theorem dX12_holdsFor_26 : decode cX12_holdsFor 26 = .ok (.iadd, 1) := by decide +kernel
theorem dX12_holdsFor_27 : decode cX12_holdsFor 27 = .ok (.iaload, 1) := by decide +kernel
theorem dX12_holdsFor_28 : decode cX12_holdsFor 28 = .ok (.istore 6, 2) := by decide +kernel
theorem dX12_holdsFor_30 : decode cX12_holdsFor 30 = .ok (.aload_n 0, 1) := by decide +kernel
theorem dX12_holdsFor_31 : decode cX12_holdsFor 31 = .ok (.getfield 82, 3) := by decide +kernel
theorem dX12_holdsFor_34 : decode cX12_holdsFor 34 = .ok (.iload 5, 2) := by decide +kernel
theorem dX12_holdsFor_36 : decode cX12_holdsFor 36 = .ok (.iaload, 1) := by decide +kernel
theorem dX12_holdsFor_37 : decode cX12_holdsFor 37 = .ok (.istore 7, 2) := by decide +kernel
theorem dX12_holdsFor_39 : decode cX12_holdsFor 39 = .ok (.iload 7, 2) := by decide +kernel
theorem dX12_holdsFor_41 : decode cX12_holdsFor 41 = .ok (.bipush 6, 2) := by decide +kernel
theorem dX12_holdsFor_43 : decode cX12_holdsFor 43 = .ok (.if_icmp .ge 135, 3) := by decide +kernel
theorem dX12_holdsFor_46 : decode cX12_holdsFor 46 = .ok (.aload_n 0, 1) := by decide +kernel
theorem dX12_holdsFor_47 : decode cX12_holdsFor 47 = .ok (.getfield 126, 3) := by decide +kernel
theorem dX12_holdsFor_50 : decode cX12_holdsFor 50 = .ok (.iload 4, 2) := by decide +kernel
theorem dX12_holdsFor_52 : decode cX12_holdsFor 52 = .ok (.iload 7, 2) := by decide +kernel
theorem dX12_holdsFor_54 : decode cX12_holdsFor 54 = .ok (.iconst 1, 1) := by decide +kernel
theorem dX12_holdsFor_55 : decode cX12_holdsFor 55 = .ok (.if_icmp .ne 24, 3) := by decide +kernel
theorem dX12_holdsFor_58 : decode cX12_holdsFor 58 = .ok (.aload_n 0, 1) := by decide +kernel
theorem dX12_holdsFor_59 : decode cX12_holdsFor 59 = .ok (.iload_n 2, 1) := by decide +kernel
theorem dX12_holdsFor_60 : decode cX12_holdsFor 60 = .ok (.invokevirtual 254, 3) := by decide +kernel
theorem dX12_holdsFor_63 : decode cX12_holdsFor 63 = .ok (.bipush 10, 2) := by decide +kernel
theorem dX12_holdsFor_65 : decode cX12_holdsFor 65 = .ok (.iload 6, 2) := by decide +kernel
theorem dX12_holdsFor_67 : decode cX12_holdsFor 67 = .ok (.imul, 1) := by decide +kernel
theorem dX12_holdsFor_68 : decode cX12_holdsFor 68 = .ok (.if_icmp .lt 7, 3) := by decide +kernel
theorem dX12_holdsFor_71 : decode cX12_holdsFor 71 = .ok (.iconst 1, 1) := by decide +kernel
theorem dX12_holdsFor_72 : decode cX12_holdsFor 72 = .ok (.goto 96, 3) := by decide +kernel
theorem dX12_holdsFor_75 : decode cX12_holdsFor 75 = .ok (.iconst 0, 1) := by decide +kernel
theorem dX12_holdsFor_76 : decode cX12_holdsFor 76 = .ok (.goto 92, 3) := by decide +kernel
theorem dX12_holdsFor_79 : decode cX12_holdsFor 79 = .ok (.iload 7, 2) := by decide +kernel
theorem dX12_holdsFor_81 : decode cX12_holdsFor 81 = .ok (.iconst 2, 1) := by decide +kernel
theorem dX12_holdsFor_82 : decode cX12_holdsFor 82 = .ok (.if_icmp .ne 17, 3) := by decide +kernel
theorem dX12_holdsFor_85 : decode cX12_holdsFor 85 = .ok (.iload_n 3, 1) := by decide +kernel
theorem dX12_holdsFor_86 : decode cX12_holdsFor 86 = .ok (.iload 6, 2) := by decide +kernel
theorem dX12_holdsFor_88 : decode cX12_holdsFor 88 = .ok (.if_icmp .lt 7, 3) := by decide +kernel
theorem dX12_holdsFor_91 : decode cX12_holdsFor 91 = .ok (.iconst 1, 1) := by decide +kernel
theorem dX12_holdsFor_92 : decode cX12_holdsFor 92 = .ok (.goto 76, 3) := by decide +kernel
theorem dX12_holdsFor_95 : decode cX12_holdsFor 95 = .ok (.iconst 0, 1) := by decide +kernel
theorem dX12_holdsFor_96 : decode cX12_holdsFor 96 = .ok (.goto 72, 3) := by decide +kernel
theorem dX12_holdsFor_99 : decode cX12_holdsFor 99 = .ok (.iload 7, 2) := by decide +kernel
theorem dX12_holdsFor_101 : decode cX12_holdsFor 101 = .ok (.iconst 3, 1) := by decide +kernel
theorem dX12_holdsFor_102 : decode cX12_holdsFor 102 = .ok (.if_icmp .ne 25, 3) := by decide +kernel
theorem dX12_holdsFor_105 : decode cX12_holdsFor 105 = .ok (.aload_n 0, 1) := by decide +kernel
theorem dX12_holdsFor_106 : decode cX12_holdsFor 106 = .ok (.aload_n 0, 1) := by decide +kernel
theorem dX12_holdsFor_107 : decode cX12_holdsFor 107 = .ok (.iload_n 2, 1) := by decide +kernel
theorem dX12_holdsFor_108 : decode cX12_holdsFor 108 = .ok (.invokevirtual 254, 3) := by decide +kernel
theorem dX12_holdsFor_111 : decode cX12_holdsFor 111 = .ok (.invokevirtual 278, 3) := by decide +kernel
theorem dX12_holdsFor_114 : decode cX12_holdsFor 114 = .ok (.iload 6, 2) := by decide +kernel
theorem dX12_holdsFor_116 : decode cX12_holdsFor 116 = .ok (.if_icmp .ne 7, 3) := by decide +kernel
theorem dX12_holdsFor_119 : decode cX12_holdsFor 119 = .ok (.iconst 1, 1) := by decide +kernel
theorem dX12_holdsFor_120 : decode cX12_holdsFor 120 = .ok (.goto 48, 3) := by decide +kernel
theorem dX12_holdsFor_123 : decode cX12_holdsFor 123 = .ok (.iconst 0, 1) := by decide +kernel
theorem dX12_holdsFor_124 : decode cX12_holdsFor 124 = .ok (.goto 44, 3) := by decide +kernel
theorem dX12_holdsFor_127 : decode cX12_holdsFor 127 = .ok (.iload 7, 2) := by decide +kernel
theorem dX12_holdsFor_129 : decode cX12_holdsFor 129 = .ok (.iconst 4, 1) := by decide +kernel
theorem dX12_holdsFor_130 : decode cX12_holdsFor 130 = .ok (.if_icmp .ne 22, 3) := by decide +kernel
theorem dX12_holdsFor_133 : decode cX12_holdsFor 133 = .ok (.aload_n 0, 1) := by decide +kernel
theorem dX12_holdsFor_134 : decode cX12_holdsFor 134 = .ok (.getfield 52, 3) := by decide +kernel
theorem dX12_holdsFor_137 : decode cX12_holdsFor 137 = .ok (.iload_n 2, 1) := by decide +kernel
theorem dX12_holdsFor_138 : decode cX12_holdsFor 138 = .ok (.iaload, 1) := by decide +kernel
theorem dX12_holdsFor_139 : decode cX12_holdsFor 139 = .ok (.iload 6, 2) := by decide +kernel
theorem dX12_holdsFor_141 : decode cX12_holdsFor 141 = .ok (.if_icmp .ne 7, 3) := by decide +kernel
theorem dX12_holdsFor_144 : decode cX12_holdsFor 144 = .ok (.iconst 1, 1) := by decide +kernel
theorem dX12_holdsFor_145 : decode cX12_holdsFor 145 = .ok (.goto 23, 3) := by decide +kernel
theorem dX12_holdsFor_148 : decode cX12_holdsFor 148 = .ok (.iconst 0, 1) := by decide +kernel
theorem dX12_holdsFor_149 : decode cX12_holdsFor 149 = .ok (.goto 19, 3) := by decide +kernel
theorem dX12_holdsFor_152 : decode cX12_holdsFor 152 = .ok (.aload_n 0, 1) := by decide +kernel
theorem dX12_holdsFor_153 : decode cX12_holdsFor 153 = .ok (.getfield 49, 3) := by decide +kernel
theorem dX12_holdsFor_156 : decode cX12_holdsFor 156 = .ok (.iload_n 2, 1) := by decide +kernel
theorem dX12_holdsFor_157 : decode cX12_holdsFor 157 = .ok (.iaload, 1) := by decide +kernel
theorem dX12_holdsFor_158 : decode cX12_holdsFor 158 = .ok (.iload 6, 2) := by decide +kernel
theorem dX12_holdsFor_160 : decode cX12_holdsFor 160 = .ok (.if_icmp .ne 7, 3) := by decide +kernel
theorem dX12_holdsFor_163 : decode cX12_holdsFor 163 = .ok (.iconst 1, 1) := by decide +kernel
theorem dX12_holdsFor_164 : decode cX12_holdsFor 164 = .ok (.goto 4, 3) := by decide +kernel
theorem dX12_holdsFor_167 : decode cX12_holdsFor 167 = .ok (.iconst 0, 1) := by decide +kernel
theorem dX12_holdsFor_168 : decode cX12_holdsFor 168 = .ok (.bastore, 1) := by decide +kernel
theorem dX12_holdsFor_169 : decode cX12_holdsFor 169 = .ok (.iinc 4 1, 3) := by decide +kernel
theorem dX12_holdsFor_172 : decode cX12_holdsFor 172 = .ok (.iinc 5 2, 3) := by decide +kernel
theorem dX12_holdsFor_175 : decode cX12_holdsFor 175 = .ok (.goto (-166), 3) := by decide +kernel
theorem dX12_holdsFor_178 : decode cX12_holdsFor 178 = .ok (.iinc 5 1, 3) := by decide +kernel
theorem dX12_holdsFor_181 : decode cX12_holdsFor 181 = .ok (.iload 7, 2) := by decide +kernel
theorem dX12_holdsFor_183 : decode cX12_holdsFor 183 = .ok (.bipush 8, 2) := by decide +kernel
theorem dX12_holdsFor_185 : decode cX12_holdsFor 185 = .ok (.if_icmp .ne 32, 3) := by decide +kernel
theorem dX12_holdsFor_188 : decode cX12_holdsFor 188 = .ok (.aload_n 0, 1) := by decide +kernel
theorem dX12_holdsFor_189 : decode cX12_holdsFor 189 = .ok (.getfield 126, 3) := by decide +kernel
theorem dX12_holdsFor_192 : decode cX12_holdsFor 192 = .ok (.iload 4, 2) := by decide +kernel
theorem dX12_holdsFor_194 : decode cX12_holdsFor 194 = .ok (.iconst 1, 1) := by decide +kernel
theorem dX12_holdsFor_195 : decode cX12_holdsFor 195 = .ok (.isub, 1) := by decide +kernel
theorem dX12_holdsFor_196 : decode cX12_holdsFor 196 = .ok (.aload_n 0, 1) := by decide +kernel
theorem dX12_holdsFor_197 : decode cX12_holdsFor 197 = .ok (.getfield 126, 3) := by decide +kernel
theorem dX12_holdsFor_200 : decode cX12_holdsFor 200 = .ok (.iload 4, 2) := by decide +kernel
theorem dX12_holdsFor_202 : decode cX12_holdsFor 202 = .ok (.iconst 1, 1) := by decide +kernel
theorem dX12_holdsFor_203 : decode cX12_holdsFor 203 = .ok (.isub, 1) := by decide +kernel
theorem dX12_holdsFor_204 : decode cX12_holdsFor 204 = .ok (.baload, 1) := by decide +kernel
theorem dX12_holdsFor_205 : decode cX12_holdsFor 205 = .ok (.ifCond .ne 7, 3) := by decide +kernel
theorem dX12_holdsFor_208 : decode cX12_holdsFor 208 = .ok (.iconst 1, 1) := by decide +kernel
theorem dX12_holdsFor_209 : decode cX12_holdsFor 209 = .ok (.goto 4, 3) := by decide +kernel
theorem dX12_holdsFor_212 : decode cX12_holdsFor 212 = .ok (.iconst 0, 1) := by decide +kernel
theorem dX12_holdsFor_213 : decode cX12_holdsFor 213 = .ok (.bastore, 1) := by decide +kernel
theorem dX12_holdsFor_214 : decode cX12_holdsFor 214 = .ok (.goto (-205), 3) := by decide +kernel
theorem dX12_holdsFor_217 : decode cX12_holdsFor 217 = .ok (.iinc 4 (-1), 3) := by decide +kernel
theorem dX12_holdsFor_220 : decode cX12_holdsFor 220 = .ok (.aload_n 0, 1) := by decide +kernel
theorem dX12_holdsFor_221 : decode cX12_holdsFor 221 = .ok (.getfield 126, 3) := by decide +kernel
theorem dX12_holdsFor_224 : decode cX12_holdsFor 224 = .ok (.iload 4, 2) := by decide +kernel
theorem dX12_holdsFor_226 : decode cX12_holdsFor 226 = .ok (.iconst 1, 1) := by decide +kernel
theorem dX12_holdsFor_227 : decode cX12_holdsFor 227 = .ok (.isub, 1) := by decide +kernel
theorem dX12_holdsFor_228 : decode cX12_holdsFor 228 = .ok (.iload 7, 2) := by decide +kernel
theorem dX12_holdsFor_230 : decode cX12_holdsFor 230 = .ok (.bipush 6, 2) := by decide +kernel
theorem dX12_holdsFor_232 : decode cX12_holdsFor 232 = .ok (.if_icmp .ne 33, 3) := by decide +kernel
theorem dX12_holdsFor_235 : decode cX12_holdsFor 235 = .ok (.aload_n 0, 1) := by decide +kernel
theorem dX12_holdsFor_236 : decode cX12_holdsFor 236 = .ok (.getfield 126, 3) := by decide +kernel
theorem dX12_holdsFor_239 : decode cX12_holdsFor 239 = .ok (.iload 4, 2) := by decide +kernel
theorem dX12_holdsFor_241 : decode cX12_holdsFor 241 = .ok (.iconst 1, 1) := by decide +kernel
theorem dX12_holdsFor_242 : decode cX12_holdsFor 242 = .ok (.isub, 1) := by decide +kernel
theorem dX12_holdsFor_243 : decode cX12_holdsFor 243 = .ok (.baload, 1) := by decide +kernel
theorem dX12_holdsFor_244 : decode cX12_holdsFor 244 = .ok (.ifCond .eq 17, 3) := by decide +kernel
theorem dX12_holdsFor_247 : decode cX12_holdsFor 247 = .ok (.aload_n 0, 1) := by decide +kernel
theorem dX12_holdsFor_248 : decode cX12_holdsFor 248 = .ok (.getfield 126, 3) := by decide +kernel
theorem dX12_holdsFor_251 : decode cX12_holdsFor 251 = .ok (.iload 4, 2) := by decide +kernel
theorem dX12_holdsFor_253 : decode cX12_holdsFor 253 = .ok (.baload, 1) := by decide +kernel
theorem dX12_holdsFor_254 : decode cX12_holdsFor 254 = .ok (.ifCond .eq 7, 3) := by decide +kernel
theorem dX12_holdsFor_257 : decode cX12_holdsFor 257 = .ok (.iconst 1, 1) := by decide +kernel
theorem dX12_holdsFor_258 : decode cX12_holdsFor 258 = .ok (.goto 34, 3) := by decide +kernel
theorem dX12_holdsFor_261 : decode cX12_holdsFor 261 = .ok (.iconst 0, 1) := by decide +kernel
theorem dX12_holdsFor_262 : decode cX12_holdsFor 262 = .ok (.goto 30, 3) := by decide +kernel
theorem dX12_holdsFor_265 : decode cX12_holdsFor 265 = .ok (.aload_n 0, 1) := by decide +kernel
theorem dX12_holdsFor_266 : decode cX12_holdsFor 266 = .ok (.getfield 126, 3) := by decide +kernel
theorem dX12_holdsFor_269 : decode cX12_holdsFor 269 = .ok (.iload 4, 2) := by decide +kernel
theorem dX12_holdsFor_271 : decode cX12_holdsFor 271 = .ok (.iconst 1, 1) := by decide +kernel
theorem dX12_holdsFor_272 : decode cX12_holdsFor 272 = .ok (.isub, 1) := by decide +kernel
theorem dX12_holdsFor_273 : decode cX12_holdsFor 273 = .ok (.baload, 1) := by decide +kernel
theorem dX12_holdsFor_274 : decode cX12_holdsFor 274 = .ok (.ifCond .ne 13, 3) := by decide +kernel
theorem dX12_holdsFor_277 : decode cX12_holdsFor 277 = .ok (.aload_n 0, 1) := by decide +kernel
theorem dX12_holdsFor_278 : decode cX12_holdsFor 278 = .ok (.getfield 126, 3) := by decide +kernel
theorem dX12_holdsFor_281 : decode cX12_holdsFor 281 = .ok (.iload 4, 2) := by decide +kernel
theorem dX12_holdsFor_283 : decode cX12_holdsFor 283 = .ok (.baload, 1) := by decide +kernel
theorem dX12_holdsFor_284 : decode cX12_holdsFor 284 = .ok (.ifCond .eq 7, 3) := by decide +kernel
theorem dX12_holdsFor_287 : decode cX12_holdsFor 287 = .ok (.iconst 1, 1) := by decide +kernel
theorem dX12_holdsFor_288 : decode cX12_holdsFor 288 = .ok (.goto 4, 3) := by decide +kernel
theorem dX12_holdsFor_291 : decode cX12_holdsFor 291 = .ok (.iconst 0, 1) := by decide +kernel
theorem dX12_holdsFor_292 : decode cX12_holdsFor 292 = .ok (.bastore, 1) := by decide +kernel
theorem dX12_holdsFor_293 : decode cX12_holdsFor 293 = .ok (.goto (-284), 3) := by decide +kernel
theorem dX12_holdsFor_296 : decode cX12_holdsFor 296 = .ok (.aload_n 0, 1) := by decide +kernel
theorem dX12_holdsFor_297 : decode cX12_holdsFor 297 = .ok (.getfield 126, 3) := by decide +kernel
theorem dX12_holdsFor_300 : decode cX12_holdsFor 300 = .ok (.iconst 0, 1) := by decide +kernel
theorem dX12_holdsFor_301 : decode cX12_holdsFor 301 = .ok (.baload, 1) := by decide +kernel
theorem dX12_holdsFor_302 : decode cX12_holdsFor 302 = .ok (.ireturn, 1) := by decide +kernel
theorem dX12_fault_0 : decode cX12_fault 0 = .ok (.aload_n 0, 1) := by decide +kernel
theorem dX12_fault_1 : decode cX12_fault 1 = .ok (.iconst 0, 1) := by decide +kernel
theorem dX12_fault_2 : decode cX12_fault 2 = .ok (.putfield 155, 3) := by decide +kernel
theorem dX12_fault_5 : decode cX12_fault 5 = .ok (.aload_n 0, 1) := by decide +kernel
theorem dX12_fault_6 : decode cX12_fault 6 = .ok (.iload_n 1, 1) := by decide +kernel
theorem dX12_fault_7 : decode cX12_fault 7 = .ok (.invokevirtual 244, 3) := by decide +kernel
theorem dX12_fault_10 : decode cX12_fault 10 = .ok (.ifCond .eq 13, 3) := by decide +kernel
theorem dX12_fault_13 : decode cX12_fault 13 = .ok (.iload_n 2, 1) := by decide +kernel
theorem dX12_fault_14 : decode cX12_fault 14 = .ok (.iconst 0, 1) := by decide +kernel
theorem dX12_fault_15 : decode cX12_fault 15 = .ok (.bipush 6, 2) := by decide +kernel
theorem dX12_fault_17 : decode cX12_fault 17 = .ok (.invokestatic 177, 3) := by decide +kernel
theorem dX12_fault_20 : decode cX12_fault 20 = .ok (.ifCond .ne 5, 3) := by decide +kernel
theorem dX12_fault_23 : decode cX12_fault 23 = .ok (.iconst (-1), 1) := by decide +kernel
theorem dX12_fault_24 : decode cX12_fault 24 = .ok (.ireturn, 1) := by decide +kernel
theorem dX12_fault_25 : decode cX12_fault 25 = .ok (.aload_n 0, 1) := by decide +kernel
theorem dX12_fault_26 : decode cX12_fault 26 = .ok (.getfield 58, 3) := by decide +kernel
theorem dX12_fault_29 : decode cX12_fault 29 = .ok (.iload_n 1, 1) := by decide +kernel
theorem dX12_fault_30 : decode cX12_fault 30 = .ok (.iaload, 1) := by decide +kernel
theorem dX12_fault_31 : decode cX12_fault 31 = .ok (.istore_n 3, 1) := by decide +kernel
theorem dX12_fault_32 : decode cX12_fault 32 = .ok (.aload_n 0, 1) := by decide +kernel
theorem dX12_fault_33 : decode cX12_fault 33 = .ok (.getfield 58, 3) := by decide +kernel
theorem dX12_fault_36 : decode cX12_fault 36 = .ok (.iload_n 1, 1) := by decide +kernel
theorem dX12_fault_37 : decode cX12_fault 37 = .ok (.iload_n 2, 1) := by decide +kernel
theorem dX12_fault_38 : decode cX12_fault 38 = .ok (.iastore, 1) := by decide +kernel
theorem dX12_fault_39 : decode cX12_fault 39 = .ok (.iload_n 3, 1) := by decide +kernel
theorem dX12_fault_40 : decode cX12_fault 40 = .ok (.ireturn, 1) := by decide +kernel
theorem dX12_halt_0 : decode cX12_halt 0 = .ok (.aload_n 0, 1) := by decide +kernel
theorem dX12_halt_1 : decode cX12_halt 1 = .ok (.iconst 0, 1) := by decide +kernel
theorem dX12_halt_2 : decode cX12_halt 2 = .ok (.putfield 155, 3) := by decide +kernel
theorem dX12_halt_5 : decode cX12_halt 5 = .ok (.iload_n 1, 1) := by decide +kernel
theorem dX12_halt_6 : decode cX12_halt 6 = .ok (.iconst (-1), 1) := by decide +kernel
theorem dX12_halt_7 : decode cX12_halt 7 = .ok (.sipush 20000, 3) := by decide +kernel
theorem dX12_halt_10 : decode cX12_halt 10 = .ok (.invokestatic 177, 3) := by decide +kernel
theorem dX12_halt_13 : decode cX12_halt 13 = .ok (.ifCond .ne 5, 3) := by decide +kernel
theorem dX12_halt_16 : decode cX12_halt 16 = .ok (.iconst (-1), 1) := by decide +kernel
theorem dX12_halt_17 : decode cX12_halt 17 = .ok (.ireturn, 1) := by decide +kernel
theorem dX12_halt_18 : decode cX12_halt 18 = .ok (.aload_n 0, 1) := by decide +kernel
theorem dX12_halt_19 : decode cX12_halt 19 = .ok (.getfield 168, 3) := by decide +kernel
theorem dX12_halt_22 : decode cX12_halt 22 = .ok (.istore_n 2, 1) := by decide +kernel
theorem dX12_halt_23 : decode cX12_halt 23 = .ok (.aload_n 0, 1) := by decide +kernel
theorem dX12_halt_24 : decode cX12_halt 24 = .ok (.iload_n 1, 1) := by decide +kernel
theorem dX12_halt_25 : decode cX12_halt 25 = .ok (.putfield 168, 3) := by decide +kernel
theorem dX12_halt_28 : decode cX12_halt 28 = .ok (.iload_n 2, 1) := by decide +kernel
theorem dX12_halt_29 : decode cX12_halt 29 = .ok (.ireturn, 1) := by decide +kernel
theorem dX12_plays_0 : decode cX12_plays 0 = .ok (.aload_n 0, 1) := by decide +kernel
theorem dX12_plays_1 : decode cX12_plays 1 = .ok (.getfield 155, 3) := by decide +kernel
theorem dX12_plays_4 : decode cX12_plays 4 = .ok (.ifCond .eq 4, 3) := by decide +kernel
theorem dX12_plays_7 : decode cX12_plays 7 = .ok (.return_, 1) := by decide +kernel
theorem dX12_plays_8 : decode cX12_plays 8 = .ok (.aload_n 0, 1) := by decide +kernel
theorem dX12_plays_9 : decode cX12_plays 9 = .ok (.iconst 1, 1) := by decide +kernel
theorem dX12_plays_10 : decode cX12_plays 10 = .ok (.putfield 155, 3) := by decide +kernel
theorem dX12_plays_13 : decode cX12_plays 13 = .ok (.iconst 0, 1) := by decide +kernel
theorem dX12_plays_14 : decode cX12_plays 14 = .ok (.istore_n 1, 1) := by decide +kernel
theorem dX12_plays_15 : decode cX12_plays 15 = .ok (.iload_n 1, 1) := by decide +kernel
theorem dX12_plays_16 : decode cX12_plays 16 = .ok (.aload_n 0, 1) := by decide +kernel
theorem dX12_plays_17 : decode cX12_plays 17 = .ok (.getfield 159, 3) := by decide +kernel
theorem dX12_plays_20 : decode cX12_plays 20 = .ok (.if_icmp .ge 62, 3) := by decide +kernel
theorem dX12_plays_23 : decode cX12_plays 23 = .ok (.iload_n 1, 1) := by decide +kernel
theorem dX12_plays_24 : decode cX12_plays 24 = .ok (.istore_n 2, 1) := by decide +kernel
theorem dX12_plays_25 : decode cX12_plays 25 = .ok (.iload_n 2, 1) := by decide +kernel
theorem dX12_plays_26 : decode cX12_plays 26 = .ok (.ifCond .le 43, 3) := by decide +kernel
theorem dX12_plays_29 : decode cX12_plays 29 = .ok (.aload_n 0, 1) := by decide +kernel
theorem dX12_plays_30 : decode cX12_plays 30 = .ok (.aload_n 0, 1) := by decide +kernel
theorem dX12_plays_31 : decode cX12_plays 31 = .ok (.getfield 129, 3) := by decide +kernel
theorem dX12_plays_34 : decode cX12_plays 34 = .ok (.iload_n 2, 1) := by decide +kernel
theorem dX12_plays_35 : decode cX12_plays 35 = .ok (.iconst 1, 1) := by decide +kernel
theorem dX12_plays_36 : decode cX12_plays 36 = .ok (.isub, 1) := by decide +kernel
theorem dX12_plays_37 : decode cX12_plays 37 = .ok (.iaload, 1) := by decide +kernel
theorem dX12_plays_38 : decode cX12_plays 38 = .ok (.invokevirtual 254, 3) := by decide +kernel
theorem dX12_plays_41 : decode cX12_plays 41 = .ok (.aload_n 0, 1) := by decide +kernel
theorem dX12_plays_42 : decode cX12_plays 42 = .ok (.iload_n 1, 1) := by decide +kernel
theorem dX12_plays_43 : decode cX12_plays 43 = .ok (.invokevirtual 254, 3) := by decide +kernel
theorem dX12_plays_46 : decode cX12_plays 46 = .ok (.if_icmp .le 23, 3) := by decide +kernel
theorem dX12_plays_49 : decode cX12_plays 49 = .ok (.aload_n 0, 1) := by decide +kernel
theorem dX12_plays_50 : decode cX12_plays 50 = .ok (.getfield 129, 3) := by decide +kernel
theorem dX12_plays_53 : decode cX12_plays 53 = .ok (.iload_n 2, 1) := by decide +kernel
theorem dX12_plays_54 : decode cX12_plays 54 = .ok (.aload_n 0, 1) := by decide +kernel
theorem dX12_plays_55 : decode cX12_plays 55 = .ok (.getfield 129, 3) := by decide +kernel
theorem dX12_plays_58 : decode cX12_plays 58 = .ok (.iload_n 2, 1) := by decide +kernel
theorem dX12_plays_59 : decode cX12_plays 59 = .ok (.iconst 1, 1) := by decide +kernel
theorem dX12_plays_60 : decode cX12_plays 60 = .ok (.isub, 1) := by decide +kernel
theorem dX12_plays_61 : decode cX12_plays 61 = .ok (.iaload, 1) := by decide +kernel
theorem dX12_plays_62 : decode cX12_plays 62 = .ok (.iastore, 1) := by decide +kernel
theorem dX12_plays_63 : decode cX12_plays 63 = .ok (.iinc 2 (-1), 3) := by decide +kernel
theorem dX12_plays_66 : decode cX12_plays 66 = .ok (.goto (-41), 3) := by decide +kernel
theorem dX12_plays_69 : decode cX12_plays 69 = .ok (.aload_n 0, 1) := by decide +kernel
theorem dX12_plays_70 : decode cX12_plays 70 = .ok (.getfield 129, 3) := by decide +kernel
theorem dX12_plays_73 : decode cX12_plays 73 = .ok (.iload_n 2, 1) := by decide +kernel
theorem dX12_plays_74 : decode cX12_plays 74 = .ok (.iload_n 1, 1) := by decide +kernel
theorem dX12_plays_75 : decode cX12_plays 75 = .ok (.iastore, 1) := by decide +kernel
theorem dX12_plays_76 : decode cX12_plays 76 = .ok (.iinc 1 1, 3) := by decide +kernel
theorem dX12_plays_79 : decode cX12_plays 79 = .ok (.goto (-64), 3) := by decide +kernel
theorem dX12_plays_82 : decode cX12_plays 82 = .ok (.iconst 0, 1) := by decide +kernel
theorem dX12_plays_83 : decode cX12_plays 83 = .ok (.istore_n 1, 1) := by decide +kernel
theorem dX12_plays_84 : decode cX12_plays 84 = .ok (.iload_n 1, 1) := by decide +kernel
theorem dX12_plays_85 : decode cX12_plays 85 = .ok (.aload_n 0, 1) := by decide +kernel
theorem dX12_plays_86 : decode cX12_plays 86 = .ok (.getfield 159, 3) := by decide +kernel
theorem dX12_plays_89 : decode cX12_plays 89 = .ok (.if_icmp .ge 40, 3) := by decide +kernel
theorem dX12_plays_92 : decode cX12_plays 92 = .ok (.aload_n 0, 1) := by decide +kernel
theorem dX12_plays_93 : decode cX12_plays 93 = .ok (.getfield 129, 3) := by decide +kernel
theorem dX12_plays_96 : decode cX12_plays 96 = .ok (.iload_n 1, 1) := by decide +kernel
theorem dX12_plays_97 : decode cX12_plays 97 = .ok (.iaload, 1) := by decide +kernel
theorem dX12_plays_98 : decode cX12_plays 98 = .ok (.istore_n 2, 1) := by decide +kernel
theorem dX12_plays_99 : decode cX12_plays 99 = .ok (.aload_n 0, 1) := by decide +kernel
theorem dX12_plays_100 : decode cX12_plays 100 = .ok (.getfield 135, 3) := by decide +kernel
theorem dX12_plays_103 : decode cX12_plays 103 = .ok (.iload_n 2, 1) := by decide +kernel
theorem dX12_plays_104 : decode cX12_plays 104 = .ok (.aload_n 0, 1) := by decide +kernel
theorem dX12_plays_105 : decode cX12_plays 105 = .ok (.getfield 49, 3) := by decide +kernel
theorem dX12_plays_108 : decode cX12_plays 108 = .ok (.iload_n 2, 1) := by decide +kernel
theorem dX12_plays_109 : decode cX12_plays 109 = .ok (.iaload, 1) := by decide +kernel
theorem dX12_plays_110 : decode cX12_plays 110 = .ok (.iastore, 1) := by decide +kernel
theorem dX12_plays_111 : decode cX12_plays 111 = .ok (.aload_n 0, 1) := by decide +kernel
theorem dX12_plays_112 : decode cX12_plays 112 = .ok (.getfield 132, 3) := by decide +kernel
theorem dX12_plays_115 : decode cX12_plays 115 = .ok (.iload_n 2, 1) := by decide +kernel
theorem dX12_plays_116 : decode cX12_plays 116 = .ok (.aload_n 0, 1) := by decide +kernel
theorem dX12_plays_117 : decode cX12_plays 117 = .ok (.iload_n 2, 1) := by decide +kernel
theorem dX12_plays_118 : decode cX12_plays 118 = .ok (.iload_n 1, 1) := by decide +kernel
theorem dX12_plays_119 : decode cX12_plays 119 = .ok (.invokevirtual 284, 3) := by decide +kernel
theorem dX12_plays_122 : decode cX12_plays 122 = .ok (.iastore, 1) := by decide +kernel
theorem dX12_plays_123 : decode cX12_plays 123 = .ok (.iinc 1 1, 3) := by decide +kernel
theorem dX12_plays_126 : decode cX12_plays 126 = .ok (.goto (-42), 3) := by decide +kernel
theorem dX12_plays_129 : decode cX12_plays 129 = .ok (.return_, 1) := by decide +kernel
theorem dX12_fateOf_0 : decode cX12_fateOf 0 = .ok (.aload_n 0, 1) := by decide +kernel
theorem dX12_fateOf_1 : decode cX12_fateOf 1 = .ok (.getfield 52, 3) := by decide +kernel
theorem dX12_fateOf_4 : decode cX12_fateOf 4 = .ok (.iload_n 1, 1) := by decide +kernel
theorem dX12_fateOf_5 : decode cX12_fateOf 5 = .ok (.iaload, 1) := by decide +kernel
theorem dX12_fateOf_6 : decode cX12_fateOf 6 = .ok (.ifCond .ge 6, 3) := by decide +kernel
theorem dX12_fateOf_9 : decode cX12_fateOf 9 = .ok (.bipush 6, 2) := by decide +kernel
theorem dX12_fateOf_11 : decode cX12_fateOf 11 = .ok (.ireturn, 1) := by decide +kernel
theorem dX12_fateOf_12 : decode cX12_fateOf 12 = .ok (.aload_n 0, 1) := by decide +kernel
theorem dX12_fateOf_13 : decode cX12_fateOf 13 = .ok (.getfield 168, 3) := by decide +kernel
theorem dX12_fateOf_16 : decode cX12_fateOf 16 = .ok (.ifCond .lt 17, 3) := by decide +kernel
theorem dX12_fateOf_19 : decode cX12_fateOf 19 = .ok (.aload_n 0, 1) := by decide +kernel
theorem dX12_fateOf_20 : decode cX12_fateOf 20 = .ok (.iload_n 1, 1) := by decide +kernel
theorem dX12_fateOf_21 : decode cX12_fateOf 21 = .ok (.invokevirtual 254, 3) := by decide +kernel
theorem dX12_fateOf_24 : decode cX12_fateOf 24 = .ok (.aload_n 0, 1) := by decide +kernel
theorem dX12_fateOf_25 : decode cX12_fateOf 25 = .ok (.getfield 168, 3) := by decide +kernel
theorem dX12_fateOf_28 : decode cX12_fateOf 28 = .ok (.if_icmp .lt 5, 3) := by decide +kernel
theorem dX12_fateOf_31 : decode cX12_fateOf 31 = .ok (.iconst 4, 1) := by decide +kernel
theorem dX12_fateOf_32 : decode cX12_fateOf 32 = .ok (.ireturn, 1) := by decide +kernel
theorem dX12_fateOf_33 : decode cX12_fateOf 33 = .ok (.iconst 0, 1) := by decide +kernel
theorem dX12_fateOf_34 : decode cX12_fateOf 34 = .ok (.istore_n 3, 1) := by decide +kernel
theorem dX12_fateOf_35 : decode cX12_fateOf 35 = .ok (.iconst 0, 1) := by decide +kernel
theorem dX12_fateOf_36 : decode cX12_fateOf 36 = .ok (.istore 4, 2) := by decide +kernel
theorem dX12_fateOf_38 : decode cX12_fateOf 38 = .ok (.iload 4, 2) := by decide +kernel
theorem dX12_fateOf_40 : decode cX12_fateOf 40 = .ok (.iload_n 2, 1) := by decide +kernel
theorem dX12_fateOf_41 : decode cX12_fateOf 41 = .ok (.if_icmp .ge 53, 3) := by decide +kernel
theorem dX12_fateOf_44 : decode cX12_fateOf 44 = .ok (.iload_n 3, 1) := by decide +kernel
theorem dX12_fateOf_45 : decode cX12_fateOf 45 = .ok (.aload_n 0, 1) := by decide +kernel
theorem dX12_fateOf_46 : decode cX12_fateOf 46 = .ok (.getfield 132, 3) := by decide +kernel
theorem dX12_fateOf_49 : decode cX12_fateOf 49 = .ok (.aload_n 0, 1) := by decide +kernel
theorem dX12_fateOf_50 : decode cX12_fateOf 50 = .ok (.getfield 129, 3) := by decide +kernel
theorem dX12_fateOf_53 : decode cX12_fateOf 53 = .ok (.iload 4, 2) := by decide +kernel
theorem dX12_fateOf_55 : decode cX12_fateOf 55 = .ok (.iaload, 1) := by decide +kernel
theorem dX12_fateOf_56 : decode cX12_fateOf 56 = .ok (.iaload, 1) := by decide +kernel
theorem dX12_fateOf_57 : decode cX12_fateOf 57 = .ok (.iconst 5, 1) := by decide +kernel
theorem dX12_fateOf_58 : decode cX12_fateOf 58 = .ok (.if_icmp .ne 27, 3) := by decide +kernel
theorem dX12_fateOf_61 : decode cX12_fateOf 61 = .ok (.aload_n 0, 1) := by decide +kernel
theorem dX12_fateOf_62 : decode cX12_fateOf 62 = .ok (.getfield 46, 3) := by decide +kernel
theorem dX12_fateOf_65 : decode cX12_fateOf 65 = .ok (.aload_n 0, 1) := by decide +kernel
theorem dX12_fateOf_66 : decode cX12_fateOf 66 = .ok (.getfield 129, 3) := by decide +kernel
theorem dX12_fateOf_69 : decode cX12_fateOf 69 = .ok (.iload 4, 2) := by decide +kernel
theorem dX12_fateOf_71 : decode cX12_fateOf 71 = .ok (.iaload, 1) := by decide +kernel
theorem dX12_fateOf_72 : decode cX12_fateOf 72 = .ok (.iaload, 1) := by decide +kernel
theorem dX12_fateOf_73 : decode cX12_fateOf 73 = .ok (.aload_n 0, 1) := by decide +kernel
theorem dX12_fateOf_74 : decode cX12_fateOf 74 = .ok (.iload_n 1, 1) := by decide +kernel
theorem dX12_fateOf_75 : decode cX12_fateOf 75 = .ok (.invokevirtual 254, 3) := by decide +kernel
theorem dX12_fateOf_78 : decode cX12_fateOf 78 = .ok (.if_icmp .gt 7, 3) := by decide +kernel
theorem dX12_fateOf_81 : decode cX12_fateOf 81 = .ok (.iconst 1, 1) := by decide +kernel
theorem dX12_fateOf_82 : decode cX12_fateOf 82 = .ok (.goto 4, 3) := by decide +kernel
theorem dX12_fateOf_85 : decode cX12_fateOf 85 = .ok (.iconst 0, 1) := by decide +kernel
theorem dX12_fateOf_86 : decode cX12_fateOf 86 = .ok (.iadd, 1) := by decide +kernel
theorem dX12_fateOf_87 : decode cX12_fateOf 87 = .ok (.istore_n 3, 1) := by decide +kernel
theorem dX12_fateOf_88 : decode cX12_fateOf 88 = .ok (.iinc 4 1, 3) := by decide +kernel
theorem dX12_fateOf_91 : decode cX12_fateOf 91 = .ok (.goto (-53), 3) := by decide +kernel
theorem dX12_fateOf_94 : decode cX12_fateOf 94 = .ok (.iconst 0, 1) := by decide +kernel
theorem dX12_fateOf_95 : decode cX12_fateOf 95 = .ok (.istore 4, 2) := by decide +kernel
theorem dX12_fateOf_97 : decode cX12_fateOf 97 = .ok (.iload 4, 2) := by decide +kernel
theorem dX12_fateOf_99 : decode cX12_fateOf 99 = .ok (.aload_n 0, 1) := by decide +kernel
theorem dX12_fateOf_100 : decode cX12_fateOf 100 = .ok (.getfield 165, 3) := by decide +kernel
theorem dX12_fateOf_103 : decode cX12_fateOf 103 = .ok (.if_icmp .ge 22, 3) := by decide +kernel
theorem dX12_fateOf_106 : decode cX12_fateOf 106 = .ok (.aload_n 0, 1) := by decide +kernel
theorem dX12_fateOf_107 : decode cX12_fateOf 107 = .ok (.iload 4, 2) := by decide +kernel
theorem dX12_fateOf_109 : decode cX12_fateOf 109 = .ok (.iload_n 1, 1) := by decide +kernel
theorem dX12_fateOf_110 : decode cX12_fateOf 110 = .ok (.iload_n 3, 1) := by decide +kernel
theorem dX12_fateOf_111 : decode cX12_fateOf 111 = .ok (.invokevirtual 287, 3) := by decide +kernel
theorem dX12_fateOf_114 : decode cX12_fateOf 114 = .ok (.ifCond .eq 5, 3) := by decide +kernel
theorem dX12_fateOf_117 : decode cX12_fateOf 117 = .ok (.iconst 3, 1) := by decide +kernel
theorem dX12_fateOf_118 : decode cX12_fateOf 118 = .ok (.ireturn, 1) := by decide +kernel
theorem dX12_fateOf_119 : decode cX12_fateOf 119 = .ok (.iinc 4 1, 3) := by decide +kernel
theorem dX12_fateOf_122 : decode cX12_fateOf 122 = .ok (.goto (-25), 3) := by decide +kernel
theorem dX12_fateOf_125 : decode cX12_fateOf 125 = .ok (.aload_n 0, 1) := by decide +kernel
theorem dX12_fateOf_126 : decode cX12_fateOf 126 = .ok (.aload_n 0, 1) := by decide +kernel
theorem dX12_fateOf_127 : decode cX12_fateOf 127 = .ok (.iload_n 1, 1) := by decide +kernel
theorem dX12_fateOf_128 : decode cX12_fateOf 128 = .ok (.invokevirtual 254, 3) := by decide +kernel
theorem dX12_fateOf_131 : decode cX12_fateOf 131 = .ok (.invokevirtual 278, 3) := by decide +kernel
theorem dX12_fateOf_134 : decode cX12_fateOf 134 = .ok (.istore 4, 2) := by decide +kernel
theorem dX12_fateOf_136 : decode cX12_fateOf 136 = .ok (.aload_n 0, 1) := by decide +kernel
theorem dX12_fateOf_137 : decode cX12_fateOf 137 = .ok (.aload_n 0, 1) := by decide +kernel
theorem dX12_fateOf_138 : decode cX12_fateOf 138 = .ok (.getfield 49, 3) := by decide +kernel
theorem dX12_fateOf_141 : decode cX12_fateOf 141 = .ok (.iload_n 1, 1) := by decide +kernel
theorem dX12_fateOf_142 : decode cX12_fateOf 142 = .ok (.iaload, 1) := by decide +kernel
theorem dX12_fateOf_143 : decode cX12_fateOf 143 = .ok (.aload_n 0, 1) := by decide +kernel
theorem dX12_fateOf_144 : decode cX12_fateOf 144 = .ok (.getfield 52, 3) := by decide +kernel
theorem dX12_fateOf_147 : decode cX12_fateOf 147 = .ok (.iload_n 1, 1) := by decide +kernel
theorem dX12_fateOf_148 : decode cX12_fateOf 148 = .ok (.iaload, 1) := by decide +kernel
theorem dX12_fateOf_149 : decode cX12_fateOf 149 = .ok (.aload_n 0, 1) := by decide +kernel
theorem dX12_fateOf_150 : decode cX12_fateOf 150 = .ok (.getfield 55, 3) := by decide +kernel
theorem dX12_fateOf_153 : decode cX12_fateOf 153 = .ok (.iload_n 1, 1) := by decide +kernel
theorem dX12_fateOf_154 : decode cX12_fateOf 154 = .ok (.iaload, 1) := by decide +kernel
theorem dX12_fateOf_155 : decode cX12_fateOf 155 = .ok (.iload 4, 2) := by decide +kernel
theorem dX12_fateOf_157 : decode cX12_fateOf 157 = .ok (.invokevirtual 205, 3) := by decide +kernel
theorem dX12_fateOf_160 : decode cX12_fateOf 160 = .ok (.istore 5, 2) := by decide +kernel
theorem dX12_fateOf_162 : decode cX12_fateOf 162 = .ok (.iload 5, 2) := by decide +kernel
theorem dX12_fateOf_164 : decode cX12_fateOf 164 = .ok (.ifCond .ne 16, 3) := by decide +kernel
theorem dX12_fateOf_167 : decode cX12_fateOf 167 = .ok (.aload_n 0, 1) := by decide +kernel
theorem dX12_fateOf_168 : decode cX12_fateOf 168 = .ok (.getfield 135, 3) := by decide +kernel
theorem dX12_fateOf_171 : decode cX12_fateOf 171 = .ok (.iload_n 1, 1) := by decide +kernel
theorem dX12_fateOf_172 : decode cX12_fateOf 172 = .ok (.aload_n 0, 1) := by decide +kernel
theorem dX12_fateOf_173 : decode cX12_fateOf 173 = .ok (.iload_n 1, 1) := by decide +kernel
theorem dX12_fateOf_174 : decode cX12_fateOf 174 = .ok (.iload 4, 2) := by decide +kernel
theorem dX12_fateOf_176 : decode cX12_fateOf 176 = .ok (.invokevirtual 290, 3) := by decide +kernel
theorem dX12_fateOf_179 : decode cX12_fateOf 179 = .ok (.iastore, 1) := by decide +kernel
theorem dX12_fateOf_180 : decode cX12_fateOf 180 = .ok (.aload_n 0, 1) := by decide +kernel
theorem dX12_fateOf_181 : decode cX12_fateOf 181 = .ok (.getfield 135, 3) := by decide +kernel
theorem dX12_fateOf_184 : decode cX12_fateOf 184 = .ok (.iload_n 1, 1) := by decide +kernel
theorem dX12_fateOf_185 : decode cX12_fateOf 185 = .ok (.iaload, 1) := by decide +kernel
theorem dX12_fateOf_186 : decode cX12_fateOf 186 = .ok (.ifCond .ge 17, 3) := by decide +kernel
theorem dX12_fateOf_189 : decode cX12_fateOf 189 = .ok (.aload_n 0, 1) := by decide +kernel
theorem dX12_fateOf_190 : decode cX12_fateOf 190 = .ok (.getfield 135, 3) := by decide +kernel
theorem dX12_fateOf_193 : decode cX12_fateOf 193 = .ok (.iload_n 1, 1) := by decide +kernel
theorem dX12_fateOf_194 : decode cX12_fateOf 194 = .ok (.aload_n 0, 1) := by decide +kernel
theorem dX12_fateOf_195 : decode cX12_fateOf 195 = .ok (.getfield 49, 3) := by decide +kernel
theorem dX12_fateOf_198 : decode cX12_fateOf 198 = .ok (.iload_n 1, 1) := by decide +kernel
theorem dX12_fateOf_199 : decode cX12_fateOf 199 = .ok (.iaload, 1) := by decide +kernel
theorem dX12_fateOf_200 : decode cX12_fateOf 200 = .ok (.iastore, 1) := by decide +kernel
theorem dX12_fateOf_201 : decode cX12_fateOf 201 = .ok (.iconst 2, 1) := by decide +kernel
theorem dX12_fateOf_202 : decode cX12_fateOf 202 = .ok (.ireturn, 1) := by decide +kernel
theorem dX12_fateOf_203 : decode cX12_fateOf 203 = .ok (.aload_n 0, 1) := by decide +kernel
theorem dX12_fateOf_204 : decode cX12_fateOf 204 = .ok (.getfield 58, 3) := by decide +kernel
theorem dX12_fateOf_207 : decode cX12_fateOf 207 = .ok (.iload_n 1, 1) := by decide +kernel
theorem dX12_fateOf_208 : decode cX12_fateOf 208 = .ok (.iaload, 1) := by decide +kernel
theorem dX12_fateOf_209 : decode cX12_fateOf 209 = .ok (.bipush 6, 2) := by decide +kernel
theorem dX12_fateOf_211 : decode cX12_fateOf 211 = .ok (.if_icmp .ne 7, 3) := by decide +kernel
theorem dX12_fateOf_214 : decode cX12_fateOf 214 = .ok (.iconst 5, 1) := by decide +kernel
theorem dX12_fateOf_215 : decode cX12_fateOf 215 = .ok (.goto 13, 3) := by decide +kernel
theorem dX12_fateOf_218 : decode cX12_fateOf 218 = .ok (.iload 5, 2) := by decide +kernel
theorem dX12_fateOf_220 : decode cX12_fateOf 220 = .ok (.ifCond .eq 7, 3) := by decide +kernel
theorem dX12_fateOf_223 : decode cX12_fateOf 223 = .ok (.iconst 0, 1) := by decide +kernel
theorem dX12_fateOf_224 : decode cX12_fateOf 224 = .ok (.goto 4, 3) := by decide +kernel
theorem dX12_fateOf_227 : decode cX12_fateOf 227 = .ok (.iconst 1, 1) := by decide +kernel
theorem dX12_fateOf_228 : decode cX12_fateOf 228 = .ok (.ireturn, 1) := by decide +kernel
theorem dX12_otherKind_0 : decode cX12_otherKind 0 = .ok (.iconst 0, 1) := by decide +kernel
theorem dX12_otherKind_1 : decode cX12_otherKind 1 = .ok (.istore_n 3, 1) := by decide +kernel
theorem dX12_otherKind_2 : decode cX12_otherKind 2 = .ok (.iload_n 3, 1) := by decide +kernel
theorem dX12_otherKind_3 : decode cX12_otherKind 3 = .ok (.bipush 12, 2) := by decide +kernel
theorem dX12_otherKind_5 : decode cX12_otherKind 5 = .ok (.if_icmp .ge 94, 3) := by decide +kernel
theorem dX12_otherKind_8 : decode cX12_otherKind 8 = .ok (.aload_n 0, 1) := by decide +kernel
theorem dX12_otherKind_9 : decode cX12_otherKind 9 = .ok (.iload_n 3, 1) := by decide +kernel
theorem dX12_otherKind_10 : decode cX12_otherKind 10 = .ok (.invokevirtual 190, 3) := by decide +kernel
theorem dX12_otherKind_13 : decode cX12_otherKind 13 = .ok (.ifCond .eq 80, 3) := by decide +kernel
theorem dX12_otherKind_16 : decode cX12_otherKind 16 = .ok (.aload_n 0, 1) := by decide +kernel
theorem dX12_otherKind_17 : decode cX12_otherKind 17 = .ok (.getfield 25, 3) := by decide +kernel
theorem dX12_otherKind_20 : decode cX12_otherKind 20 = .ok (.iload_n 3, 1) := by decide +kernel
theorem dX12_otherKind_21 : decode cX12_otherKind 21 = .ok (.iaload, 1) := by decide +kernel
theorem dX12_otherKind_22 : decode cX12_otherKind 22 = .ok (.aload_n 0, 1) := by decide +kernel
theorem dX12_otherKind_23 : decode cX12_otherKind 23 = .ok (.getfield 25, 3) := by decide +kernel
theorem dX12_otherKind_26 : decode cX12_otherKind 26 = .ok (.aload_n 0, 1) := by decide +kernel
theorem dX12_otherKind_27 : decode cX12_otherKind 27 = .ok (.getfield 49, 3) := by decide +kernel
theorem dX12_otherKind_30 : decode cX12_otherKind 30 = .ok (.iload_n 1, 1) := by decide +kernel
theorem dX12_otherKind_31 : decode cX12_otherKind 31 = .ok (.iaload, 1) := by decide +kernel
theorem dX12_otherKind_32 : decode cX12_otherKind 32 = .ok (.iaload, 1) := by decide +kernel
theorem dX12_otherKind_33 : decode cX12_otherKind 33 = .ok (.if_icmp .ne 60, 3) := by decide +kernel
theorem dX12_otherKind_36 : decode cX12_otherKind 36 = .ok (.aload_n 0, 1) := by decide +kernel
theorem dX12_otherKind_37 : decode cX12_otherKind 37 = .ok (.getfield 13, 3) := by decide +kernel
theorem dX12_otherKind_40 : decode cX12_otherKind 40 = .ok (.iload_n 3, 1) := by decide +kernel
theorem dX12_otherKind_41 : decode cX12_otherKind 41 = .ok (.iaload, 1) := by decide +kernel
theorem dX12_otherKind_42 : decode cX12_otherKind 42 = .ok (.aload_n 0, 1) := by decide +kernel
theorem dX12_otherKind_43 : decode cX12_otherKind 43 = .ok (.getfield 13, 3) := by decide +kernel
theorem dX12_otherKind_46 : decode cX12_otherKind 46 = .ok (.aload_n 0, 1) := by decide +kernel
theorem dX12_otherKind_47 : decode cX12_otherKind 47 = .ok (.getfield 49, 3) := by decide +kernel
theorem dX12_otherKind_50 : decode cX12_otherKind 50 = .ok (.iload_n 1, 1) := by decide +kernel
theorem dX12_otherKind_51 : decode cX12_otherKind 51 = .ok (.iaload, 1) := by decide +kernel
theorem dX12_otherKind_52 : decode cX12_otherKind 52 = .ok (.iaload, 1) := by decide +kernel
theorem dX12_otherKind_53 : decode cX12_otherKind 53 = .ok (.if_icmp .gt 40, 3) := by decide +kernel
theorem dX12_otherKind_56 : decode cX12_otherKind 56 = .ok (.aload_n 0, 1) := by decide +kernel
theorem dX12_otherKind_57 : decode cX12_otherKind 57 = .ok (.aload_n 0, 1) := by decide +kernel
theorem dX12_otherKind_58 : decode cX12_otherKind 58 = .ok (.getfield 52, 3) := by decide +kernel
theorem dX12_otherKind_61 : decode cX12_otherKind 61 = .ok (.iload_n 1, 1) := by decide +kernel
theorem dX12_otherKind_62 : decode cX12_otherKind 62 = .ok (.iaload, 1) := by decide +kernel
theorem dX12_otherKind_63 : decode cX12_otherKind 63 = .ok (.iload_n 3, 1) := by decide +kernel
theorem dX12_otherKind_64 : decode cX12_otherKind 64 = .ok (.invokevirtual 193, 3) := by decide +kernel
theorem dX12_otherKind_67 : decode cX12_otherKind 67 = .ok (.ifCond .eq 26, 3) := by decide +kernel
theorem dX12_otherKind_70 : decode cX12_otherKind 70 = .ok (.aload_n 0, 1) := by decide +kernel
theorem dX12_otherKind_71 : decode cX12_otherKind 71 = .ok (.iload_n 3, 1) := by decide +kernel
theorem dX12_otherKind_72 : decode cX12_otherKind 72 = .ok (.aload_n 0, 1) := by decide +kernel
theorem dX12_otherKind_73 : decode cX12_otherKind 73 = .ok (.getfield 52, 3) := by decide +kernel
theorem dX12_otherKind_76 : decode cX12_otherKind 76 = .ok (.iload_n 1, 1) := by decide +kernel
theorem dX12_otherKind_77 : decode cX12_otherKind 77 = .ok (.iaload, 1) := by decide +kernel
theorem dX12_otherKind_78 : decode cX12_otherKind 78 = .ok (.aload_n 0, 1) := by decide +kernel
theorem dX12_otherKind_79 : decode cX12_otherKind 79 = .ok (.getfield 55, 3) := by decide +kernel
theorem dX12_otherKind_82 : decode cX12_otherKind 82 = .ok (.iload_n 1, 1) := by decide +kernel
theorem dX12_otherKind_83 : decode cX12_otherKind 83 = .ok (.iaload, 1) := by decide +kernel
theorem dX12_otherKind_84 : decode cX12_otherKind 84 = .ok (.iload_n 2, 1) := by decide +kernel
theorem dX12_otherKind_85 : decode cX12_otherKind 85 = .ok (.invokevirtual 205, 3) := by decide +kernel
theorem dX12_otherKind_88 : decode cX12_otherKind 88 = .ok (.ifCond .eq 5, 3) := by decide +kernel
theorem dX12_otherKind_91 : decode cX12_otherKind 91 = .ok (.iload_n 3, 1) := by decide +kernel
theorem dX12_otherKind_92 : decode cX12_otherKind 92 = .ok (.ireturn, 1) := by decide +kernel
theorem dX12_otherKind_93 : decode cX12_otherKind 93 = .ok (.iinc 3 1, 3) := by decide +kernel
theorem dX12_otherKind_96 : decode cX12_otherKind 96 = .ok (.goto (-94), 3) := by decide +kernel
theorem dX12_otherKind_99 : decode cX12_otherKind 99 = .ok (.iconst (-1), 1) := by decide +kernel
theorem dX12_otherKind_100 : decode cX12_otherKind 100 = .ok (.ireturn, 1) := by decide +kernel
theorem dX12_fate_0 : decode cX12_fate 0 = .ok (.aload_n 0, 1) := by decide +kernel
theorem dX12_fate_1 : decode cX12_fate 1 = .ok (.iload_n 1, 1) := by decide +kernel
theorem dX12_fate_2 : decode cX12_fate 2 = .ok (.invokevirtual 244, 3) := by decide +kernel
theorem dX12_fate_5 : decode cX12_fate 5 = .ok (.ifCond .ne 5, 3) := by decide +kernel
theorem dX12_fate_8 : decode cX12_fate 8 = .ok (.iconst (-1), 1) := by decide +kernel
theorem dX12_fate_9 : decode cX12_fate 9 = .ok (.ireturn, 1) := by decide +kernel
theorem dX12_fate_10 : decode cX12_fate 10 = .ok (.aload_n 0, 1) := by decide +kernel
theorem dX12_fate_11 : decode cX12_fate 11 = .ok (.invokevirtual 293, 3) := by decide +kernel
theorem dX12_fate_14 : decode cX12_fate 14 = .ok (.aload_n 0, 1) := by decide +kernel
theorem dX12_fate_15 : decode cX12_fate 15 = .ok (.getfield 132, 3) := by decide +kernel
theorem dX12_fate_18 : decode cX12_fate 18 = .ok (.iload_n 1, 1) := by decide +kernel
theorem dX12_fate_19 : decode cX12_fate 19 = .ok (.iaload, 1) := by decide +kernel
theorem dX12_fate_20 : decode cX12_fate 20 = .ok (.ireturn, 1) := by decide +kernel
theorem dX12_goes_0 : decode cX12_goes 0 = .ok (.aload_n 0, 1) := by decide +kernel
theorem dX12_goes_1 : decode cX12_goes 1 = .ok (.aload_n 0, 1) := by decide +kernel
theorem dX12_goes_2 : decode cX12_goes 2 = .ok (.iload_n 1, 1) := by decide +kernel
theorem dX12_goes_3 : decode cX12_goes 3 = .ok (.invokevirtual 244, 3) := by decide +kernel
theorem dX12_goes_6 : decode cX12_goes 6 = .ok (.ifCond .eq 12, 3) := by decide +kernel
theorem dX12_goes_9 : decode cX12_goes 9 = .ok (.iload_n 2, 1) := by decide +kernel
theorem dX12_goes_10 : decode cX12_goes 10 = .ok (.iconst 0, 1) := by decide +kernel
theorem dX12_goes_11 : decode cX12_goes 11 = .ok (.iconst 2, 1) := by decide +kernel
theorem dX12_goes_12 : decode cX12_goes 12 = .ok (.invokestatic 177, 3) := by decide +kernel
theorem dX12_goes_15 : decode cX12_goes 15 = .ok (.ifCond .ne 7, 3) := by decide +kernel
theorem dX12_goes_18 : decode cX12_goes 18 = .ok (.iconst 1, 1) := by decide +kernel
theorem dX12_goes_19 : decode cX12_goes 19 = .ok (.goto 4, 3) := by decide +kernel
theorem dX12_goes_22 : decode cX12_goes 22 = .ok (.iconst 0, 1) := by decide +kernel
theorem dX12_goes_23 : decode cX12_goes 23 = .ok (.putfield 148, 3) := by decide +kernel
theorem dX12_goes_26 : decode cX12_goes 26 = .ok (.aload_n 0, 1) := by decide +kernel
theorem dX12_goes_27 : decode cX12_goes 27 = .ok (.getfield 148, 3) := by decide +kernel
theorem dX12_goes_30 : decode cX12_goes 30 = .ok (.ifCond .eq 5, 3) := by decide +kernel
theorem dX12_goes_33 : decode cX12_goes 33 = .ok (.iconst 0, 1) := by decide +kernel
theorem dX12_goes_34 : decode cX12_goes 34 = .ok (.ireturn, 1) := by decide +kernel
theorem dX12_goes_35 : decode cX12_goes 35 = .ok (.aload_n 0, 1) := by decide +kernel
theorem dX12_goes_36 : decode cX12_goes 36 = .ok (.invokevirtual 293, 3) := by decide +kernel
theorem dX12_goes_39 : decode cX12_goes 39 = .ok (.aload_n 0, 1) := by decide +kernel
theorem dX12_goes_40 : decode cX12_goes 40 = .ok (.aload_n 0, 1) := by decide +kernel
theorem dX12_goes_41 : decode cX12_goes 41 = .ok (.getfield 132, 3) := by decide +kernel
theorem dX12_goes_44 : decode cX12_goes 44 = .ok (.iload_n 1, 1) := by decide +kernel
theorem dX12_goes_45 : decode cX12_goes 45 = .ok (.iaload, 1) := by decide +kernel
theorem dX12_goes_46 : decode cX12_goes 46 = .ok (.iconst 1, 1) := by decide +kernel
theorem dX12_goes_47 : decode cX12_goes 47 = .ok (.if_icmp .le 7, 3) := by decide +kernel
theorem dX12_goes_50 : decode cX12_goes 50 = .ok (.iconst 2, 1) := by decide +kernel
theorem dX12_goes_51 : decode cX12_goes 51 = .ok (.goto 4, 3) := by decide +kernel
theorem dX12_goes_54 : decode cX12_goes 54 = .ok (.iconst 0, 1) := by decide +kernel
theorem dX12_goes_55 : decode cX12_goes 55 = .ok (.putfield 148, 3) := by decide +kernel
theorem dX12_goes_58 : decode cX12_goes 58 = .ok (.aload_n 0, 1) := by decide +kernel
theorem dX12_goes_59 : decode cX12_goes 59 = .ok (.getfield 148, 3) := by decide +kernel
theorem dX12_goes_62 : decode cX12_goes 62 = .ok (.ifCond .eq 5, 3) := by decide +kernel
theorem dX12_goes_65 : decode cX12_goes 65 = .ok (.iconst 0, 1) := by decide +kernel
theorem dX12_goes_66 : decode cX12_goes 66 = .ok (.ireturn, 1) := by decide +kernel
theorem dX12_goes_67 : decode cX12_goes 67 = .ok (.iload_n 2, 1) := by decide +kernel
theorem dX12_goes_68 : decode cX12_goes 68 = .ok (.ifCond .ne 12, 3) := by decide +kernel
theorem dX12_goes_71 : decode cX12_goes 71 = .ok (.aload_n 0, 1) := by decide +kernel
theorem dX12_goes_72 : decode cX12_goes 72 = .ok (.getfield 135, 3) := by decide +kernel
theorem dX12_goes_75 : decode cX12_goes 75 = .ok (.iload_n 1, 1) := by decide +kernel
theorem dX12_goes_76 : decode cX12_goes 76 = .ok (.iaload, 1) := by decide +kernel
theorem dX12_goes_77 : decode cX12_goes 77 = .ok (.goto 42, 3) := by decide +kernel
theorem dX12_goes_80 : decode cX12_goes 80 = .ok (.iload_n 2, 1) := by decide +kernel
theorem dX12_goes_81 : decode cX12_goes 81 = .ok (.iconst 1, 1) := by decide +kernel
theorem dX12_goes_82 : decode cX12_goes 82 = .ok (.if_icmp .ne 24, 3) := by decide +kernel
theorem dX12_goes_85 : decode cX12_goes 85 = .ok (.aload_n 0, 1) := by decide +kernel
theorem dX12_goes_86 : decode cX12_goes 86 = .ok (.getfield 46, 3) := by decide +kernel
theorem dX12_goes_89 : decode cX12_goes 89 = .ok (.iload_n 1, 1) := by decide +kernel
theorem dX12_goes_90 : decode cX12_goes 90 = .ok (.iaload, 1) := by decide +kernel
theorem dX12_goes_91 : decode cX12_goes 91 = .ok (.aload_n 0, 1) := by decide +kernel
theorem dX12_goes_92 : decode cX12_goes 92 = .ok (.getfield 13, 3) := by decide +kernel
theorem dX12_goes_95 : decode cX12_goes 95 = .ok (.aload_n 0, 1) := by decide +kernel
theorem dX12_goes_96 : decode cX12_goes 96 = .ok (.getfield 135, 3) := by decide +kernel
theorem dX12_goes_99 : decode cX12_goes 99 = .ok (.iload_n 1, 1) := by decide +kernel
theorem dX12_goes_100 : decode cX12_goes 100 = .ok (.iaload, 1) := by decide +kernel
theorem dX12_goes_101 : decode cX12_goes 101 = .ok (.iaload, 1) := by decide +kernel
theorem dX12_goes_102 : decode cX12_goes 102 = .ok (.isub, 1) := by decide +kernel
theorem dX12_goes_103 : decode cX12_goes 103 = .ok (.goto 16, 3) := by decide +kernel
theorem dX12_goes_106 : decode cX12_goes 106 = .ok (.aload_n 0, 1) := by decide +kernel
theorem dX12_goes_107 : decode cX12_goes 107 = .ok (.getfield 46, 3) := by decide +kernel
theorem dX12_goes_110 : decode cX12_goes 110 = .ok (.iload_n 1, 1) := by decide +kernel
theorem dX12_goes_111 : decode cX12_goes 111 = .ok (.iaload, 1) := by decide +kernel
theorem dX12_goes_112 : decode cX12_goes 112 = .ok (.aload_n 0, 1) := by decide +kernel
theorem dX12_goes_113 : decode cX12_goes 113 = .ok (.getfield 58, 3) := by decide +kernel
theorem dX12_goes_116 : decode cX12_goes 116 = .ok (.iload_n 1, 1) := by decide +kernel
theorem dX12_goes_117 : decode cX12_goes 117 = .ok (.iaload, 1) := by decide +kernel
theorem dX12_goes_118 : decode cX12_goes 118 = .ok (.iadd, 1) := by decide +kernel
theorem dX12_goes_119 : decode cX12_goes 119 = .ok (.ireturn, 1) := by decide +kernel
theorem dX12_many_0 : decode cX12_many 0 = .ok (.iload_n 1, 1) := by decide +kernel
theorem dX12_many_1 : decode cX12_many 1 = .ok (.iconst 0, 1) := by decide +kernel
theorem dX12_many_2 : decode cX12_many 2 = .ok (.bipush 6, 2) := by decide +kernel
theorem dX12_many_4 : decode cX12_many 4 = .ok (.invokestatic 177, 3) := by decide +kernel
theorem dX12_many_7 : decode cX12_many 7 = .ok (.ifCond .ne 5, 3) := by decide +kernel
theorem dX12_many_10 : decode cX12_many 10 = .ok (.iconst (-1), 1) := by decide +kernel
theorem dX12_many_11 : decode cX12_many 11 = .ok (.ireturn, 1) := by decide +kernel
theorem dX12_many_12 : decode cX12_many 12 = .ok (.aload_n 0, 1) := by decide +kernel
theorem dX12_many_13 : decode cX12_many 13 = .ok (.invokevirtual 293, 3) := by decide +kernel
theorem dX12_many_16 : decode cX12_many 16 = .ok (.iconst 0, 1) := by decide +kernel
theorem dX12_many_17 : decode cX12_many 17 = .ok (.istore_n 2, 1) := by decide +kernel
theorem dX12_many_18 : decode cX12_many 18 = .ok (.iconst 0, 1) := by decide +kernel
theorem dX12_many_19 : decode cX12_many 19 = .ok (.istore_n 3, 1) := by decide +kernel
theorem dX12_many_20 : decode cX12_many 20 = .ok (.iload_n 3, 1) := by decide +kernel
theorem dX12_many_21 : decode cX12_many 21 = .ok (.aload_n 0, 1) := by decide +kernel
theorem dX12_many_22 : decode cX12_many 22 = .ok (.getfield 159, 3) := by decide +kernel
theorem dX12_many_25 : decode cX12_many 25 = .ok (.if_icmp .ge 27, 3) := by decide +kernel
theorem dX12_many_28 : decode cX12_many 28 = .ok (.iload_n 2, 1) := by decide +kernel
theorem dX12_many_29 : decode cX12_many 29 = .ok (.aload_n 0, 1) := by decide +kernel
theorem dX12_many_30 : decode cX12_many 30 = .ok (.getfield 132, 3) := by decide +kernel
theorem dX12_many_33 : decode cX12_many 33 = .ok (.iload_n 3, 1) := by decide +kernel
theorem dX12_many_34 : decode cX12_many 34 = .ok (.iaload, 1) := by decide +kernel
theorem dX12_many_35 : decode cX12_many 35 = .ok (.iload_n 1, 1) := by decide +kernel
theorem dX12_many_36 : decode cX12_many 36 = .ok (.if_icmp .ne 7, 3) := by decide +kernel
theorem dX12_many_39 : decode cX12_many 39 = .ok (.iconst 1, 1) := by decide +kernel
theorem dX12_many_40 : decode cX12_many 40 = .ok (.goto 4, 3) := by decide +kernel
theorem dX12_many_43 : decode cX12_many 43 = .ok (.iconst 0, 1) := by decide +kernel
theorem dX12_many_44 : decode cX12_many 44 = .ok (.iadd, 1) := by decide +kernel
theorem dX12_many_45 : decode cX12_many 45 = .ok (.istore_n 2, 1) := by decide +kernel
theorem dX12_many_46 : decode cX12_many 46 = .ok (.iinc 3 1, 3) := by decide +kernel
theorem dX12_many_49 : decode cX12_many 49 = .ok (.goto (-29), 3) := by decide +kernel
theorem dX12_many_52 : decode cX12_many 52 = .ok (.iload_n 2, 1) := by decide +kernel
theorem dX12_many_53 : decode cX12_many 53 = .ok (.ireturn, 1) := by decide +kernel
theorem dX12_order_0 : decode cX12_order 0 = .ok (.aload_n 0, 1) := by decide +kernel
theorem dX12_order_1 : decode cX12_order 1 = .ok (.iload_n 1, 1) := by decide +kernel
theorem dX12_order_2 : decode cX12_order 2 = .ok (.invokevirtual 244, 3) := by decide +kernel
theorem dX12_order_5 : decode cX12_order 5 = .ok (.ifCond .ne 5, 3) := by decide +kernel
theorem dX12_order_8 : decode cX12_order 8 = .ok (.iconst (-1), 1) := by decide +kernel
theorem dX12_order_9 : decode cX12_order 9 = .ok (.ireturn, 1) := by decide +kernel
theorem dX12_order_10 : decode cX12_order 10 = .ok (.aload_n 0, 1) := by decide +kernel
theorem dX12_order_11 : decode cX12_order 11 = .ok (.invokevirtual 293, 3) := by decide +kernel
theorem dX12_order_14 : decode cX12_order 14 = .ok (.aload_n 0, 1) := by decide +kernel
theorem dX12_order_15 : decode cX12_order 15 = .ok (.getfield 129, 3) := by decide +kernel
theorem dX12_order_18 : decode cX12_order 18 = .ok (.iload_n 1, 1) := by decide +kernel
theorem dX12_order_19 : decode cX12_order 19 = .ok (.iaload, 1) := by decide +kernel
theorem dX12_order_20 : decode cX12_order 20 = .ok (.ireturn, 1) := by decide +kernel
theorem dX12_seen_0 : decode cX12_seen 0 = .ok (.iload_n 1, 1) := by decide +kernel
theorem dX12_seen_1 : decode cX12_seen 1 = .ok (.iconst 0, 1) := by decide +kernel
theorem dX12_seen_2 : decode cX12_seen 2 = .ok (.sipush 20010, 3) := by decide +kernel
theorem dX12_seen_5 : decode cX12_seen 5 = .ok (.invokestatic 177, 3) := by decide +kernel
theorem dX12_seen_8 : decode cX12_seen 8 = .ok (.ifCond .eq 13, 3) := by decide +kernel
theorem dX12_seen_11 : decode cX12_seen 11 = .ok (.iload_n 2, 1) := by decide +kernel
theorem dX12_seen_12 : decode cX12_seen 12 = .ok (.iconst 1, 1) := by decide +kernel
theorem dX12_seen_13 : decode cX12_seen 13 = .ok (.bipush 9, 2) := by decide +kernel
theorem dX12_seen_15 : decode cX12_seen 15 = .ok (.invokestatic 177, 3) := by decide +kernel
theorem dX12_seen_18 : decode cX12_seen 18 = .ok (.ifCond .ne 5, 3) := by decide +kernel
theorem dX12_seen_21 : decode cX12_seen 21 = .ok (.iconst (-1), 1) := by decide +kernel
theorem dX12_seen_22 : decode cX12_seen 22 = .ok (.ireturn, 1) := by decide +kernel
theorem dX12_seen_23 : decode cX12_seen 23 = .ok (.aload_n 0, 1) := by decide +kernel
theorem dX12_seen_24 : decode cX12_seen 24 = .ok (.getfield 171, 3) := by decide +kernel
theorem dX12_seen_27 : decode cX12_seen 27 = .ok (.bipush 60, 2) := by decide +kernel
theorem dX12_seen_29 : decode cX12_seen 29 = .ok (.if_icmp .ne 6, 3) := by decide +kernel
theorem dX12_seen_32 : decode cX12_seen 32 = .ok (.bipush (-2), 2) := by decide +kernel
theorem dX12_seen_34 : decode cX12_seen 34 = .ok (.ireturn, 1) := by decide +kernel
theorem dX12_seen_35 : decode cX12_seen 35 = .ok (.aload_n 0, 1) := by decide +kernel
theorem dX12_seen_36 : decode cX12_seen 36 = .ok (.getfield 85, 3) := by decide +kernel
theorem dX12_seen_39 : decode cX12_seen 39 = .ok (.aload_n 0, 1) := by decide +kernel
theorem dX12_seen_40 : decode cX12_seen 40 = .ok (.getfield 171, 3) := by decide +kernel
theorem dX12_seen_43 : decode cX12_seen 43 = .ok (.iload_n 1, 1) := by decide +kernel
theorem dX12_seen_44 : decode cX12_seen 44 = .ok (.iastore, 1) := by decide +kernel
theorem dX12_seen_45 : decode cX12_seen 45 = .ok (.aload_n 0, 1) := by decide +kernel
theorem dX12_seen_46 : decode cX12_seen 46 = .ok (.getfield 88, 3) := by decide +kernel
theorem dX12_seen_49 : decode cX12_seen 49 = .ok (.aload_n 0, 1) := by decide +kernel
theorem dX12_seen_50 : decode cX12_seen 50 = .ok (.getfield 171, 3) := by decide +kernel
theorem dX12_seen_53 : decode cX12_seen 53 = .ok (.iload_n 2, 1) := by decide +kernel
theorem dX12_seen_54 : decode cX12_seen 54 = .ok (.iastore, 1) := by decide +kernel
theorem dX12_seen_55 : decode cX12_seen 55 = .ok (.aload_n 0, 1) := by decide +kernel
theorem dX12_seen_56 : decode cX12_seen 56 = .ok (.dup, 1) := by decide +kernel
theorem dX12_seen_57 : decode cX12_seen 57 = .ok (.getfield 171, 3) := by decide +kernel
theorem dX12_seen_60 : decode cX12_seen 60 = .ok (.iconst 1, 1) := by decide +kernel
theorem dX12_seen_61 : decode cX12_seen 61 = .ok (.iadd, 1) := by decide +kernel
theorem dX12_seen_62 : decode cX12_seen 62 = .ok (.putfield 171, 3) := by decide +kernel
theorem dX12_seen_65 : decode cX12_seen 65 = .ok (.aload_n 0, 1) := by decide +kernel
theorem dX12_seen_66 : decode cX12_seen 66 = .ok (.getfield 171, 3) := by decide +kernel
theorem dX12_seen_69 : decode cX12_seen 69 = .ok (.ireturn, 1) := by decide +kernel
theorem dX12_unseen_0 : decode cX12_unseen 0 = .ok (.aload_n 0, 1) := by decide +kernel
theorem dX12_unseen_1 : decode cX12_unseen 1 = .ok (.getfield 171, 3) := by decide +kernel
theorem dX12_unseen_4 : decode cX12_unseen 4 = .ok (.istore_n 1, 1) := by decide +kernel
theorem dX12_unseen_5 : decode cX12_unseen 5 = .ok (.aload_n 0, 1) := by decide +kernel
theorem dX12_unseen_6 : decode cX12_unseen 6 = .ok (.iconst 0, 1) := by decide +kernel
theorem dX12_unseen_7 : decode cX12_unseen 7 = .ok (.putfield 171, 3) := by decide +kernel
theorem dX12_unseen_10 : decode cX12_unseen 10 = .ok (.iload_n 1, 1) := by decide +kernel
theorem dX12_unseen_11 : decode cX12_unseen 11 = .ok (.ireturn, 1) := by decide +kernel
theorem dX12_isShown_0 : decode cX12_isShown 0 = .ok (.aload_n 0, 1) := by decide +kernel
theorem dX12_isShown_1 : decode cX12_isShown 1 = .ok (.getfield 132, 3) := by decide +kernel
theorem dX12_isShown_4 : decode cX12_isShown 4 = .ok (.iload_n 1, 1) := by decide +kernel
theorem dX12_isShown_5 : decode cX12_isShown 5 = .ok (.iaload, 1) := by decide +kernel
theorem dX12_isShown_6 : decode cX12_isShown 6 = .ok (.iconst 2, 1) := by decide +kernel
theorem dX12_isShown_7 : decode cX12_isShown 7 = .ok (.if_icmp .lt 13, 3) := by decide +kernel
theorem dX12_isShown_10 : decode cX12_isShown 10 = .ok (.aload_n 0, 1) := by decide +kernel
theorem dX12_isShown_11 : decode cX12_isShown 11 = .ok (.getfield 132, 3) := by decide +kernel
theorem dX12_isShown_14 : decode cX12_isShown 14 = .ok (.iload_n 1, 1) := by decide +kernel
theorem dX12_isShown_15 : decode cX12_isShown 15 = .ok (.iaload, 1) := by decide +kernel
theorem dX12_isShown_16 : decode cX12_isShown 16 = .ok (.iconst 5, 1) := by decide +kernel
theorem dX12_isShown_17 : decode cX12_isShown 17 = .ok (.if_icmp .ne 7, 3) := by decide +kernel
theorem dX12_isShown_20 : decode cX12_isShown 20 = .ok (.iconst 1, 1) := by decide +kernel
theorem dX12_isShown_21 : decode cX12_isShown 21 = .ok (.goto 4, 3) := by decide +kernel
theorem dX12_isShown_24 : decode cX12_isShown 24 = .ok (.iconst 0, 1) := by decide +kernel
theorem dX12_isShown_25 : decode cX12_isShown 25 = .ok (.ireturn, 1) := by decide +kernel
theorem dX12_mayBe_0 : decode cX12_mayBe 0 = .ok (.aload_n 0, 1) := by decide +kernel
theorem dX12_mayBe_1 : decode cX12_mayBe 1 = .ok (.getfield 88, 3) := by decide +kernel
theorem dX12_mayBe_4 : decode cX12_mayBe 4 = .ok (.iload_n 2, 1) := by decide +kernel
theorem dX12_mayBe_5 : decode cX12_mayBe 5 = .ok (.iaload, 1) := by decide +kernel
theorem dX12_mayBe_6 : decode cX12_mayBe 6 = .ok (.aload_n 0, 1) := by decide +kernel
theorem dX12_mayBe_7 : decode cX12_mayBe 7 = .ok (.getfield 25, 3) := by decide +kernel
theorem dX12_mayBe_10 : decode cX12_mayBe 10 = .ok (.aload_n 0, 1) := by decide +kernel
theorem dX12_mayBe_11 : decode cX12_mayBe 11 = .ok (.getfield 135, 3) := by decide +kernel
theorem dX12_mayBe_14 : decode cX12_mayBe 14 = .ok (.iload_n 1, 1) := by decide +kernel
theorem dX12_mayBe_15 : decode cX12_mayBe 15 = .ok (.iaload, 1) := by decide +kernel
theorem dX12_mayBe_16 : decode cX12_mayBe 16 = .ok (.iaload, 1) := by decide +kernel
theorem dX12_mayBe_17 : decode cX12_mayBe 17 = .ok (.if_icmp .ne 37, 3) := by decide +kernel
theorem dX12_mayBe_20 : decode cX12_mayBe 20 = .ok (.aload_n 0, 1) := by decide +kernel
theorem dX12_mayBe_21 : decode cX12_mayBe 21 = .ok (.getfield 85, 3) := by decide +kernel
theorem dX12_mayBe_24 : decode cX12_mayBe 24 = .ok (.iload_n 2, 1) := by decide +kernel
theorem dX12_mayBe_25 : decode cX12_mayBe 25 = .ok (.iaload, 1) := by decide +kernel
theorem dX12_mayBe_26 : decode cX12_mayBe 26 = .ok (.aload_n 0, 1) := by decide +kernel
theorem dX12_mayBe_27 : decode cX12_mayBe 27 = .ok (.getfield 46, 3) := by decide +kernel
theorem dX12_mayBe_30 : decode cX12_mayBe 30 = .ok (.iload_n 1, 1) := by decide +kernel
theorem dX12_mayBe_31 : decode cX12_mayBe 31 = .ok (.iaload, 1) := by decide +kernel
theorem dX12_mayBe_32 : decode cX12_mayBe 32 = .ok (.isub, 1) := by decide +kernel
theorem dX12_mayBe_33 : decode cX12_mayBe 33 = .ok (.invokestatic 182, 3) := by decide +kernel
theorem dX12_mayBe_36 : decode cX12_mayBe 36 = .ok (.aload_n 0, 1) := by decide +kernel
theorem dX12_mayBe_37 : decode cX12_mayBe 37 = .ok (.getfield 28, 3) := by decide +kernel
theorem dX12_mayBe_40 : decode cX12_mayBe 40 = .ok (.aload_n 0, 1) := by decide +kernel
theorem dX12_mayBe_41 : decode cX12_mayBe 41 = .ok (.getfield 135, 3) := by decide +kernel
theorem dX12_mayBe_44 : decode cX12_mayBe 44 = .ok (.iload_n 1, 1) := by decide +kernel
theorem dX12_mayBe_45 : decode cX12_mayBe 45 = .ok (.iaload, 1) := by decide +kernel
theorem dX12_mayBe_46 : decode cX12_mayBe 46 = .ok (.iaload, 1) := by decide +kernel
theorem dX12_mayBe_47 : decode cX12_mayBe 47 = .ok (.if_icmp .gt 7, 3) := by decide +kernel
theorem dX12_mayBe_50 : decode cX12_mayBe 50 = .ok (.iconst 1, 1) := by decide +kernel
theorem dX12_mayBe_51 : decode cX12_mayBe 51 = .ok (.goto 4, 3) := by decide +kernel
theorem dX12_mayBe_54 : decode cX12_mayBe 54 = .ok (.iconst 0, 1) := by decide +kernel
theorem dX12_mayBe_55 : decode cX12_mayBe 55 = .ok (.ireturn, 1) := by decide +kernel
theorem dX12_finds_0 : decode cX12_finds 0 = .ok (.iconst 0, 1) := by decide +kernel
theorem dX12_finds_1 : decode cX12_finds 1 = .ok (.istore_n 2, 1) := by decide +kernel
theorem dX12_finds_2 : decode cX12_finds 2 = .ok (.iload_n 2, 1) := by decide +kernel
theorem dX12_finds_3 : decode cX12_finds 3 = .ok (.aload_n 0, 1) := by decide +kernel
theorem dX12_finds_4 : decode cX12_finds 4 = .ok (.getfield 171, 3) := by decide +kernel
theorem dX12_finds_7 : decode cX12_finds 7 = .ok (.if_icmp .ge 71, 3) := by decide +kernel
theorem dX12_finds_10 : decode cX12_finds 10 = .ok (.aload_n 0, 1) := by decide +kernel
theorem dX12_finds_11 : decode cX12_finds 11 = .ok (.getfield 141, 3) := by decide +kernel
theorem dX12_finds_14 : decode cX12_finds 14 = .ok (.iload_n 2, 1) := by decide +kernel
theorem dX12_finds_15 : decode cX12_finds 15 = .ok (.baload, 1) := by decide +kernel
theorem dX12_finds_16 : decode cX12_finds 16 = .ok (.ifCond .ne 56, 3) := by decide +kernel
theorem dX12_finds_19 : decode cX12_finds 19 = .ok (.aload_n 0, 1) := by decide +kernel
theorem dX12_finds_20 : decode cX12_finds 20 = .ok (.iload_n 1, 1) := by decide +kernel
theorem dX12_finds_21 : decode cX12_finds 21 = .ok (.iload_n 2, 1) := by decide +kernel
theorem dX12_finds_22 : decode cX12_finds 22 = .ok (.invokevirtual 296, 3) := by decide +kernel
theorem dX12_finds_25 : decode cX12_finds 25 = .ok (.ifCond .ne 6, 3) := by decide +kernel
theorem dX12_finds_28 : decode cX12_finds 28 = .ok (.goto 44, 3) := by decide +kernel
theorem dX12_finds_31 : decode cX12_finds 31 = .ok (.aload_n 0, 1) := by decide +kernel
theorem dX12_finds_32 : decode cX12_finds 32 = .ok (.getfield 141, 3) := by decide +kernel
theorem dX12_finds_35 : decode cX12_finds 35 = .ok (.iload_n 2, 1) := by decide +kernel
theorem dX12_finds_36 : decode cX12_finds 36 = .ok (.iconst 1, 1) := by decide +kernel
theorem dX12_finds_37 : decode cX12_finds 37 = .ok (.bastore, 1) := by decide +kernel
theorem dX12_finds_38 : decode cX12_finds 38 = .ok (.aload_n 0, 1) := by decide +kernel
theorem dX12_finds_39 : decode cX12_finds 39 = .ok (.getfield 138, 3) := by decide +kernel
theorem dX12_finds_42 : decode cX12_finds 42 = .ok (.iload_n 2, 1) := by decide +kernel
theorem dX12_finds_43 : decode cX12_finds 43 = .ok (.iaload, 1) := by decide +kernel
theorem dX12_finds_44 : decode cX12_finds 44 = .ok (.ifCond .lt 19, 3) := by decide +kernel
theorem dX12_finds_47 : decode cX12_finds 47 = .ok (.aload_n 0, 1) := by decide +kernel
theorem dX12_finds_48 : decode cX12_finds 48 = .ok (.aload_n 0, 1) := by decide +kernel
theorem dX12_finds_49 : decode cX12_finds 49 = .ok (.getfield 138, 3) := by decide +kernel
theorem dX12_finds_52 : decode cX12_finds 52 = .ok (.iload_n 2, 1) := by decide +kernel
theorem dX12_finds_53 : decode cX12_finds 53 = .ok (.iaload, 1) := by decide +kernel
theorem dX12_finds_54 : decode cX12_finds 54 = .ok (.invokevirtual 299, 3) := by decide +kernel
theorem dX12_finds_57 : decode cX12_finds 57 = .ok (.ifCond .ne 6, 3) := by decide +kernel
theorem dX12_finds_60 : decode cX12_finds 60 = .ok (.goto 12, 3) := by decide +kernel
theorem dX12_finds_63 : decode cX12_finds 63 = .ok (.aload_n 0, 1) := by decide +kernel
theorem dX12_finds_64 : decode cX12_finds 64 = .ok (.getfield 138, 3) := by decide +kernel
theorem dX12_finds_67 : decode cX12_finds 67 = .ok (.iload_n 2, 1) := by decide +kernel
theorem dX12_finds_68 : decode cX12_finds 68 = .ok (.iload_n 1, 1) := by decide +kernel
theorem dX12_finds_69 : decode cX12_finds 69 = .ok (.iastore, 1) := by decide +kernel
theorem dX12_finds_70 : decode cX12_finds 70 = .ok (.iconst 1, 1) := by decide +kernel
theorem dX12_finds_71 : decode cX12_finds 71 = .ok (.ireturn, 1) := by decide +kernel
theorem dX12_finds_72 : decode cX12_finds 72 = .ok (.iinc 2 1, 3) := by decide +kernel
theorem dX12_finds_75 : decode cX12_finds 75 = .ok (.goto (-73), 3) := by decide +kernel
theorem dX12_finds_78 : decode cX12_finds 78 = .ok (.iconst 0, 1) := by decide +kernel
theorem dX12_finds_79 : decode cX12_finds 79 = .ok (.ireturn, 1) := by decide +kernel
theorem dX12_matching_0 : decode cX12_matching 0 = .ok (.iconst 0, 1) := by decide +kernel
theorem dX12_matching_1 : decode cX12_matching 1 = .ok (.istore_n 2, 1) := by decide +kernel
theorem dX12_matching_2 : decode cX12_matching 2 = .ok (.iconst 0, 1) := by decide +kernel
theorem dX12_matching_3 : decode cX12_matching 3 = .ok (.istore_n 3, 1) := by decide +kernel
theorem dX12_matching_4 : decode cX12_matching 4 = .ok (.iload_n 3, 1) := by decide +kernel
theorem dX12_matching_5 : decode cX12_matching 5 = .ok (.aload_n 0, 1) := by decide +kernel
theorem dX12_matching_6 : decode cX12_matching 6 = .ok (.getfield 171, 3) := by decide +kernel
theorem dX12_matching_9 : decode cX12_matching 9 = .ok (.if_icmp .ge 16, 3) := by decide +kernel
theorem dX12_matching_12 : decode cX12_matching 12 = .ok (.aload_n 0, 1) := by decide +kernel
theorem dX12_matching_13 : decode cX12_matching 13 = .ok (.getfield 138, 3) := by decide +kernel
theorem dX12_matching_16 : decode cX12_matching 16 = .ok (.iload_n 3, 1) := by decide +kernel
theorem dX12_matching_17 : decode cX12_matching 17 = .ok (.iconst (-1), 1) := by decide +kernel
theorem dX12_matching_18 : decode cX12_matching 18 = .ok (.iastore, 1) := by decide +kernel
theorem dX12_matching_19 : decode cX12_matching 19 = .ok (.iinc 3 1, 3) := by decide +kernel
theorem dX12_matching_22 : decode cX12_matching 22 = .ok (.goto (-18), 3) := by decide +kernel
theorem dX12_matching_25 : decode cX12_matching 25 = .ok (.iconst 0, 1) := by decide +kernel
theorem dX12_matching_26 : decode cX12_matching 26 = .ok (.istore_n 3, 1) := by decide +kernel
theorem dX12_matching_27 : decode cX12_matching 27 = .ok (.iload_n 3, 1) := by decide +kernel
theorem dX12_matching_28 : decode cX12_matching 28 = .ok (.aload_n 0, 1) := by decide +kernel
theorem dX12_matching_29 : decode cX12_matching 29 = .ok (.getfield 159, 3) := by decide +kernel
theorem dX12_matching_32 : decode cX12_matching 32 = .ok (.if_icmp .ge 67, 3) := by decide +kernel
theorem dX12_matching_35 : decode cX12_matching 35 = .ok (.iload_n 3, 1) := by decide +kernel
theorem dX12_matching_36 : decode cX12_matching 36 = .ok (.iload_n 1, 1) := by decide +kernel
theorem dX12_matching_37 : decode cX12_matching 37 = .ok (.if_icmp .eq 56, 3) := by decide +kernel
theorem dX12_matching_40 : decode cX12_matching 40 = .ok (.aload_n 0, 1) := by decide +kernel
theorem dX12_matching_41 : decode cX12_matching 41 = .ok (.iload_n 3, 1) := by decide +kernel
theorem dX12_matching_42 : decode cX12_matching 42 = .ok (.invokevirtual 302, 3) := by decide +kernel
theorem dX12_matching_45 : decode cX12_matching 45 = .ok (.ifCond .ne 6, 3) := by decide +kernel
theorem dX12_matching_48 : decode cX12_matching 48 = .ok (.goto 45, 3) := by decide +kernel
theorem dX12_matching_51 : decode cX12_matching 51 = .ok (.iconst 0, 1) := by decide +kernel
theorem dX12_matching_52 : decode cX12_matching 52 = .ok (.istore 4, 2) := by decide +kernel
theorem dX12_matching_54 : decode cX12_matching 54 = .ok (.iload 4, 2) := by decide +kernel
theorem dX12_matching_56 : decode cX12_matching 56 = .ok (.aload_n 0, 1) := by decide +kernel
theorem dX12_matching_57 : decode cX12_matching 57 = .ok (.getfield 171, 3) := by decide +kernel
theorem dX12_matching_60 : decode cX12_matching 60 = .ok (.if_icmp .ge 17, 3) := by decide +kernel
theorem dX12_matching_63 : decode cX12_matching 63 = .ok (.aload_n 0, 1) := by decide +kernel
theorem dX12_matching_64 : decode cX12_matching 64 = .ok (.getfield 141, 3) := by decide +kernel
theorem dX12_matching_67 : decode cX12_matching 67 = .ok (.iload 4, 2) := by decide +kernel
theorem dX12_matching_69 : decode cX12_matching 69 = .ok (.iconst 0, 1) := by decide +kernel
theorem dX12_matching_70 : decode cX12_matching 70 = .ok (.bastore, 1) := by decide +kernel
theorem dX12_matching_71 : decode cX12_matching 71 = .ok (.iinc 4 1, 3) := by decide +kernel
theorem dX12_matching_74 : decode cX12_matching 74 = .ok (.goto (-20), 3) := by decide +kernel
theorem dX12_matching_77 : decode cX12_matching 77 = .ok (.iload_n 2, 1) := by decide +kernel
theorem dX12_matching_78 : decode cX12_matching 78 = .ok (.aload_n 0, 1) := by decide +kernel
theorem dX12_matching_79 : decode cX12_matching 79 = .ok (.iload_n 3, 1) := by decide +kernel
theorem dX12_matching_80 : decode cX12_matching 80 = .ok (.invokevirtual 299, 3) := by decide +kernel
theorem dX12_matching_83 : decode cX12_matching 83 = .ok (.ifCond .eq 7, 3) := by decide +kernel
theorem dX12_matching_86 : decode cX12_matching 86 = .ok (.iconst 1, 1) := by decide +kernel
theorem dX12_matching_87 : decode cX12_matching 87 = .ok (.goto 4, 3) := by decide +kernel
theorem dX12_matching_90 : decode cX12_matching 90 = .ok (.iconst 0, 1) := by decide +kernel
theorem dX12_matching_91 : decode cX12_matching 91 = .ok (.iadd, 1) := by decide +kernel
theorem dX12_matching_92 : decode cX12_matching 92 = .ok (.istore_n 2, 1) := by decide +kernel
theorem dX12_matching_93 : decode cX12_matching 93 = .ok (.iinc 3 1, 3) := by decide +kernel
theorem dX12_matching_96 : decode cX12_matching 96 = .ok (.goto (-69), 3) := by decide +kernel
theorem dX12_matching_99 : decode cX12_matching 99 = .ok (.iload_n 2, 1) := by decide +kernel
theorem dX12_matching_100 : decode cX12_matching 100 = .ok (.ireturn, 1) := by decide +kernel
theorem dX12_duds_0 : decode cX12_duds 0 = .ok (.aload_n 0, 1) := by decide +kernel
theorem dX12_duds_1 : decode cX12_duds 1 = .ok (.invokevirtual 293, 3) := by decide +kernel
theorem dX12_duds_4 : decode cX12_duds 4 = .ok (.iconst 0, 1) := by decide +kernel
theorem dX12_duds_5 : decode cX12_duds 5 = .ok (.istore_n 1, 1) := by decide +kernel
theorem dX12_duds_6 : decode cX12_duds 6 = .ok (.iconst 0, 1) := by decide +kernel
theorem dX12_duds_7 : decode cX12_duds 7 = .ok (.istore_n 2, 1) := by decide +kernel
theorem dX12_duds_8 : decode cX12_duds 8 = .ok (.iload_n 2, 1) := by decide +kernel
theorem dX12_duds_9 : decode cX12_duds 9 = .ok (.aload_n 0, 1) := by decide +kernel
theorem dX12_duds_10 : decode cX12_duds 10 = .ok (.getfield 159, 3) := by decide +kernel
theorem dX12_duds_13 : decode cX12_duds 13 = .ok (.if_icmp .ge 25, 3) := by decide +kernel
theorem dX12_duds_16 : decode cX12_duds 16 = .ok (.iload_n 1, 1) := by decide +kernel
theorem dX12_duds_17 : decode cX12_duds 17 = .ok (.aload_n 0, 1) := by decide +kernel
theorem dX12_duds_18 : decode cX12_duds 18 = .ok (.iload_n 2, 1) := by decide +kernel
theorem dX12_duds_19 : decode cX12_duds 19 = .ok (.invokevirtual 302, 3) := by decide +kernel
theorem dX12_duds_22 : decode cX12_duds 22 = .ok (.ifCond .eq 7, 3) := by decide +kernel
theorem dX12_duds_25 : decode cX12_duds 25 = .ok (.iconst 1, 1) := by decide +kernel
theorem dX12_duds_26 : decode cX12_duds 26 = .ok (.goto 4, 3) := by decide +kernel
theorem dX12_duds_29 : decode cX12_duds 29 = .ok (.iconst 0, 1) := by decide +kernel
theorem dX12_duds_30 : decode cX12_duds 30 = .ok (.iadd, 1) := by decide +kernel
theorem dX12_duds_31 : decode cX12_duds 31 = .ok (.istore_n 1, 1) := by decide +kernel
theorem dX12_duds_32 : decode cX12_duds 32 = .ok (.iinc 2 1, 3) := by decide +kernel
theorem dX12_duds_35 : decode cX12_duds 35 = .ok (.goto (-27), 3) := by decide +kernel
theorem dX12_duds_38 : decode cX12_duds 38 = .ok (.iload_n 1, 1) := by decide +kernel
theorem dX12_duds_39 : decode cX12_duds 39 = .ok (.aload_n 0, 1) := by decide +kernel
theorem dX12_duds_40 : decode cX12_duds 40 = .ok (.iconst (-1), 1) := by decide +kernel
theorem dX12_duds_41 : decode cX12_duds 41 = .ok (.invokevirtual 305, 3) := by decide +kernel
theorem dX12_duds_44 : decode cX12_duds 44 = .ok (.isub, 1) := by decide +kernel
theorem dX12_duds_45 : decode cX12_duds 45 = .ok (.ireturn, 1) := by decide +kernel
theorem dX12_dud_0 : decode cX12_dud 0 = .ok (.aload_n 0, 1) := by decide +kernel
theorem dX12_dud_1 : decode cX12_dud 1 = .ok (.iload_n 1, 1) := by decide +kernel
theorem dX12_dud_2 : decode cX12_dud 2 = .ok (.invokevirtual 244, 3) := by decide +kernel
theorem dX12_dud_5 : decode cX12_dud 5 = .ok (.ifCond .ne 5, 3) := by decide +kernel
theorem dX12_dud_8 : decode cX12_dud 8 = .ok (.iconst (-1), 1) := by decide +kernel
theorem dX12_dud_9 : decode cX12_dud 9 = .ok (.ireturn, 1) := by decide +kernel
theorem dX12_dud_10 : decode cX12_dud 10 = .ok (.aload_n 0, 1) := by decide +kernel
theorem dX12_dud_11 : decode cX12_dud 11 = .ok (.invokevirtual 293, 3) := by decide +kernel
theorem dX12_dud_14 : decode cX12_dud 14 = .ok (.aload_n 0, 1) := by decide +kernel
theorem dX12_dud_15 : decode cX12_dud 15 = .ok (.iload_n 1, 1) := by decide +kernel
theorem dX12_dud_16 : decode cX12_dud 16 = .ok (.invokevirtual 302, 3) := by decide +kernel
theorem dX12_dud_19 : decode cX12_dud 19 = .ok (.ifCond .ne 6, 3) := by decide +kernel
theorem dX12_dud_22 : decode cX12_dud 22 = .ok (.bipush (-2), 2) := by decide +kernel
theorem dX12_dud_24 : decode cX12_dud 24 = .ok (.ireturn, 1) := by decide +kernel
theorem dX12_dud_25 : decode cX12_dud 25 = .ok (.iconst 0, 1) := by decide +kernel
theorem dX12_dud_26 : decode cX12_dud 26 = .ok (.istore_n 2, 1) := by decide +kernel
theorem dX12_dud_27 : decode cX12_dud 27 = .ok (.iconst 0, 1) := by decide +kernel
theorem dX12_dud_28 : decode cX12_dud 28 = .ok (.istore_n 3, 1) := by decide +kernel
theorem dX12_dud_29 : decode cX12_dud 29 = .ok (.iload_n 3, 1) := by decide +kernel
theorem dX12_dud_30 : decode cX12_dud 30 = .ok (.aload_n 0, 1) := by decide +kernel
theorem dX12_dud_31 : decode cX12_dud 31 = .ok (.getfield 171, 3) := by decide +kernel
theorem dX12_dud_34 : decode cX12_dud 34 = .ok (.if_icmp .ge 28, 3) := by decide +kernel
theorem dX12_dud_37 : decode cX12_dud 37 = .ok (.iload_n 2, 1) := by decide +kernel
theorem dX12_dud_38 : decode cX12_dud 38 = .ok (.ifCond .ne 12, 3) := by decide +kernel
theorem dX12_dud_41 : decode cX12_dud 41 = .ok (.aload_n 0, 1) := by decide +kernel
theorem dX12_dud_42 : decode cX12_dud 42 = .ok (.iload_n 1, 1) := by decide +kernel
theorem dX12_dud_43 : decode cX12_dud 43 = .ok (.iload_n 3, 1) := by decide +kernel
theorem dX12_dud_44 : decode cX12_dud 44 = .ok (.invokevirtual 296, 3) := by decide +kernel
theorem dX12_dud_47 : decode cX12_dud 47 = .ok (.ifCond .eq 7, 3) := by decide +kernel
theorem dX12_dud_50 : decode cX12_dud 50 = .ok (.iconst 1, 1) := by decide +kernel
theorem dX12_dud_51 : decode cX12_dud 51 = .ok (.goto 4, 3) := by decide +kernel
theorem dX12_dud_54 : decode cX12_dud 54 = .ok (.iconst 0, 1) := by decide +kernel
theorem dX12_dud_55 : decode cX12_dud 55 = .ok (.istore_n 2, 1) := by decide +kernel
theorem dX12_dud_56 : decode cX12_dud 56 = .ok (.iinc 3 1, 3) := by decide +kernel
theorem dX12_dud_59 : decode cX12_dud 59 = .ok (.goto (-30), 3) := by decide +kernel
theorem dX12_dud_62 : decode cX12_dud 62 = .ok (.iload_n 2, 1) := by decide +kernel
theorem dX12_dud_63 : decode cX12_dud 63 = .ok (.ifCond .ne 7, 3) := by decide +kernel
theorem dX12_dud_66 : decode cX12_dud 66 = .ok (.iconst 2, 1) := by decide +kernel
theorem dX12_dud_67 : decode cX12_dud 67 = .ok (.goto 21, 3) := by decide +kernel
theorem dX12_dud_70 : decode cX12_dud 70 = .ok (.aload_n 0, 1) := by decide +kernel
theorem dX12_dud_71 : decode cX12_dud 71 = .ok (.iload_n 1, 1) := by decide +kernel
theorem dX12_dud_72 : decode cX12_dud 72 = .ok (.invokevirtual 305, 3) := by decide +kernel
theorem dX12_dud_75 : decode cX12_dud 75 = .ok (.aload_n 0, 1) := by decide +kernel
theorem dX12_dud_76 : decode cX12_dud 76 = .ok (.iconst (-1), 1) := by decide +kernel
theorem dX12_dud_77 : decode cX12_dud 77 = .ok (.invokevirtual 305, 3) := by decide +kernel
theorem dX12_dud_80 : decode cX12_dud 80 = .ok (.if_icmp .ne 7, 3) := by decide +kernel
theorem dX12_dud_83 : decode cX12_dud 83 = .ok (.iconst 1, 1) := by decide +kernel
theorem dX12_dud_84 : decode cX12_dud 84 = .ok (.goto 4, 3) := by decide +kernel
theorem dX12_dud_87 : decode cX12_dud 87 = .ok (.iconst 0, 1) := by decide +kernel
theorem dX12_dud_88 : decode cX12_dud 88 = .ok (.ireturn, 1) := by decide +kernel
theorem dX12_strange_0 : decode cX12_strange 0 = .ok (.aload_n 0, 1) := by decide +kernel
theorem dX12_strange_1 : decode cX12_strange 1 = .ok (.invokevirtual 293, 3) := by decide +kernel
theorem dX12_strange_4 : decode cX12_strange 4 = .ok (.aload_n 0, 1) := by decide +kernel
theorem dX12_strange_5 : decode cX12_strange 5 = .ok (.getfield 171, 3) := by decide +kernel
theorem dX12_strange_8 : decode cX12_strange 8 = .ok (.aload_n 0, 1) := by decide +kernel
theorem dX12_strange_9 : decode cX12_strange 9 = .ok (.iconst (-1), 1) := by decide +kernel
theorem dX12_strange_10 : decode cX12_strange 10 = .ok (.invokevirtual 305, 3) := by decide +kernel
theorem dX12_strange_13 : decode cX12_strange 13 = .ok (.isub, 1) := by decide +kernel
theorem dX12_strange_14 : decode cX12_strange 14 = .ok (.ireturn, 1) := by decide +kernel
theorem dX12_tape_0 : decode cX12_tape 0 = .ok (.iload_n 1, 1) := by decide +kernel
theorem dX12_tape_1 : decode cX12_tape 1 = .ok (.invokestatic 231, 3) := by decide +kernel
theorem dX12_tape_4 : decode cX12_tape 4 = .ok (.ifCond .eq 18, 3) := by decide +kernel
theorem dX12_tape_7 : decode cX12_tape 7 = .ok (.iload_n 2, 1) := by decide +kernel
theorem dX12_tape_8 : decode cX12_tape 8 = .ok (.iconst 1, 1) := by decide +kernel
theorem dX12_tape_9 : decode cX12_tape 9 = .ok (.iconst 4, 1) := by decide +kernel
theorem dX12_tape_10 : decode cX12_tape 10 = .ok (.invokestatic 177, 3) := by decide +kernel
theorem dX12_tape_13 : decode cX12_tape 13 = .ok (.ifCond .eq 9, 3) := by decide +kernel
theorem dX12_tape_16 : decode cX12_tape 16 = .ok (.iload_n 3, 1) := by decide +kernel
theorem dX12_tape_17 : decode cX12_tape 17 = .ok (.bipush 100, 2) := by decide +kernel
theorem dX12_tape_19 : decode cX12_tape 19 = .ok (.if_icmp .le 5, 3) := by decide +kernel
theorem dX12_tape_22 : decode cX12_tape 22 = .ok (.iconst (-1), 1) := by decide +kernel
theorem dX12_tape_23 : decode cX12_tape 23 = .ok (.ireturn, 1) := by decide +kernel
theorem dX12_tape_24 : decode cX12_tape 24 = .ok (.iload_n 3, 1) := by decide +kernel
theorem dX12_tape_25 : decode cX12_tape 25 = .ok (.ifCond .ge 10, 3) := by decide +kernel
theorem dX12_tape_28 : decode cX12_tape 28 = .ok (.aload_n 0, 1) := by decide +kernel
theorem dX12_tape_29 : decode cX12_tape 29 = .ok (.bipush (-14), 2) := by decide +kernel
theorem dX12_tape_31 : decode cX12_tape 31 = .ok (.invokevirtual 228, 3) := by decide +kernel
theorem dX12_tape_34 : decode cX12_tape 34 = .ok (.ireturn, 1) := by decide +kernel
theorem dX12_tape_35 : decode cX12_tape 35 = .ok (.aload_n 0, 1) := by decide +kernel
theorem dX12_tape_36 : decode cX12_tape 36 = .ok (.getfield 91, 3) := by decide +kernel
theorem dX12_tape_39 : decode cX12_tape 39 = .ok (.iload_n 1, 1) := by decide +kernel
theorem dX12_tape_40 : decode cX12_tape 40 = .ok (.iload_n 2, 1) := by decide +kernel
theorem dX12_tape_41 : decode cX12_tape 41 = .ok (.iastore, 1) := by decide +kernel
theorem dX12_tape_42 : decode cX12_tape 42 = .ok (.aload_n 0, 1) := by decide +kernel
theorem dX12_tape_43 : decode cX12_tape 43 = .ok (.getfield 94, 3) := by decide +kernel
theorem dX12_tape_46 : decode cX12_tape 46 = .ok (.iload_n 1, 1) := by decide +kernel
theorem dX12_tape_47 : decode cX12_tape 47 = .ok (.iload_n 3, 1) := by decide +kernel
theorem dX12_tape_48 : decode cX12_tape 48 = .ok (.iastore, 1) := by decide +kernel
theorem dX12_tape_49 : decode cX12_tape 49 = .ok (.iconst 0, 1) := by decide +kernel
theorem dX12_tape_50 : decode cX12_tape 50 = .ok (.istore 4, 2) := by decide +kernel
theorem dX12_tape_52 : decode cX12_tape 52 = .ok (.iload 4, 2) := by decide +kernel
theorem dX12_tape_54 : decode cX12_tape 54 = .ok (.bipush 100, 2) := by decide +kernel
theorem dX12_tape_56 : decode cX12_tape 56 = .ok (.if_icmp .ge 22, 3) := by decide +kernel
theorem dX12_tape_59 : decode cX12_tape 59 = .ok (.aload_n 0, 1) := by decide +kernel
theorem dX12_tape_60 : decode cX12_tape 60 = .ok (.getfield 100, 3) := by decide +kernel
theorem dX12_tape_63 : decode cX12_tape 63 = .ok (.bipush 100, 2) := by decide +kernel
theorem dX12_tape_65 : decode cX12_tape 65 = .ok (.iload_n 1, 1) := by decide +kernel
theorem dX12_tape_66 : decode cX12_tape 66 = .ok (.imul, 1) := by decide +kernel
theorem dX12_tape_67 : decode cX12_tape 67 = .ok (.iload 4, 2) := by decide +kernel
theorem dX12_tape_69 : decode cX12_tape 69 = .ok (.iadd, 1) := by decide +kernel
theorem dX12_tape_70 : decode cX12_tape 70 = .ok (.lconst 0, 1) := by decide +kernel
theorem dX12_tape_71 : decode cX12_tape 71 = .ok (.lastore, 1) := by decide +kernel
theorem dX12_tape_72 : decode cX12_tape 72 = .ok (.iinc 4 1, 3) := by decide +kernel
theorem dX12_tape_75 : decode cX12_tape 75 = .ok (.goto (-23), 3) := by decide +kernel
theorem dX12_tape_78 : decode cX12_tape 78 = .ok (.iload_n 3, 1) := by decide +kernel
theorem dX12_tape_79 : decode cX12_tape 79 = .ok (.ireturn, 1) := by decide +kernel
theorem dX12_keep_0 : decode cX12_keep 0 = .ok (.iload_n 1, 1) := by decide +kernel
theorem dX12_keep_1 : decode cX12_keep 1 = .ok (.invokestatic 231, 3) := by decide +kernel
theorem dX12_keep_4 : decode cX12_keep 4 = .ok (.ifCond .ne 5, 3) := by decide +kernel
theorem dX12_keep_7 : decode cX12_keep 7 = .ok (.iconst (-1), 1) := by decide +kernel
theorem dX12_keep_8 : decode cX12_keep 8 = .ok (.ireturn, 1) := by decide +kernel
theorem dX12_keep_9 : decode cX12_keep 9 = .ok (.aload_n 0, 1) := by decide +kernel
theorem dX12_keep_10 : decode cX12_keep 10 = .ok (.getfield 91, 3) := by decide +kernel
theorem dX12_keep_13 : decode cX12_keep 13 = .ok (.iload_n 1, 1) := by decide +kernel
theorem dX12_keep_14 : decode cX12_keep 14 = .ok (.iconst 5, 1) := by decide +kernel
theorem dX12_keep_15 : decode cX12_keep 15 = .ok (.iastore, 1) := by decide +kernel
theorem dX12_keep_16 : decode cX12_keep 16 = .ok (.aload_n 0, 1) := by decide +kernel
theorem dX12_keep_17 : decode cX12_keep 17 = .ok (.getfield 94, 3) := by decide +kernel
theorem dX12_keep_20 : decode cX12_keep 20 = .ok (.iload_n 1, 1) := by decide +kernel
theorem dX12_keep_21 : decode cX12_keep 21 = .ok (.aload_n 0, 1) := by decide +kernel
theorem dX12_keep_22 : decode cX12_keep 22 = .ok (.getfield 159, 3) := by decide +kernel
theorem dX12_keep_25 : decode cX12_keep 25 = .ok (.iastore, 1) := by decide +kernel
theorem dX12_keep_26 : decode cX12_keep 26 = .ok (.iconst 0, 1) := by decide +kernel
theorem dX12_keep_27 : decode cX12_keep 27 = .ok (.istore_n 2, 1) := by decide +kernel
theorem dX12_keep_28 : decode cX12_keep 28 = .ok (.iload_n 2, 1) := by decide +kernel
theorem dX12_keep_29 : decode cX12_keep 29 = .ok (.aload_n 0, 1) := by decide +kernel
theorem dX12_keep_30 : decode cX12_keep 30 = .ok (.getfield 159, 3) := by decide +kernel
theorem dX12_keep_33 : decode cX12_keep 33 = .ok (.if_icmp .ge 72, 3) := by decide +kernel
theorem dX12_keep_36 : decode cX12_keep 36 = .ok (.iconst 4, 1) := by decide +kernel
theorem dX12_keep_37 : decode cX12_keep 37 = .ok (.bipush 120, 2) := by decide +kernel
theorem dX12_keep_39 : decode cX12_keep 39 = .ok (.iload_n 1, 1) := by decide +kernel
theorem dX12_keep_40 : decode cX12_keep 40 = .ok (.imul, 1) := by decide +kernel
theorem dX12_keep_41 : decode cX12_keep 41 = .ok (.iload_n 2, 1) := by decide +kernel
theorem dX12_keep_42 : decode cX12_keep 42 = .ok (.iadd, 1) := by decide +kernel
theorem dX12_keep_43 : decode cX12_keep 43 = .ok (.imul, 1) := by decide +kernel
theorem dX12_keep_44 : decode cX12_keep 44 = .ok (.istore_n 3, 1) := by decide +kernel
theorem dX12_keep_45 : decode cX12_keep 45 = .ok (.aload_n 0, 1) := by decide +kernel
theorem dX12_keep_46 : decode cX12_keep 46 = .ok (.getfield 97, 3) := by decide +kernel
theorem dX12_keep_49 : decode cX12_keep 49 = .ok (.iload_n 3, 1) := by decide +kernel
theorem dX12_keep_50 : decode cX12_keep 50 = .ok (.aload_n 0, 1) := by decide +kernel
theorem dX12_keep_51 : decode cX12_keep 51 = .ok (.getfield 46, 3) := by decide +kernel
theorem dX12_keep_54 : decode cX12_keep 54 = .ok (.iload_n 2, 1) := by decide +kernel
theorem dX12_keep_55 : decode cX12_keep 55 = .ok (.iaload, 1) := by decide +kernel
theorem dX12_keep_56 : decode cX12_keep 56 = .ok (.iastore, 1) := by decide +kernel
theorem dX12_keep_57 : decode cX12_keep 57 = .ok (.aload_n 0, 1) := by decide +kernel
theorem dX12_keep_58 : decode cX12_keep 58 = .ok (.getfield 97, 3) := by decide +kernel
theorem dX12_keep_61 : decode cX12_keep 61 = .ok (.iload_n 3, 1) := by decide +kernel
theorem dX12_keep_62 : decode cX12_keep 62 = .ok (.iconst 1, 1) := by decide +kernel
theorem dX12_keep_63 : decode cX12_keep 63 = .ok (.iadd, 1) := by decide +kernel
theorem dX12_keep_64 : decode cX12_keep 64 = .ok (.aload_n 0, 1) := by decide +kernel
theorem dX12_keep_65 : decode cX12_keep 65 = .ok (.getfield 49, 3) := by decide +kernel
theorem dX12_keep_68 : decode cX12_keep 68 = .ok (.iload_n 2, 1) := by decide +kernel
theorem dX12_keep_69 : decode cX12_keep 69 = .ok (.iaload, 1) := by decide +kernel
theorem dX12_keep_70 : decode cX12_keep 70 = .ok (.iastore, 1) := by decide +kernel
theorem dX12_keep_71 : decode cX12_keep 71 = .ok (.aload_n 0, 1) := by decide +kernel
theorem dX12_keep_72 : decode cX12_keep 72 = .ok (.getfield 97, 3) := by decide +kernel
theorem dX12_keep_75 : decode cX12_keep 75 = .ok (.iload_n 3, 1) := by decide +kernel
theorem dX12_keep_76 : decode cX12_keep 76 = .ok (.iconst 2, 1) := by decide +kernel
theorem dX12_keep_77 : decode cX12_keep 77 = .ok (.iadd, 1) := by decide +kernel
theorem dX12_keep_78 : decode cX12_keep 78 = .ok (.aload_n 0, 1) := by decide +kernel
theorem dX12_keep_79 : decode cX12_keep 79 = .ok (.getfield 52, 3) := by decide +kernel
theorem dX12_keep_82 : decode cX12_keep 82 = .ok (.iload_n 2, 1) := by decide +kernel
theorem dX12_keep_83 : decode cX12_keep 83 = .ok (.iaload, 1) := by decide +kernel
theorem dX12_keep_84 : decode cX12_keep 84 = .ok (.iastore, 1) := by decide +kernel
theorem dX12_keep_85 : decode cX12_keep 85 = .ok (.aload_n 0, 1) := by decide +kernel
theorem dX12_keep_86 : decode cX12_keep 86 = .ok (.getfield 97, 3) := by decide +kernel
theorem dX12_keep_89 : decode cX12_keep 89 = .ok (.iload_n 3, 1) := by decide +kernel
theorem dX12_keep_90 : decode cX12_keep 90 = .ok (.iconst 3, 1) := by decide +kernel
theorem dX12_keep_91 : decode cX12_keep 91 = .ok (.iadd, 1) := by decide +kernel
theorem dX12_keep_92 : decode cX12_keep 92 = .ok (.aload_n 0, 1) := by decide +kernel
theorem dX12_keep_93 : decode cX12_keep 93 = .ok (.getfield 55, 3) := by decide +kernel
theorem dX12_keep_96 : decode cX12_keep 96 = .ok (.iload_n 2, 1) := by decide +kernel
theorem dX12_keep_97 : decode cX12_keep 97 = .ok (.iaload, 1) := by decide +kernel
theorem dX12_keep_98 : decode cX12_keep 98 = .ok (.iastore, 1) := by decide +kernel
theorem dX12_keep_99 : decode cX12_keep 99 = .ok (.iinc 2 1, 3) := by decide +kernel
theorem dX12_keep_102 : decode cX12_keep 102 = .ok (.goto (-74), 3) := by decide +kernel
theorem dX12_keep_105 : decode cX12_keep 105 = .ok (.aload_n 0, 1) := by decide +kernel
theorem dX12_keep_106 : decode cX12_keep 106 = .ok (.getfield 159, 3) := by decide +kernel
theorem dX12_keep_109 : decode cX12_keep 109 = .ok (.ireturn, 1) := by decide +kernel
theorem dX12_wrongShow_0 : decode cX12_wrongShow 0 = .ok (.iload_n 1, 1) := by decide +kernel
theorem dX12_wrongShow_1 : decode cX12_wrongShow 1 = .ok (.invokestatic 231, 3) := by decide +kernel
theorem dX12_wrongShow_4 : decode cX12_wrongShow 4 = .ok (.ifCond .ne 7, 3) := by decide +kernel
theorem dX12_wrongShow_7 : decode cX12_wrongShow 7 = .ok (.iconst (-1), 1) := by decide +kernel
theorem dX12_wrongShow_8 : decode cX12_wrongShow 8 = .ok (.goto 41, 3) := by decide +kernel
theorem dX12_wrongShow_11 : decode cX12_wrongShow 11 = .ok (.aload_n 0, 1) := by decide +kernel
theorem dX12_wrongShow_12 : decode cX12_wrongShow 12 = .ok (.getfield 91, 3) := by decide +kernel
theorem dX12_wrongShow_15 : decode cX12_wrongShow 15 = .ok (.iload_n 1, 1) := by decide +kernel
theorem dX12_wrongShow_16 : decode cX12_wrongShow 16 = .ok (.iaload, 1) := by decide +kernel
theorem dX12_wrongShow_17 : decode cX12_wrongShow 17 = .ok (.ifCond .ne 12, 3) := by decide +kernel
theorem dX12_wrongShow_20 : decode cX12_wrongShow 20 = .ok (.aload_n 0, 1) := by decide +kernel
theorem dX12_wrongShow_21 : decode cX12_wrongShow 21 = .ok (.bipush (-11), 2) := by decide +kernel
theorem dX12_wrongShow_23 : decode cX12_wrongShow 23 = .ok (.invokevirtual 228, 3) := by decide +kernel
theorem dX12_wrongShow_26 : decode cX12_wrongShow 26 = .ok (.goto 23, 3) := by decide +kernel
theorem dX12_wrongShow_29 : decode cX12_wrongShow 29 = .ok (.aload_n 0, 1) := by decide +kernel
theorem dX12_wrongShow_30 : decode cX12_wrongShow 30 = .ok (.getfield 91, 3) := by decide +kernel
theorem dX12_wrongShow_33 : decode cX12_wrongShow 33 = .ok (.iload_n 1, 1) := by decide +kernel
theorem dX12_wrongShow_34 : decode cX12_wrongShow 34 = .ok (.iaload, 1) := by decide +kernel
theorem dX12_wrongShow_35 : decode cX12_wrongShow 35 = .ok (.iconst 5, 1) := by decide +kernel
theorem dX12_wrongShow_36 : decode cX12_wrongShow 36 = .ok (.if_icmp .eq 12, 3) := by decide +kernel
theorem dX12_wrongShow_39 : decode cX12_wrongShow 39 = .ok (.aload_n 0, 1) := by decide +kernel
theorem dX12_wrongShow_40 : decode cX12_wrongShow 40 = .ok (.bipush (-12), 2) := by decide +kernel
theorem dX12_wrongShow_42 : decode cX12_wrongShow 42 = .ok (.invokevirtual 228, 3) := by decide +kernel
theorem dX12_wrongShow_45 : decode cX12_wrongShow 45 = .ok (.goto 4, 3) := by decide +kernel
theorem dX12_wrongShow_48 : decode cX12_wrongShow 48 = .ok (.iconst 0, 1) := by decide +kernel
theorem dX12_wrongShow_49 : decode cX12_wrongShow 49 = .ok (.ireturn, 1) := by decide +kernel
theorem dX12_back_0 : decode cX12_back 0 = .ok (.aload_n 0, 1) := by decide +kernel
theorem dX12_back_1 : decode cX12_back 1 = .ok (.iconst 0, 1) := by decide +kernel
theorem dX12_back_2 : decode cX12_back 2 = .ok (.putfield 155, 3) := by decide +kernel
theorem dX12_back_5 : decode cX12_back 5 = .ok (.aload_n 0, 1) := by decide +kernel
theorem dX12_back_6 : decode cX12_back 6 = .ok (.iload_n 1, 1) := by decide +kernel
theorem dX12_back_7 : decode cX12_back 7 = .ok (.invokevirtual 308, 3) := by decide +kernel
theorem dX12_back_10 : decode cX12_back 10 = .ok (.istore_n 2, 1) := by decide +kernel
theorem dX12_back_11 : decode cX12_back 11 = .ok (.iload_n 2, 1) := by decide +kernel
theorem dX12_back_12 : decode cX12_back 12 = .ok (.ifCond .eq 5, 3) := by decide +kernel
theorem dX12_back_15 : decode cX12_back 15 = .ok (.iload_n 2, 1) := by decide +kernel
theorem dX12_back_16 : decode cX12_back 16 = .ok (.ireturn, 1) := by decide +kernel
theorem dX12_back_17 : decode cX12_back 17 = .ok (.sipush 480, 3) := by decide +kernel
theorem dX12_back_20 : decode cX12_back 20 = .ok (.iload_n 1, 1) := by decide +kernel
theorem dX12_back_21 : decode cX12_back 21 = .ok (.imul, 1) := by decide +kernel
theorem dX12_back_22 : decode cX12_back 22 = .ok (.istore_n 3, 1) := by decide +kernel
theorem dX12_back_23 : decode cX12_back 23 = .ok (.iconst 0, 1) := by decide +kernel
theorem dX12_back_24 : decode cX12_back 24 = .ok (.istore 4, 2) := by decide +kernel
theorem dX12_back_26 : decode cX12_back 26 = .ok (.iload 4, 2) := by decide +kernel
theorem dX12_back_28 : decode cX12_back 28 = .ok (.aload_n 0, 1) := by decide +kernel
theorem dX12_back_29 : decode cX12_back 29 = .ok (.getfield 94, 3) := by decide +kernel
theorem dX12_back_32 : decode cX12_back 32 = .ok (.iload_n 1, 1) := by decide +kernel
theorem dX12_back_33 : decode cX12_back 33 = .ok (.iaload, 1) := by decide +kernel
theorem dX12_back_34 : decode cX12_back 34 = .ok (.if_icmp .ge 68, 3) := by decide +kernel
theorem dX12_back_37 : decode cX12_back 37 = .ok (.aload_n 0, 1) := by decide +kernel
theorem dX12_back_38 : decode cX12_back 38 = .ok (.aload_n 0, 1) := by decide +kernel
theorem dX12_back_39 : decode cX12_back 39 = .ok (.getfield 97, 3) := by decide +kernel
theorem dX12_back_42 : decode cX12_back 42 = .ok (.iload_n 3, 1) := by decide +kernel
theorem dX12_back_43 : decode cX12_back 43 = .ok (.iconst 4, 1) := by decide +kernel
theorem dX12_back_44 : decode cX12_back 44 = .ok (.iload 4, 2) := by decide +kernel
theorem dX12_back_46 : decode cX12_back 46 = .ok (.imul, 1) := by decide +kernel
theorem dX12_back_47 : decode cX12_back 47 = .ok (.iadd, 1) := by decide +kernel
theorem dX12_back_48 : decode cX12_back 48 = .ok (.iconst 1, 1) := by decide +kernel
theorem dX12_back_49 : decode cX12_back 49 = .ok (.iadd, 1) := by decide +kernel
theorem dX12_back_50 : decode cX12_back 50 = .ok (.iaload, 1) := by decide +kernel
theorem dX12_back_51 : decode cX12_back 51 = .ok (.invokevirtual 190, 3) := by decide +kernel
theorem dX12_back_54 : decode cX12_back 54 = .ok (.ifCond .eq 39, 3) := by decide +kernel
theorem dX12_back_57 : decode cX12_back 57 = .ok (.aload_n 0, 1) := by decide +kernel
theorem dX12_back_58 : decode cX12_back 58 = .ok (.getfield 97, 3) := by decide +kernel
theorem dX12_back_61 : decode cX12_back 61 = .ok (.iload_n 3, 1) := by decide +kernel
theorem dX12_back_62 : decode cX12_back 62 = .ok (.iconst 4, 1) := by decide +kernel
theorem dX12_back_63 : decode cX12_back 63 = .ok (.iload 4, 2) := by decide +kernel
theorem dX12_back_65 : decode cX12_back 65 = .ok (.imul, 1) := by decide +kernel
theorem dX12_back_66 : decode cX12_back 66 = .ok (.iadd, 1) := by decide +kernel
theorem dX12_back_67 : decode cX12_back 67 = .ok (.iconst 2, 1) := by decide +kernel
theorem dX12_back_68 : decode cX12_back 68 = .ok (.iadd, 1) := by decide +kernel
theorem dX12_back_69 : decode cX12_back 69 = .ok (.iaload, 1) := by decide +kernel
theorem dX12_back_70 : decode cX12_back 70 = .ok (.ifCond .lt 26, 3) := by decide +kernel
theorem dX12_back_73 : decode cX12_back 73 = .ok (.aload_n 0, 1) := by decide +kernel
theorem dX12_back_74 : decode cX12_back 74 = .ok (.aload_n 0, 1) := by decide +kernel
theorem dX12_back_75 : decode cX12_back 75 = .ok (.getfield 97, 3) := by decide +kernel
theorem dX12_back_78 : decode cX12_back 78 = .ok (.iload_n 3, 1) := by decide +kernel
theorem dX12_back_79 : decode cX12_back 79 = .ok (.iconst 4, 1) := by decide +kernel
theorem dX12_back_80 : decode cX12_back 80 = .ok (.iload 4, 2) := by decide +kernel
theorem dX12_back_82 : decode cX12_back 82 = .ok (.imul, 1) := by decide +kernel
theorem dX12_back_83 : decode cX12_back 83 = .ok (.iadd, 1) := by decide +kernel
theorem dX12_back_84 : decode cX12_back 84 = .ok (.iconst 2, 1) := by decide +kernel
theorem dX12_back_85 : decode cX12_back 85 = .ok (.iadd, 1) := by decide +kernel
theorem dX12_back_86 : decode cX12_back 86 = .ok (.iaload, 1) := by decide +kernel
theorem dX12_back_87 : decode cX12_back 87 = .ok (.invokevirtual 186, 3) := by decide +kernel
theorem dX12_back_90 : decode cX12_back 90 = .ok (.ifCond .ne 6, 3) := by decide +kernel
theorem dX12_back_93 : decode cX12_back 93 = .ok (.bipush (-3), 2) := by decide +kernel
theorem dX12_back_95 : decode cX12_back 95 = .ok (.ireturn, 1) := by decide +kernel
theorem dX12_back_96 : decode cX12_back 96 = .ok (.iinc 4 1, 3) := by decide +kernel
theorem dX12_back_99 : decode cX12_back 99 = .ok (.goto (-73), 3) := by decide +kernel
theorem dX12_back_102 : decode cX12_back 102 = .ok (.iconst 0, 1) := by decide +kernel
theorem dX12_back_103 : decode cX12_back 103 = .ok (.istore 4, 2) := by decide +kernel
theorem dX12_back_105 : decode cX12_back 105 = .ok (.iload 4, 2) := by decide +kernel
theorem dX12_back_107 : decode cX12_back 107 = .ok (.aload_n 0, 1) := by decide +kernel
theorem dX12_back_108 : decode cX12_back 108 = .ok (.getfield 94, 3) := by decide +kernel
theorem dX12_back_111 : decode cX12_back 111 = .ok (.iload_n 1, 1) := by decide +kernel
theorem dX12_back_112 : decode cX12_back 112 = .ok (.iaload, 1) := by decide +kernel
theorem dX12_back_113 : decode cX12_back 113 = .ok (.if_icmp .ge 44, 3) := by decide +kernel
theorem dX12_back_116 : decode cX12_back 116 = .ok (.aload_n 0, 1) := by decide +kernel
theorem dX12_back_117 : decode cX12_back 117 = .ok (.getfield 97, 3) := by decide +kernel
theorem dX12_back_120 : decode cX12_back 120 = .ok (.iload_n 3, 1) := by decide +kernel
theorem dX12_back_121 : decode cX12_back 121 = .ok (.iconst 4, 1) := by decide +kernel
theorem dX12_back_122 : decode cX12_back 122 = .ok (.iload 4, 2) := by decide +kernel
theorem dX12_back_124 : decode cX12_back 124 = .ok (.imul, 1) := by decide +kernel
theorem dX12_back_125 : decode cX12_back 125 = .ok (.iadd, 1) := by decide +kernel
theorem dX12_back_126 : decode cX12_back 126 = .ok (.iaload, 1) := by decide +kernel
theorem dX12_back_127 : decode cX12_back 127 = .ok (.aload_n 0, 1) := by decide +kernel
theorem dX12_back_128 : decode cX12_back 128 = .ok (.getfield 13, 3) := by decide +kernel
theorem dX12_back_131 : decode cX12_back 131 = .ok (.aload_n 0, 1) := by decide +kernel
theorem dX12_back_132 : decode cX12_back 132 = .ok (.getfield 97, 3) := by decide +kernel
theorem dX12_back_135 : decode cX12_back 135 = .ok (.iload_n 3, 1) := by decide +kernel
theorem dX12_back_136 : decode cX12_back 136 = .ok (.iconst 4, 1) := by decide +kernel
theorem dX12_back_137 : decode cX12_back 137 = .ok (.iload 4, 2) := by decide +kernel
theorem dX12_back_139 : decode cX12_back 139 = .ok (.imul, 1) := by decide +kernel
theorem dX12_back_140 : decode cX12_back 140 = .ok (.iadd, 1) := by decide +kernel
theorem dX12_back_141 : decode cX12_back 141 = .ok (.iconst 1, 1) := by decide +kernel
theorem dX12_back_142 : decode cX12_back 142 = .ok (.iadd, 1) := by decide +kernel
theorem dX12_back_143 : decode cX12_back 143 = .ok (.iaload, 1) := by decide +kernel
theorem dX12_back_144 : decode cX12_back 144 = .ok (.iaload, 1) := by decide +kernel
theorem dX12_back_145 : decode cX12_back 145 = .ok (.if_icmp .ge 6, 3) := by decide +kernel
theorem dX12_back_148 : decode cX12_back 148 = .ok (.bipush (-5), 2) := by decide +kernel
theorem dX12_back_150 : decode cX12_back 150 = .ok (.ireturn, 1) := by decide +kernel
theorem dX12_back_151 : decode cX12_back 151 = .ok (.iinc 4 1, 3) := by decide +kernel
theorem dX12_back_154 : decode cX12_back 154 = .ok (.goto (-49), 3) := by decide +kernel
theorem dX12_back_157 : decode cX12_back 157 = .ok (.aload_n 0, 1) := by decide +kernel
theorem dX12_back_158 : decode cX12_back 158 = .ok (.aload_n 0, 1) := by decide +kernel
theorem dX12_back_159 : decode cX12_back 159 = .ok (.getfield 94, 3) := by decide +kernel
theorem dX12_back_162 : decode cX12_back 162 = .ok (.iload_n 1, 1) := by decide +kernel
theorem dX12_back_163 : decode cX12_back 163 = .ok (.iaload, 1) := by decide +kernel
theorem dX12_back_164 : decode cX12_back 164 = .ok (.invokevirtual 240, 3) := by decide +kernel
theorem dX12_back_167 : decode cX12_back 167 = .ok (.iconst 0, 1) := by decide +kernel
theorem dX12_back_168 : decode cX12_back 168 = .ok (.istore 4, 2) := by decide +kernel
theorem dX12_back_170 : decode cX12_back 170 = .ok (.iload 4, 2) := by decide +kernel
theorem dX12_back_172 : decode cX12_back 172 = .ok (.aload_n 0, 1) := by decide +kernel
theorem dX12_back_173 : decode cX12_back 173 = .ok (.getfield 159, 3) := by decide +kernel
theorem dX12_back_176 : decode cX12_back 176 = .ok (.if_icmp .ge 87, 3) := by decide +kernel
theorem dX12_back_179 : decode cX12_back 179 = .ok (.aload_n 0, 1) := by decide +kernel
theorem dX12_back_180 : decode cX12_back 180 = .ok (.getfield 46, 3) := by decide +kernel
theorem dX12_back_183 : decode cX12_back 183 = .ok (.iload 4, 2) := by decide +kernel
theorem dX12_back_185 : decode cX12_back 185 = .ok (.aload_n 0, 1) := by decide +kernel
theorem dX12_back_186 : decode cX12_back 186 = .ok (.getfield 97, 3) := by decide +kernel
theorem dX12_back_189 : decode cX12_back 189 = .ok (.iload_n 3, 1) := by decide +kernel
theorem dX12_back_190 : decode cX12_back 190 = .ok (.iconst 4, 1) := by decide +kernel
theorem dX12_back_191 : decode cX12_back 191 = .ok (.iload 4, 2) := by decide +kernel
theorem dX12_back_193 : decode cX12_back 193 = .ok (.imul, 1) := by decide +kernel
theorem dX12_back_194 : decode cX12_back 194 = .ok (.iadd, 1) := by decide +kernel
theorem dX12_back_195 : decode cX12_back 195 = .ok (.iaload, 1) := by decide +kernel
theorem dX12_back_196 : decode cX12_back 196 = .ok (.iastore, 1) := by decide +kernel
theorem dX12_back_197 : decode cX12_back 197 = .ok (.aload_n 0, 1) := by decide +kernel
theorem dX12_back_198 : decode cX12_back 198 = .ok (.getfield 49, 3) := by decide +kernel
theorem dX12_back_201 : decode cX12_back 201 = .ok (.iload 4, 2) := by decide +kernel
theorem dX12_back_203 : decode cX12_back 203 = .ok (.aload_n 0, 1) := by decide +kernel
theorem dX12_back_204 : decode cX12_back 204 = .ok (.getfield 97, 3) := by decide +kernel
theorem dX12_back_207 : decode cX12_back 207 = .ok (.iload_n 3, 1) := by decide +kernel
theorem dX12_back_208 : decode cX12_back 208 = .ok (.iconst 4, 1) := by decide +kernel
theorem dX12_back_209 : decode cX12_back 209 = .ok (.iload 4, 2) := by decide +kernel
theorem dX12_back_211 : decode cX12_back 211 = .ok (.imul, 1) := by decide +kernel
theorem dX12_back_212 : decode cX12_back 212 = .ok (.iadd, 1) := by decide +kernel
theorem dX12_back_213 : decode cX12_back 213 = .ok (.iconst 1, 1) := by decide +kernel
theorem dX12_back_214 : decode cX12_back 214 = .ok (.iadd, 1) := by decide +kernel
theorem dX12_back_215 : decode cX12_back 215 = .ok (.iaload, 1) := by decide +kernel
theorem dX12_back_216 : decode cX12_back 216 = .ok (.iastore, 1) := by decide +kernel
theorem dX12_back_217 : decode cX12_back 217 = .ok (.aload_n 0, 1) := by decide +kernel
theorem dX12_back_218 : decode cX12_back 218 = .ok (.getfield 52, 3) := by decide +kernel
theorem dX12_back_221 : decode cX12_back 221 = .ok (.iload 4, 2) := by decide +kernel
theorem dX12_back_223 : decode cX12_back 223 = .ok (.aload_n 0, 1) := by decide +kernel
theorem dX12_back_224 : decode cX12_back 224 = .ok (.getfield 97, 3) := by decide +kernel
theorem dX12_back_227 : decode cX12_back 227 = .ok (.iload_n 3, 1) := by decide +kernel
theorem dX12_back_228 : decode cX12_back 228 = .ok (.iconst 4, 1) := by decide +kernel
theorem dX12_back_229 : decode cX12_back 229 = .ok (.iload 4, 2) := by decide +kernel
theorem dX12_back_231 : decode cX12_back 231 = .ok (.imul, 1) := by decide +kernel
theorem dX12_back_232 : decode cX12_back 232 = .ok (.iadd, 1) := by decide +kernel
theorem dX12_back_233 : decode cX12_back 233 = .ok (.iconst 2, 1) := by decide +kernel
theorem dX12_back_234 : decode cX12_back 234 = .ok (.iadd, 1) := by decide +kernel
theorem dX12_back_235 : decode cX12_back 235 = .ok (.iaload, 1) := by decide +kernel
theorem dX12_back_236 : decode cX12_back 236 = .ok (.iastore, 1) := by decide +kernel
theorem dX12_back_237 : decode cX12_back 237 = .ok (.aload_n 0, 1) := by decide +kernel
theorem dX12_back_238 : decode cX12_back 238 = .ok (.getfield 55, 3) := by decide +kernel
theorem dX12_back_241 : decode cX12_back 241 = .ok (.iload 4, 2) := by decide +kernel
theorem dX12_back_243 : decode cX12_back 243 = .ok (.aload_n 0, 1) := by decide +kernel
theorem dX12_back_244 : decode cX12_back 244 = .ok (.getfield 97, 3) := by decide +kernel
theorem dX12_back_247 : decode cX12_back 247 = .ok (.iload_n 3, 1) := by decide +kernel
theorem dX12_back_248 : decode cX12_back 248 = .ok (.iconst 4, 1) := by decide +kernel
theorem dX12_back_249 : decode cX12_back 249 = .ok (.iload 4, 2) := by decide +kernel
theorem dX12_back_251 : decode cX12_back 251 = .ok (.imul, 1) := by decide +kernel
theorem dX12_back_252 : decode cX12_back 252 = .ok (.iadd, 1) := by decide +kernel
theorem dX12_back_253 : decode cX12_back 253 = .ok (.iconst 3, 1) := by decide +kernel
theorem dX12_back_254 : decode cX12_back 254 = .ok (.iadd, 1) := by decide +kernel
theorem dX12_back_255 : decode cX12_back 255 = .ok (.iaload, 1) := by decide +kernel
theorem dX12_back_256 : decode cX12_back 256 = .ok (.iastore, 1) := by decide +kernel
theorem dX12_back_257 : decode cX12_back 257 = .ok (.iinc 4 1, 3) := by decide +kernel
theorem dX12_back_260 : decode cX12_back 260 = .ok (.goto (-90), 3) := by decide +kernel
theorem dX12_back_263 : decode cX12_back 263 = .ok (.aload_n 0, 1) := by decide +kernel
theorem dX12_back_264 : decode cX12_back 264 = .ok (.getfield 159, 3) := by decide +kernel
theorem dX12_back_267 : decode cX12_back 267 = .ok (.ireturn, 1) := by decide +kernel
theorem dX12_toss_0 : decode cX12_toss 0 = .ok (.aload_n 0, 1) := by decide +kernel
theorem dX12_toss_1 : decode cX12_toss 1 = .ok (.iload_n 1, 1) := by decide +kernel
theorem dX12_toss_2 : decode cX12_toss 2 = .ok (.invokevirtual 308, 3) := by decide +kernel
theorem dX12_toss_5 : decode cX12_toss 5 = .ok (.istore_n 2, 1) := by decide +kernel
theorem dX12_toss_6 : decode cX12_toss 6 = .ok (.iload_n 2, 1) := by decide +kernel
theorem dX12_toss_7 : decode cX12_toss 7 = .ok (.ifCond .eq 5, 3) := by decide +kernel
theorem dX12_toss_10 : decode cX12_toss 10 = .ok (.iload_n 2, 1) := by decide +kernel
theorem dX12_toss_11 : decode cX12_toss 11 = .ok (.ireturn, 1) := by decide +kernel
theorem dX12_toss_12 : decode cX12_toss 12 = .ok (.iconst 0, 1) := by decide +kernel
theorem dX12_toss_13 : decode cX12_toss 13 = .ok (.istore_n 3, 1) := by decide +kernel
theorem dX12_toss_14 : decode cX12_toss 14 = .ok (.iconst 0, 1) := by decide +kernel
theorem dX12_toss_15 : decode cX12_toss 15 = .ok (.istore 4, 2) := by decide +kernel
theorem dX12_toss_17 : decode cX12_toss 17 = .ok (.iload 4, 2) := by decide +kernel
theorem dX12_toss_19 : decode cX12_toss 19 = .ok (.aload_n 0, 1) := by decide +kernel
theorem dX12_toss_20 : decode cX12_toss 20 = .ok (.getfield 94, 3) := by decide +kernel
theorem dX12_toss_23 : decode cX12_toss 23 = .ok (.iload_n 1, 1) := by decide +kernel
theorem dX12_toss_24 : decode cX12_toss 24 = .ok (.iaload, 1) := by decide +kernel
theorem dX12_toss_25 : decode cX12_toss 25 = .ok (.if_icmp .ge 36, 3) := by decide +kernel
theorem dX12_toss_28 : decode cX12_toss 28 = .ok (.iload_n 3, 1) := by decide +kernel
theorem dX12_toss_29 : decode cX12_toss 29 = .ok (.aload_n 0, 1) := by decide +kernel
theorem dX12_toss_30 : decode cX12_toss 30 = .ok (.getfield 97, 3) := by decide +kernel
theorem dX12_toss_33 : decode cX12_toss 33 = .ok (.iconst 4, 1) := by decide +kernel
theorem dX12_toss_34 : decode cX12_toss 34 = .ok (.bipush 120, 2) := by decide +kernel
theorem dX12_toss_36 : decode cX12_toss 36 = .ok (.iload_n 1, 1) := by decide +kernel
theorem dX12_toss_37 : decode cX12_toss 37 = .ok (.imul, 1) := by decide +kernel
theorem dX12_toss_38 : decode cX12_toss 38 = .ok (.iload 4, 2) := by decide +kernel
theorem dX12_toss_40 : decode cX12_toss 40 = .ok (.iadd, 1) := by decide +kernel
theorem dX12_toss_41 : decode cX12_toss 41 = .ok (.imul, 1) := by decide +kernel
theorem dX12_toss_42 : decode cX12_toss 42 = .ok (.iconst 2, 1) := by decide +kernel
theorem dX12_toss_43 : decode cX12_toss 43 = .ok (.iadd, 1) := by decide +kernel
theorem dX12_toss_44 : decode cX12_toss 44 = .ok (.iaload, 1) := by decide +kernel
theorem dX12_toss_45 : decode cX12_toss 45 = .ok (.ifCond .ge 7, 3) := by decide +kernel
theorem dX12_toss_48 : decode cX12_toss 48 = .ok (.iconst 1, 1) := by decide +kernel
theorem dX12_toss_49 : decode cX12_toss 49 = .ok (.goto 4, 3) := by decide +kernel
theorem dX12_toss_52 : decode cX12_toss 52 = .ok (.iconst 0, 1) := by decide +kernel
theorem dX12_toss_53 : decode cX12_toss 53 = .ok (.iadd, 1) := by decide +kernel
theorem dX12_toss_54 : decode cX12_toss 54 = .ok (.istore_n 3, 1) := by decide +kernel
theorem dX12_toss_55 : decode cX12_toss 55 = .ok (.iinc 4 1, 3) := by decide +kernel
theorem dX12_toss_58 : decode cX12_toss 58 = .ok (.goto (-41), 3) := by decide +kernel
theorem dX12_toss_61 : decode cX12_toss 61 = .ok (.iload_n 3, 1) := by decide +kernel
theorem dX12_toss_62 : decode cX12_toss 62 = .ok (.ifCond .ne 12, 3) := by decide +kernel
theorem dX12_toss_65 : decode cX12_toss 65 = .ok (.aload_n 0, 1) := by decide +kernel
theorem dX12_toss_66 : decode cX12_toss 66 = .ok (.bipush (-15), 2) := by decide +kernel
theorem dX12_toss_68 : decode cX12_toss 68 = .ok (.invokevirtual 228, 3) := by decide +kernel
theorem dX12_toss_71 : decode cX12_toss 71 = .ok (.goto 4, 3) := by decide +kernel
theorem dX12_toss_74 : decode cX12_toss 74 = .ok (.iload_n 3, 1) := by decide +kernel
theorem dX12_toss_75 : decode cX12_toss 75 = .ok (.ireturn, 1) := by decide +kernel
theorem dX12_clear_0 : decode cX12_clear 0 = .ok (.iload_n 1, 1) := by decide +kernel
theorem dX12_clear_1 : decode cX12_clear 1 = .ok (.invokestatic 231, 3) := by decide +kernel
theorem dX12_clear_4 : decode cX12_clear 4 = .ok (.ifCond .ne 5, 3) := by decide +kernel
theorem dX12_clear_7 : decode cX12_clear 7 = .ok (.iconst (-1), 1) := by decide +kernel
theorem dX12_clear_8 : decode cX12_clear 8 = .ok (.ireturn, 1) := by decide +kernel
theorem dX12_clear_9 : decode cX12_clear 9 = .ok (.aload_n 0, 1) := by decide +kernel
theorem dX12_clear_10 : decode cX12_clear 10 = .ok (.getfield 91, 3) := by decide +kernel
theorem dX12_clear_13 : decode cX12_clear 13 = .ok (.iload_n 1, 1) := by decide +kernel
theorem dX12_clear_14 : decode cX12_clear 14 = .ok (.iaload, 1) := by decide +kernel
theorem dX12_clear_15 : decode cX12_clear 15 = .ok (.istore_n 2, 1) := by decide +kernel
theorem dX12_clear_16 : decode cX12_clear 16 = .ok (.aload_n 0, 1) := by decide +kernel
theorem dX12_clear_17 : decode cX12_clear 17 = .ok (.getfield 91, 3) := by decide +kernel
theorem dX12_clear_20 : decode cX12_clear 20 = .ok (.iload_n 1, 1) := by decide +kernel
theorem dX12_clear_21 : decode cX12_clear 21 = .ok (.iconst 0, 1) := by decide +kernel
theorem dX12_clear_22 : decode cX12_clear 22 = .ok (.iastore, 1) := by decide +kernel
theorem dX12_clear_23 : decode cX12_clear 23 = .ok (.aload_n 0, 1) := by decide +kernel
theorem dX12_clear_24 : decode cX12_clear 24 = .ok (.getfield 94, 3) := by decide +kernel
theorem dX12_clear_27 : decode cX12_clear 27 = .ok (.iload_n 1, 1) := by decide +kernel
theorem dX12_clear_28 : decode cX12_clear 28 = .ok (.iconst 0, 1) := by decide +kernel
theorem dX12_clear_29 : decode cX12_clear 29 = .ok (.iastore, 1) := by decide +kernel
theorem dX12_clear_30 : decode cX12_clear 30 = .ok (.iload_n 2, 1) := by decide +kernel
theorem dX12_clear_31 : decode cX12_clear 31 = .ok (.ireturn, 1) := by decide +kernel
theorem dX12_narrow_0 : decode cX12_narrow 0 = .ok (.iload_n 0, 1) := by decide +kernel
theorem dX12_narrow_1 : decode cX12_narrow 1 = .ok (.iconst 1, 1) := by decide +kernel
theorem dX12_narrow_2 : decode cX12_narrow 2 = .ok (.if_icmp .ne 10, 3) := by decide +kernel
theorem dX12_narrow_5 : decode cX12_narrow 5 = .ok (.lload_n 1, 1) := by decide +kernel
theorem dX12_narrow_6 : decode cX12_narrow 6 = .ok (.l2i, 1) := by decide +kernel
theorem dX12_narrow_7 : decode cX12_narrow 7 = .ok (.i2b, 1) := by decide +kernel
theorem dX12_narrow_8 : decode cX12_narrow 8 = .ok (.i2l, 1) := by decide +kernel
theorem dX12_narrow_9 : decode cX12_narrow 9 = .ok (.goto 27, 3) := by decide +kernel
theorem dX12_narrow_12 : decode cX12_narrow 12 = .ok (.iload_n 0, 1) := by decide +kernel
theorem dX12_narrow_13 : decode cX12_narrow 13 = .ok (.iconst 2, 1) := by decide +kernel
theorem dX12_narrow_14 : decode cX12_narrow 14 = .ok (.if_icmp .ne 10, 3) := by decide +kernel
theorem dX12_narrow_17 : decode cX12_narrow 17 = .ok (.lload_n 1, 1) := by decide +kernel
theorem dX12_narrow_18 : decode cX12_narrow 18 = .ok (.l2i, 1) := by decide +kernel
theorem dX12_narrow_19 : decode cX12_narrow 19 = .ok (.i2s, 1) := by decide +kernel
theorem dX12_narrow_20 : decode cX12_narrow 20 = .ok (.i2l, 1) := by decide +kernel
theorem dX12_narrow_21 : decode cX12_narrow 21 = .ok (.goto 15, 3) := by decide +kernel
theorem dX12_narrow_24 : decode cX12_narrow 24 = .ok (.iload_n 0, 1) := by decide +kernel
theorem dX12_narrow_25 : decode cX12_narrow 25 = .ok (.iconst 3, 1) := by decide +kernel
theorem dX12_narrow_26 : decode cX12_narrow 26 = .ok (.if_icmp .ne 9, 3) := by decide +kernel
theorem dX12_narrow_29 : decode cX12_narrow 29 = .ok (.lload_n 1, 1) := by decide +kernel
theorem dX12_narrow_30 : decode cX12_narrow 30 = .ok (.l2i, 1) := by decide +kernel
theorem dX12_narrow_31 : decode cX12_narrow 31 = .ok (.i2l, 1) := by decide +kernel
theorem dX12_narrow_32 : decode cX12_narrow 32 = .ok (.goto 4, 3) := by decide +kernel
theorem dX12_narrow_35 : decode cX12_narrow 35 = .ok (.lload_n 1, 1) := by decide +kernel
theorem dX12_narrow_36 : decode cX12_narrow 36 = .ok (.lreturn, 1) := by decide +kernel
theorem dX12_put_0 : decode cX12_put 0 = .ok (.iload_n 1, 1) := by decide +kernel
theorem dX12_put_1 : decode cX12_put 1 = .ok (.invokestatic 231, 3) := by decide +kernel
theorem dX12_put_4 : decode cX12_put 4 = .ok (.ifCond .ne 5, 3) := by decide +kernel
theorem dX12_put_7 : decode cX12_put 7 = .ok (.iconst (-1), 1) := by decide +kernel
theorem dX12_put_8 : decode cX12_put 8 = .ok (.ireturn, 1) := by decide +kernel
theorem dX12_put_9 : decode cX12_put 9 = .ok (.aload_n 0, 1) := by decide +kernel
theorem dX12_put_10 : decode cX12_put 10 = .ok (.getfield 91, 3) := by decide +kernel
theorem dX12_put_13 : decode cX12_put 13 = .ok (.iload_n 1, 1) := by decide +kernel
theorem dX12_put_14 : decode cX12_put 14 = .ok (.iaload, 1) := by decide +kernel
theorem dX12_put_15 : decode cX12_put 15 = .ok (.ifCond .ne 10, 3) := by decide +kernel
theorem dX12_put_18 : decode cX12_put 18 = .ok (.aload_n 0, 1) := by decide +kernel
theorem dX12_put_19 : decode cX12_put 19 = .ok (.bipush (-11), 2) := by decide +kernel
theorem dX12_put_21 : decode cX12_put 21 = .ok (.invokevirtual 228, 3) := by decide +kernel
theorem dX12_put_24 : decode cX12_put 24 = .ok (.ireturn, 1) := by decide +kernel
theorem dX12_put_25 : decode cX12_put 25 = .ok (.aload_n 0, 1) := by decide +kernel
theorem dX12_put_26 : decode cX12_put 26 = .ok (.getfield 91, 3) := by decide +kernel
theorem dX12_put_29 : decode cX12_put 29 = .ok (.iload_n 1, 1) := by decide +kernel
theorem dX12_put_30 : decode cX12_put 30 = .ok (.iaload, 1) := by decide +kernel
theorem dX12_put_31 : decode cX12_put 31 = .ok (.iconst 5, 1) := by decide +kernel
theorem dX12_put_32 : decode cX12_put 32 = .ok (.if_icmp .ne 10, 3) := by decide +kernel
theorem dX12_put_35 : decode cX12_put 35 = .ok (.aload_n 0, 1) := by decide +kernel
theorem dX12_put_36 : decode cX12_put 36 = .ok (.bipush (-12), 2) := by decide +kernel
theorem dX12_put_38 : decode cX12_put 38 = .ok (.invokevirtual 228, 3) := by decide +kernel
theorem dX12_put_41 : decode cX12_put 41 = .ok (.ireturn, 1) := by decide +kernel
theorem dX12_put_42 : decode cX12_put 42 = .ok (.iload_n 2, 1) := by decide +kernel
theorem dX12_put_43 : decode cX12_put 43 = .ok (.iconst 0, 1) := by decide +kernel
theorem dX12_put_44 : decode cX12_put 44 = .ok (.aload_n 0, 1) := by decide +kernel
theorem dX12_put_45 : decode cX12_put 45 = .ok (.getfield 94, 3) := by decide +kernel
theorem dX12_put_48 : decode cX12_put 48 = .ok (.iload_n 1, 1) := by decide +kernel
theorem dX12_put_49 : decode cX12_put 49 = .ok (.iaload, 1) := by decide +kernel
theorem dX12_put_50 : decode cX12_put 50 = .ok (.iconst 1, 1) := by decide +kernel
theorem dX12_put_51 : decode cX12_put 51 = .ok (.isub, 1) := by decide +kernel
theorem dX12_put_52 : decode cX12_put 52 = .ok (.invokestatic 177, 3) := by decide +kernel
theorem dX12_put_55 : decode cX12_put 55 = .ok (.ifCond .ne 10, 3) := by decide +kernel
theorem dX12_put_58 : decode cX12_put 58 = .ok (.aload_n 0, 1) := by decide +kernel
theorem dX12_put_59 : decode cX12_put 59 = .ok (.bipush (-13), 2) := by decide +kernel
theorem dX12_put_61 : decode cX12_put 61 = .ok (.invokevirtual 228, 3) := by decide +kernel
theorem dX12_put_64 : decode cX12_put 64 = .ok (.ireturn, 1) := by decide +kernel
theorem dX12_put_65 : decode cX12_put 65 = .ok (.aload_n 0, 1) := by decide +kernel
theorem dX12_put_66 : decode cX12_put 66 = .ok (.getfield 100, 3) := by decide +kernel
theorem dX12_put_69 : decode cX12_put 69 = .ok (.bipush 100, 2) := by decide +kernel
theorem dX12_put_71 : decode cX12_put 71 = .ok (.iload_n 1, 1) := by decide +kernel
theorem dX12_put_72 : decode cX12_put 72 = .ok (.imul, 1) := by decide +kernel
theorem dX12_put_73 : decode cX12_put 73 = .ok (.iload_n 2, 1) := by decide +kernel
theorem dX12_put_74 : decode cX12_put 74 = .ok (.iadd, 1) := by decide +kernel
theorem dX12_put_75 : decode cX12_put 75 = .ok (.aload_n 0, 1) := by decide +kernel
theorem dX12_put_76 : decode cX12_put 76 = .ok (.getfield 91, 3) := by decide +kernel
theorem dX12_put_79 : decode cX12_put 79 = .ok (.iload_n 1, 1) := by decide +kernel
theorem dX12_put_80 : decode cX12_put 80 = .ok (.iaload, 1) := by decide +kernel
theorem dX12_put_81 : decode cX12_put 81 = .ok (.lload_n 3, 1) := by decide +kernel
theorem dX12_put_82 : decode cX12_put 82 = .ok (.invokestatic 311, 3) := by decide +kernel
theorem dX12_put_85 : decode cX12_put 85 = .ok (.lastore, 1) := by decide +kernel
theorem dX12_put_86 : decode cX12_put 86 = .ok (.iconst 1, 1) := by decide +kernel
theorem dX12_put_87 : decode cX12_put 87 = .ok (.ireturn, 1) := by decide +kernel
theorem dX12_at_0 : decode cX12_at 0 = .ok (.aload_n 0, 1) := by decide +kernel
theorem dX12_at_1 : decode cX12_at 1 = .ok (.iconst 0, 1) := by decide +kernel
theorem dX12_at_2 : decode cX12_at 2 = .ok (.putfield 148, 3) := by decide +kernel
theorem dX12_at_5 : decode cX12_at 5 = .ok (.iload_n 1, 1) := by decide +kernel
theorem dX12_at_6 : decode cX12_at 6 = .ok (.invokestatic 231, 3) := by decide +kernel
theorem dX12_at_9 : decode cX12_at 9 = .ok (.ifCond .ne 11, 3) := by decide +kernel
theorem dX12_at_12 : decode cX12_at 12 = .ok (.aload_n 0, 1) := by decide +kernel
theorem dX12_at_13 : decode cX12_at 13 = .ok (.iconst 1, 1) := by decide +kernel
theorem dX12_at_14 : decode cX12_at 14 = .ok (.putfield 148, 3) := by decide +kernel
theorem dX12_at_17 : decode cX12_at 17 = .ok (.goto 43, 3) := by decide +kernel
theorem dX12_at_20 : decode cX12_at 20 = .ok (.aload_n 0, 1) := by decide +kernel
theorem dX12_at_21 : decode cX12_at 21 = .ok (.getfield 91, 3) := by decide +kernel
theorem dX12_at_24 : decode cX12_at 24 = .ok (.iload_n 1, 1) := by decide +kernel
theorem dX12_at_25 : decode cX12_at 25 = .ok (.iaload, 1) := by decide +kernel
theorem dX12_at_26 : decode cX12_at 26 = .ok (.ifCond .eq 29, 3) := by decide +kernel
theorem dX12_at_29 : decode cX12_at 29 = .ok (.aload_n 0, 1) := by decide +kernel
theorem dX12_at_30 : decode cX12_at 30 = .ok (.getfield 91, 3) := by decide +kernel
theorem dX12_at_33 : decode cX12_at 33 = .ok (.iload_n 1, 1) := by decide +kernel
theorem dX12_at_34 : decode cX12_at 34 = .ok (.iaload, 1) := by decide +kernel
theorem dX12_at_35 : decode cX12_at 35 = .ok (.iconst 5, 1) := by decide +kernel
theorem dX12_at_36 : decode cX12_at 36 = .ok (.if_icmp .eq 19, 3) := by decide +kernel
theorem dX12_at_39 : decode cX12_at 39 = .ok (.iload_n 2, 1) := by decide +kernel
theorem dX12_at_40 : decode cX12_at 40 = .ok (.iconst 0, 1) := by decide +kernel
theorem dX12_at_41 : decode cX12_at 41 = .ok (.aload_n 0, 1) := by decide +kernel
theorem dX12_at_42 : decode cX12_at 42 = .ok (.getfield 94, 3) := by decide +kernel
theorem dX12_at_45 : decode cX12_at 45 = .ok (.iload_n 1, 1) := by decide +kernel
theorem dX12_at_46 : decode cX12_at 46 = .ok (.iaload, 1) := by decide +kernel
theorem dX12_at_47 : decode cX12_at 47 = .ok (.iconst 1, 1) := by decide +kernel
theorem dX12_at_48 : decode cX12_at 48 = .ok (.isub, 1) := by decide +kernel
theorem dX12_at_49 : decode cX12_at 49 = .ok (.invokestatic 177, 3) := by decide +kernel
theorem dX12_at_52 : decode cX12_at 52 = .ok (.ifCond .ne 8, 3) := by decide +kernel
theorem dX12_at_55 : decode cX12_at 55 = .ok (.aload_n 0, 1) := by decide +kernel
theorem dX12_at_56 : decode cX12_at 56 = .ok (.iconst 2, 1) := by decide +kernel
theorem dX12_at_57 : decode cX12_at 57 = .ok (.putfield 148, 3) := by decide +kernel
theorem dX12_at_60 : decode cX12_at 60 = .ok (.aload_n 0, 1) := by decide +kernel
theorem dX12_at_61 : decode cX12_at 61 = .ok (.getfield 148, 3) := by decide +kernel
theorem dX12_at_64 : decode cX12_at 64 = .ok (.ifCond .ne 17, 3) := by decide +kernel
theorem dX12_at_67 : decode cX12_at 67 = .ok (.aload_n 0, 1) := by decide +kernel
theorem dX12_at_68 : decode cX12_at 68 = .ok (.getfield 100, 3) := by decide +kernel
theorem dX12_at_71 : decode cX12_at 71 = .ok (.bipush 100, 2) := by decide +kernel
theorem dX12_at_73 : decode cX12_at 73 = .ok (.iload_n 1, 1) := by decide +kernel
theorem dX12_at_74 : decode cX12_at 74 = .ok (.imul, 1) := by decide +kernel
theorem dX12_at_75 : decode cX12_at 75 = .ok (.iload_n 2, 1) := by decide +kernel
theorem dX12_at_76 : decode cX12_at 76 = .ok (.iadd, 1) := by decide +kernel
theorem dX12_at_77 : decode cX12_at 77 = .ok (.laload, 1) := by decide +kernel
theorem dX12_at_78 : decode cX12_at 78 = .ok (.goto 4, 3) := by decide +kernel
theorem dX12_at_81 : decode cX12_at 81 = .ok (.lconst 0, 1) := by decide +kernel
theorem dX12_at_82 : decode cX12_at 82 = .ok (.lreturn, 1) := by decide +kernel
theorem dX12_copy_0 : decode cX12_copy 0 = .ok (.iload_n 1, 1) := by decide +kernel
theorem dX12_copy_1 : decode cX12_copy 1 = .ok (.invokestatic 231, 3) := by decide +kernel
theorem dX12_copy_4 : decode cX12_copy 4 = .ok (.ifCond .eq 10, 3) := by decide +kernel
theorem dX12_copy_7 : decode cX12_copy 7 = .ok (.iload_n 3, 1) := by decide +kernel
theorem dX12_copy_8 : decode cX12_copy 8 = .ok (.invokestatic 231, 3) := by decide +kernel
theorem dX12_copy_11 : decode cX12_copy 11 = .ok (.ifCond .ne 5, 3) := by decide +kernel
theorem dX12_copy_14 : decode cX12_copy 14 = .ok (.iconst (-1), 1) := by decide +kernel
theorem dX12_copy_15 : decode cX12_copy 15 = .ok (.ireturn, 1) := by decide +kernel
theorem dX12_copy_16 : decode cX12_copy 16 = .ok (.aload_n 0, 1) := by decide +kernel
theorem dX12_copy_17 : decode cX12_copy 17 = .ok (.getfield 91, 3) := by decide +kernel
theorem dX12_copy_20 : decode cX12_copy 20 = .ok (.iload_n 1, 1) := by decide +kernel
theorem dX12_copy_21 : decode cX12_copy 21 = .ok (.iaload, 1) := by decide +kernel
theorem dX12_copy_22 : decode cX12_copy 22 = .ok (.ifCond .eq 12, 3) := by decide +kernel
theorem dX12_copy_25 : decode cX12_copy 25 = .ok (.aload_n 0, 1) := by decide +kernel
theorem dX12_copy_26 : decode cX12_copy 26 = .ok (.getfield 91, 3) := by decide +kernel
theorem dX12_copy_29 : decode cX12_copy 29 = .ok (.iload_n 3, 1) := by decide +kernel
theorem dX12_copy_30 : decode cX12_copy 30 = .ok (.iaload, 1) := by decide +kernel
theorem dX12_copy_31 : decode cX12_copy 31 = .ok (.ifCond .ne 10, 3) := by decide +kernel
theorem dX12_copy_34 : decode cX12_copy 34 = .ok (.aload_n 0, 1) := by decide +kernel
theorem dX12_copy_35 : decode cX12_copy 35 = .ok (.bipush (-11), 2) := by decide +kernel
theorem dX12_copy_37 : decode cX12_copy 37 = .ok (.invokevirtual 228, 3) := by decide +kernel
theorem dX12_copy_40 : decode cX12_copy 40 = .ok (.ireturn, 1) := by decide +kernel
theorem dX12_copy_41 : decode cX12_copy 41 = .ok (.aload_n 0, 1) := by decide +kernel
theorem dX12_copy_42 : decode cX12_copy 42 = .ok (.getfield 91, 3) := by decide +kernel
theorem dX12_copy_45 : decode cX12_copy 45 = .ok (.iload_n 1, 1) := by decide +kernel
theorem dX12_copy_46 : decode cX12_copy 46 = .ok (.iaload, 1) := by decide +kernel
theorem dX12_copy_47 : decode cX12_copy 47 = .ok (.iconst 5, 1) := by decide +kernel
theorem dX12_copy_48 : decode cX12_copy 48 = .ok (.if_icmp .eq 18, 3) := by decide +kernel
theorem dX12_copy_51 : decode cX12_copy 51 = .ok (.aload_n 0, 1) := by decide +kernel
theorem dX12_copy_52 : decode cX12_copy 52 = .ok (.getfield 91, 3) := by decide +kernel
theorem dX12_copy_55 : decode cX12_copy 55 = .ok (.iload_n 1, 1) := by decide +kernel
theorem dX12_copy_56 : decode cX12_copy 56 = .ok (.iaload, 1) := by decide +kernel
theorem dX12_copy_57 : decode cX12_copy 57 = .ok (.aload_n 0, 1) := by decide +kernel
theorem dX12_copy_58 : decode cX12_copy 58 = .ok (.getfield 91, 3) := by decide +kernel
theorem dX12_copy_61 : decode cX12_copy 61 = .ok (.iload_n 3, 1) := by decide +kernel
theorem dX12_copy_62 : decode cX12_copy 62 = .ok (.iaload, 1) := by decide +kernel
theorem dX12_copy_63 : decode cX12_copy 63 = .ok (.if_icmp .eq 10, 3) := by decide +kernel
theorem dX12_copy_66 : decode cX12_copy 66 = .ok (.aload_n 0, 1) := by decide +kernel
theorem dX12_copy_67 : decode cX12_copy 67 = .ok (.bipush (-12), 2) := by decide +kernel
theorem dX12_copy_69 : decode cX12_copy 69 = .ok (.invokevirtual 228, 3) := by decide +kernel
theorem dX12_copy_72 : decode cX12_copy 72 = .ok (.ireturn, 1) := by decide +kernel
theorem dX12_copy_73 : decode cX12_copy 73 = .ok (.iload 5, 2) := by decide +kernel
theorem dX12_copy_75 : decode cX12_copy 75 = .ok (.ifCond .lt 39, 3) := by decide +kernel
theorem dX12_copy_78 : decode cX12_copy 78 = .ok (.iload_n 2, 1) := by decide +kernel
theorem dX12_copy_79 : decode cX12_copy 79 = .ok (.ifCond .lt 35, 3) := by decide +kernel
theorem dX12_copy_82 : decode cX12_copy 82 = .ok (.iload 4, 2) := by decide +kernel
theorem dX12_copy_84 : decode cX12_copy 84 = .ok (.ifCond .lt 30, 3) := by decide +kernel
theorem dX12_copy_87 : decode cX12_copy 87 = .ok (.iload 5, 2) := by decide +kernel
theorem dX12_copy_89 : decode cX12_copy 89 = .ok (.aload_n 0, 1) := by decide +kernel
theorem dX12_copy_90 : decode cX12_copy 90 = .ok (.getfield 94, 3) := by decide +kernel
theorem dX12_copy_93 : decode cX12_copy 93 = .ok (.iload_n 1, 1) := by decide +kernel
theorem dX12_copy_94 : decode cX12_copy 94 = .ok (.iaload, 1) := by decide +kernel
theorem dX12_copy_95 : decode cX12_copy 95 = .ok (.iload_n 2, 1) := by decide +kernel
theorem dX12_copy_96 : decode cX12_copy 96 = .ok (.isub, 1) := by decide +kernel
theorem dX12_copy_97 : decode cX12_copy 97 = .ok (.if_icmp .gt 17, 3) := by decide +kernel
theorem dX12_copy_100 : decode cX12_copy 100 = .ok (.iload 5, 2) := by decide +kernel
theorem dX12_copy_102 : decode cX12_copy 102 = .ok (.aload_n 0, 1) := by decide +kernel
theorem dX12_copy_103 : decode cX12_copy 103 = .ok (.getfield 94, 3) := by decide +kernel
theorem dX12_copy_106 : decode cX12_copy 106 = .ok (.iload_n 3, 1) := by decide +kernel
theorem dX12_copy_107 : decode cX12_copy 107 = .ok (.iaload, 1) := by decide +kernel
theorem dX12_copy_108 : decode cX12_copy 108 = .ok (.iload 4, 2) := by decide +kernel
theorem dX12_copy_110 : decode cX12_copy 110 = .ok (.isub, 1) := by decide +kernel
theorem dX12_copy_111 : decode cX12_copy 111 = .ok (.if_icmp .le 10, 3) := by decide +kernel
theorem dX12_copy_114 : decode cX12_copy 114 = .ok (.aload_n 0, 1) := by decide +kernel
theorem dX12_copy_115 : decode cX12_copy 115 = .ok (.bipush (-13), 2) := by decide +kernel
theorem dX12_copy_117 : decode cX12_copy 117 = .ok (.invokevirtual 228, 3) := by decide +kernel
theorem dX12_copy_120 : decode cX12_copy 120 = .ok (.ireturn, 1) := by decide +kernel
theorem dX12_copy_121 : decode cX12_copy 121 = .ok (.iconst 0, 1) := by decide +kernel
theorem dX12_copy_122 : decode cX12_copy 122 = .ok (.istore 6, 2) := by decide +kernel
theorem dX12_copy_124 : decode cX12_copy 124 = .ok (.iload 6, 2) := by decide +kernel
theorem dX12_copy_126 : decode cX12_copy 126 = .ok (.iload 5, 2) := by decide +kernel
theorem dX12_copy_128 : decode cX12_copy 128 = .ok (.if_icmp .ge 58, 3) := by decide +kernel
theorem dX12_copy_131 : decode cX12_copy 131 = .ok (.iload_n 2, 1) := by decide +kernel
theorem dX12_copy_132 : decode cX12_copy 132 = .ok (.iload 4, 2) := by decide +kernel
theorem dX12_copy_134 : decode cX12_copy 134 = .ok (.if_icmp .le 8, 3) := by decide +kernel
theorem dX12_copy_137 : decode cX12_copy 137 = .ok (.iload 6, 2) := by decide +kernel
theorem dX12_copy_139 : decode cX12_copy 139 = .ok (.goto 10, 3) := by decide +kernel
theorem dX12_copy_142 : decode cX12_copy 142 = .ok (.iload 5, 2) := by decide +kernel
theorem dX12_copy_144 : decode cX12_copy 144 = .ok (.iconst 1, 1) := by decide +kernel
theorem dX12_copy_145 : decode cX12_copy 145 = .ok (.isub, 1) := by decide +kernel
theorem dX12_copy_146 : decode cX12_copy 146 = .ok (.iload 6, 2) := by decide +kernel
theorem dX12_copy_148 : decode cX12_copy 148 = .ok (.isub, 1) := by decide +kernel
theorem dX12_copy_149 : decode cX12_copy 149 = .ok (.istore 7, 2) := by decide +kernel
theorem dX12_copy_151 : decode cX12_copy 151 = .ok (.aload_n 0, 1) := by decide +kernel
theorem dX12_copy_152 : decode cX12_copy 152 = .ok (.getfield 100, 3) := by decide +kernel
theorem dX12_copy_155 : decode cX12_copy 155 = .ok (.bipush 100, 2) := by decide +kernel
theorem dX12_copy_157 : decode cX12_copy 157 = .ok (.iload_n 3, 1) := by decide +kernel
theorem dX12_copy_158 : decode cX12_copy 158 = .ok (.imul, 1) := by decide +kernel
theorem dX12_copy_159 : decode cX12_copy 159 = .ok (.iload 4, 2) := by decide +kernel
theorem dX12_copy_161 : decode cX12_copy 161 = .ok (.iadd, 1) := by decide +kernel
theorem dX12_copy_162 : decode cX12_copy 162 = .ok (.iload 7, 2) := by decide +kernel
theorem dX12_copy_164 : decode cX12_copy 164 = .ok (.iadd, 1) := by decide +kernel
theorem dX12_copy_165 : decode cX12_copy 165 = .ok (.aload_n 0, 1) := by decide +kernel
theorem dX12_copy_166 : decode cX12_copy 166 = .ok (.getfield 100, 3) := by decide +kernel
theorem dX12_copy_169 : decode cX12_copy 169 = .ok (.bipush 100, 2) := by decide +kernel
theorem dX12_copy_171 : decode cX12_copy 171 = .ok (.iload_n 1, 1) := by decide +kernel
theorem dX12_copy_172 : decode cX12_copy 172 = .ok (.imul, 1) := by decide +kernel
theorem dX12_copy_173 : decode cX12_copy 173 = .ok (.iload_n 2, 1) := by decide +kernel
theorem dX12_copy_174 : decode cX12_copy 174 = .ok (.iadd, 1) := by decide +kernel
theorem dX12_copy_175 : decode cX12_copy 175 = .ok (.iload 7, 2) := by decide +kernel
theorem dX12_copy_177 : decode cX12_copy 177 = .ok (.iadd, 1) := by decide +kernel
theorem dX12_copy_178 : decode cX12_copy 178 = .ok (.laload, 1) := by decide +kernel
theorem dX12_copy_179 : decode cX12_copy 179 = .ok (.lastore, 1) := by decide +kernel
theorem dX12_copy_180 : decode cX12_copy 180 = .ok (.iinc 6 1, 3) := by decide +kernel
theorem dX12_copy_183 : decode cX12_copy 183 = .ok (.goto (-59), 3) := by decide +kernel
theorem dX12_copy_186 : decode cX12_copy 186 = .ok (.iload 5, 2) := by decide +kernel
theorem dX12_copy_188 : decode cX12_copy 188 = .ok (.ireturn, 1) := by decide +kernel
theorem dX12_count_0 : decode cX12_count 0 = .ok (.iconst 0, 1) := by decide +kernel
theorem dX12_count_1 : decode cX12_count 1 = .ok (.istore_n 2, 1) := by decide +kernel
theorem dX12_count_2 : decode cX12_count 2 = .ok (.iload_n 1, 1) := by decide +kernel
theorem dX12_count_3 : decode cX12_count 3 = .ok (.tableswitch 169 0 7 #[45, 77, 109, 114, 149, 154, 159, 164], 45) := by decide +kernel
theorem dX12_count_48 : decode cX12_count 48 = .ok (.iconst 0, 1) := by decide +kernel
theorem dX12_count_49 : decode cX12_count 49 = .ok (.istore_n 3, 1) := by decide +kernel
theorem dX12_count_50 : decode cX12_count 50 = .ok (.iload_n 3, 1) := by decide +kernel
theorem dX12_count_51 : decode cX12_count 51 = .ok (.bipush 12, 2) := by decide +kernel
theorem dX12_count_53 : decode cX12_count 53 = .ok (.if_icmp .ge 25, 3) := by decide +kernel
theorem dX12_count_56 : decode cX12_count 56 = .ok (.iload_n 2, 1) := by decide +kernel
theorem dX12_count_57 : decode cX12_count 57 = .ok (.aload_n 0, 1) := by decide +kernel
theorem dX12_count_58 : decode cX12_count 58 = .ok (.iload_n 3, 1) := by decide +kernel
theorem dX12_count_59 : decode cX12_count 59 = .ok (.invokevirtual 190, 3) := by decide +kernel
theorem dX12_count_62 : decode cX12_count 62 = .ok (.ifCond .eq 7, 3) := by decide +kernel
theorem dX12_count_65 : decode cX12_count 65 = .ok (.iconst 1, 1) := by decide +kernel
theorem dX12_count_66 : decode cX12_count 66 = .ok (.goto 4, 3) := by decide +kernel
theorem dX12_count_69 : decode cX12_count 69 = .ok (.iconst 0, 1) := by decide +kernel
theorem dX12_count_70 : decode cX12_count 70 = .ok (.iadd, 1) := by decide +kernel
theorem dX12_count_71 : decode cX12_count 71 = .ok (.istore_n 2, 1) := by decide +kernel
theorem dX12_count_72 : decode cX12_count 72 = .ok (.iinc 3 1, 3) := by decide +kernel
theorem dX12_count_75 : decode cX12_count 75 = .ok (.goto (-25), 3) := by decide +kernel
theorem dX12_count_78 : decode cX12_count 78 = .ok (.iload_n 2, 1) := by decide +kernel
theorem dX12_count_79 : decode cX12_count 79 = .ok (.ireturn, 1) := by decide +kernel
theorem dX12_count_80 : decode cX12_count 80 = .ok (.iconst 0, 1) := by decide +kernel
theorem dX12_count_81 : decode cX12_count 81 = .ok (.istore_n 3, 1) := by decide +kernel
theorem dX12_count_82 : decode cX12_count 82 = .ok (.iload_n 3, 1) := by decide +kernel
theorem dX12_count_83 : decode cX12_count 83 = .ok (.bipush 6, 2) := by decide +kernel
theorem dX12_count_85 : decode cX12_count 85 = .ok (.if_icmp .ge 25, 3) := by decide +kernel
theorem dX12_count_88 : decode cX12_count 88 = .ok (.iload_n 2, 1) := by decide +kernel
theorem dX12_count_89 : decode cX12_count 89 = .ok (.aload_n 0, 1) := by decide +kernel
theorem dX12_count_90 : decode cX12_count 90 = .ok (.iload_n 3, 1) := by decide +kernel
theorem dX12_count_91 : decode cX12_count 91 = .ok (.invokevirtual 186, 3) := by decide +kernel
theorem dX12_count_94 : decode cX12_count 94 = .ok (.ifCond .eq 7, 3) := by decide +kernel
theorem dX12_count_97 : decode cX12_count 97 = .ok (.iconst 1, 1) := by decide +kernel
theorem dX12_count_98 : decode cX12_count 98 = .ok (.goto 4, 3) := by decide +kernel
theorem dX12_count_101 : decode cX12_count 101 = .ok (.iconst 0, 1) := by decide +kernel
theorem dX12_count_102 : decode cX12_count 102 = .ok (.iadd, 1) := by decide +kernel
theorem dX12_count_103 : decode cX12_count 103 = .ok (.istore_n 2, 1) := by decide +kernel
theorem dX12_count_104 : decode cX12_count 104 = .ok (.iinc 3 1, 3) := by decide +kernel
theorem dX12_count_107 : decode cX12_count 107 = .ok (.goto (-25), 3) := by decide +kernel
theorem dX12_count_110 : decode cX12_count 110 = .ok (.iload_n 2, 1) := by decide +kernel
theorem dX12_count_111 : decode cX12_count 111 = .ok (.ireturn, 1) := by decide +kernel
theorem dX12_count_112 : decode cX12_count 112 = .ok (.aload_n 0, 1) := by decide +kernel
theorem dX12_count_113 : decode cX12_count 113 = .ok (.getfield 159, 3) := by decide +kernel
theorem dX12_count_116 : decode cX12_count 116 = .ok (.ireturn, 1) := by decide +kernel
theorem dX12_count_117 : decode cX12_count 117 = .ok (.iconst 0, 1) := by decide +kernel
theorem dX12_count_118 : decode cX12_count 118 = .ok (.istore_n 3, 1) := by decide +kernel
theorem dX12_count_119 : decode cX12_count 119 = .ok (.iload_n 3, 1) := by decide +kernel
theorem dX12_count_120 : decode cX12_count 120 = .ok (.aload_n 0, 1) := by decide +kernel
theorem dX12_count_121 : decode cX12_count 121 = .ok (.getfield 159, 3) := by decide +kernel
theorem dX12_count_124 : decode cX12_count 124 = .ok (.if_icmp .ge 26, 3) := by decide +kernel
theorem dX12_count_127 : decode cX12_count 127 = .ok (.iload_n 2, 1) := by decide +kernel
theorem dX12_count_128 : decode cX12_count 128 = .ok (.aload_n 0, 1) := by decide +kernel
theorem dX12_count_129 : decode cX12_count 129 = .ok (.getfield 52, 3) := by decide +kernel
theorem dX12_count_132 : decode cX12_count 132 = .ok (.iload_n 3, 1) := by decide +kernel
theorem dX12_count_133 : decode cX12_count 133 = .ok (.iaload, 1) := by decide +kernel
theorem dX12_count_134 : decode cX12_count 134 = .ok (.ifCond .ge 7, 3) := by decide +kernel
theorem dX12_count_137 : decode cX12_count 137 = .ok (.iconst 1, 1) := by decide +kernel
theorem dX12_count_138 : decode cX12_count 138 = .ok (.goto 4, 3) := by decide +kernel
theorem dX12_count_141 : decode cX12_count 141 = .ok (.iconst 0, 1) := by decide +kernel
theorem dX12_count_142 : decode cX12_count 142 = .ok (.iadd, 1) := by decide +kernel
theorem dX12_count_143 : decode cX12_count 143 = .ok (.istore_n 2, 1) := by decide +kernel
theorem dX12_count_144 : decode cX12_count 144 = .ok (.iinc 3 1, 3) := by decide +kernel
theorem dX12_count_147 : decode cX12_count 147 = .ok (.goto (-28), 3) := by decide +kernel
theorem dX12_count_150 : decode cX12_count 150 = .ok (.iload_n 2, 1) := by decide +kernel
theorem dX12_count_151 : decode cX12_count 151 = .ok (.ireturn, 1) := by decide +kernel
theorem dX12_count_152 : decode cX12_count 152 = .ok (.aload_n 0, 1) := by decide +kernel
theorem dX12_count_153 : decode cX12_count 153 = .ok (.getfield 162, 3) := by decide +kernel
theorem dX12_count_156 : decode cX12_count 156 = .ok (.ireturn, 1) := by decide +kernel
theorem dX12_count_157 : decode cX12_count 157 = .ok (.aload_n 0, 1) := by decide +kernel
theorem dX12_count_158 : decode cX12_count 158 = .ok (.getfield 165, 3) := by decide +kernel
theorem dX12_count_161 : decode cX12_count 161 = .ok (.ireturn, 1) := by decide +kernel
theorem dX12_count_162 : decode cX12_count 162 = .ok (.aload_n 0, 1) := by decide +kernel
theorem dX12_count_163 : decode cX12_count 163 = .ok (.getfield 171, 3) := by decide +kernel
theorem dX12_count_166 : decode cX12_count 166 = .ok (.ireturn, 1) := by decide +kernel
theorem dX12_count_167 : decode cX12_count 167 = .ok (.aload_n 0, 1) := by decide +kernel
theorem dX12_count_168 : decode cX12_count 168 = .ok (.getfield 152, 3) := by decide +kernel
theorem dX12_count_171 : decode cX12_count 171 = .ok (.ireturn, 1) := by decide +kernel
theorem dX12_count_172 : decode cX12_count 172 = .ok (.iconst (-1), 1) := by decide +kernel
theorem dX12_count_173 : decode cX12_count 173 = .ok (.ireturn, 1) := by decide +kernel
theorem dJ9_floorDiv_7cf53_0 : decode cJ9_floorDiv_7cf53 0 = .ok (.iload_n 0, 1) := by decide +kernel
theorem dJ9_floorDiv_7cf53_1 : decode cJ9_floorDiv_7cf53 1 = .ok (.iload_n 1, 1) := by decide +kernel
theorem dJ9_floorDiv_7cf53_2 : decode cJ9_floorDiv_7cf53 2 = .ok (.idiv, 1) := by decide +kernel
theorem dJ9_floorDiv_7cf53_3 : decode cJ9_floorDiv_7cf53 3 = .ok (.istore_n 2, 1) := by decide +kernel
theorem dJ9_floorDiv_7cf53_4 : decode cJ9_floorDiv_7cf53 4 = .ok (.iload_n 0, 1) := by decide +kernel
theorem dJ9_floorDiv_7cf53_5 : decode cJ9_floorDiv_7cf53 5 = .ok (.iload_n 1, 1) := by decide +kernel
theorem dJ9_floorDiv_7cf53_6 : decode cJ9_floorDiv_7cf53 6 = .ok (.ixor, 1) := by decide +kernel
theorem dJ9_floorDiv_7cf53_7 : decode cJ9_floorDiv_7cf53 7 = .ok (.ifCond .ge 14, 3) := by decide +kernel
theorem dJ9_floorDiv_7cf53_10 : decode cJ9_floorDiv_7cf53 10 = .ok (.iload_n 2, 1) := by decide +kernel
theorem dJ9_floorDiv_7cf53_11 : decode cJ9_floorDiv_7cf53 11 = .ok (.iload_n 1, 1) := by decide +kernel
theorem dJ9_floorDiv_7cf53_12 : decode cJ9_floorDiv_7cf53 12 = .ok (.imul, 1) := by decide +kernel
theorem dJ9_floorDiv_7cf53_13 : decode cJ9_floorDiv_7cf53 13 = .ok (.iload_n 0, 1) := by decide +kernel
theorem dJ9_floorDiv_7cf53_14 : decode cJ9_floorDiv_7cf53 14 = .ok (.if_icmp .eq 7, 3) := by decide +kernel
theorem dJ9_floorDiv_7cf53_17 : decode cJ9_floorDiv_7cf53 17 = .ok (.iload_n 2, 1) := by decide +kernel
theorem dJ9_floorDiv_7cf53_18 : decode cJ9_floorDiv_7cf53 18 = .ok (.iconst 1, 1) := by decide +kernel
theorem dJ9_floorDiv_7cf53_19 : decode cJ9_floorDiv_7cf53 19 = .ok (.isub, 1) := by decide +kernel
theorem dJ9_floorDiv_7cf53_20 : decode cJ9_floorDiv_7cf53 20 = .ok (.ireturn, 1) := by decide +kernel
theorem dJ9_floorDiv_7cf53_21 : decode cJ9_floorDiv_7cf53 21 = .ok (.iload_n 2, 1) := by decide +kernel
theorem dJ9_floorDiv_7cf53_22 : decode cJ9_floorDiv_7cf53 22 = .ok (.ireturn, 1) := by decide +kernel
theorem dJ9_abs_0f7a4_0 : decode cJ9_abs_0f7a4 0 = .ok (.iload_n 0, 1) := by decide +kernel
theorem dJ9_abs_0f7a4_1 : decode cJ9_abs_0f7a4 1 = .ok (.ifCond .ge 8, 3) := by decide +kernel
theorem dJ9_abs_0f7a4_4 : decode cJ9_abs_0f7a4 4 = .ok (.iload_n 0, 1) := by decide +kernel
theorem dJ9_abs_0f7a4_5 : decode cJ9_abs_0f7a4 5 = .ok (.ineg, 1) := by decide +kernel
theorem dJ9_abs_0f7a4_6 : decode cJ9_abs_0f7a4 6 = .ok (.goto 4, 3) := by decide +kernel
theorem dJ9_abs_0f7a4_9 : decode cJ9_abs_0f7a4 9 = .ok (.iload_n 0, 1) := by decide +kernel
theorem dJ9_abs_0f7a4_10 : decode cJ9_abs_0f7a4 10 = .ok (.ireturn, 1) := by decide +kernel
theorem dJ9_max_7cf53_0 : decode cJ9_max_7cf53 0 = .ok (.iload_n 0, 1) := by decide +kernel
theorem dJ9_max_7cf53_1 : decode cJ9_max_7cf53 1 = .ok (.iload_n 1, 1) := by decide +kernel
theorem dJ9_max_7cf53_2 : decode cJ9_max_7cf53 2 = .ok (.if_icmp .lt 7, 3) := by decide +kernel
theorem dJ9_max_7cf53_5 : decode cJ9_max_7cf53 5 = .ok (.iload_n 0, 1) := by decide +kernel
theorem dJ9_max_7cf53_6 : decode cJ9_max_7cf53 6 = .ok (.goto 4, 3) := by decide +kernel
theorem dJ9_max_7cf53_9 : decode cJ9_max_7cf53 9 = .ok (.iload_n 1, 1) := by decide +kernel
theorem dJ9_max_7cf53_10 : decode cJ9_max_7cf53 10 = .ok (.ireturn, 1) := by decide +kernel
theorem dJ9_min_7cf53_0 : decode cJ9_min_7cf53 0 = .ok (.iload_n 0, 1) := by decide +kernel
theorem dJ9_min_7cf53_1 : decode cJ9_min_7cf53 1 = .ok (.iload_n 1, 1) := by decide +kernel
theorem dJ9_min_7cf53_2 : decode cJ9_min_7cf53 2 = .ok (.if_icmp .gt 7, 3) := by decide +kernel
theorem dJ9_min_7cf53_5 : decode cJ9_min_7cf53 5 = .ok (.iload_n 0, 1) := by decide +kernel
theorem dJ9_min_7cf53_6 : decode cJ9_min_7cf53 6 = .ok (.goto 4, 3) := by decide +kernel
theorem dJ9_min_7cf53_9 : decode cJ9_min_7cf53 9 = .ok (.iload_n 1, 1) := by decide +kernel
theorem dJ9_min_7cf53_10 : decode cJ9_min_7cf53 10 = .ok (.ireturn, 1) := by decide +kernel
theorem dJ7_fill_d0a16_0 : decode cJ7_fill_d0a16 0 = .ok (.iconst 0, 1) := by decide +kernel
theorem dJ7_fill_d0a16_1 : decode cJ7_fill_d0a16 1 = .ok (.istore_n 3, 1) := by decide +kernel
theorem dJ7_fill_d0a16_2 : decode cJ7_fill_d0a16 2 = .ok (.aload_n 0, 1) := by decide +kernel
theorem dJ7_fill_d0a16_3 : decode cJ7_fill_d0a16 3 = .ok (.arraylength, 1) := by decide +kernel
theorem dJ7_fill_d0a16_4 : decode cJ7_fill_d0a16 4 = .ok (.istore 4, 2) := by decide +kernel
theorem dJ7_fill_d0a16_6 : decode cJ7_fill_d0a16 6 = .ok (.iload_n 3, 1) := by decide +kernel
theorem dJ7_fill_d0a16_7 : decode cJ7_fill_d0a16 7 = .ok (.iload 4, 2) := by decide +kernel
theorem dJ7_fill_d0a16_9 : decode cJ7_fill_d0a16 9 = .ok (.if_icmp .ge 13, 3) := by decide +kernel
theorem dJ7_fill_d0a16_12 : decode cJ7_fill_d0a16 12 = .ok (.aload_n 0, 1) := by decide +kernel
theorem dJ7_fill_d0a16_13 : decode cJ7_fill_d0a16 13 = .ok (.iload_n 3, 1) := by decide +kernel
theorem dJ7_fill_d0a16_14 : decode cJ7_fill_d0a16 14 = .ok (.lload_n 1, 1) := by decide +kernel
theorem dJ7_fill_d0a16_15 : decode cJ7_fill_d0a16 15 = .ok (.lastore, 1) := by decide +kernel
theorem dJ7_fill_d0a16_16 : decode cJ7_fill_d0a16 16 = .ok (.iinc 3 1, 3) := by decide +kernel
theorem dJ7_fill_d0a16_19 : decode cJ7_fill_d0a16 19 = .ok (.goto (-13), 3) := by decide +kernel
theorem dJ7_fill_d0a16_22 : decode cJ7_fill_d0a16 22 = .ok (.return_, 1) := by decide +kernel
theorem dJ7_fill_53178_0 : decode cJ7_fill_53178 0 = .ok (.iconst 0, 1) := by decide +kernel
theorem dJ7_fill_53178_1 : decode cJ7_fill_53178 1 = .ok (.istore_n 2, 1) := by decide +kernel
theorem dJ7_fill_53178_2 : decode cJ7_fill_53178 2 = .ok (.aload_n 0, 1) := by decide +kernel
theorem dJ7_fill_53178_3 : decode cJ7_fill_53178 3 = .ok (.arraylength, 1) := by decide +kernel
theorem dJ7_fill_53178_4 : decode cJ7_fill_53178 4 = .ok (.istore_n 3, 1) := by decide +kernel
theorem dJ7_fill_53178_5 : decode cJ7_fill_53178 5 = .ok (.iload_n 2, 1) := by decide +kernel
theorem dJ7_fill_53178_6 : decode cJ7_fill_53178 6 = .ok (.iload_n 3, 1) := by decide +kernel
theorem dJ7_fill_53178_7 : decode cJ7_fill_53178 7 = .ok (.if_icmp .ge 13, 3) := by decide +kernel
theorem dJ7_fill_53178_10 : decode cJ7_fill_53178 10 = .ok (.aload_n 0, 1) := by decide +kernel
theorem dJ7_fill_53178_11 : decode cJ7_fill_53178 11 = .ok (.iload_n 2, 1) := by decide +kernel
theorem dJ7_fill_53178_12 : decode cJ7_fill_53178 12 = .ok (.iload_n 1, 1) := by decide +kernel
theorem dJ7_fill_53178_13 : decode cJ7_fill_53178 13 = .ok (.iastore, 1) := by decide +kernel
theorem dJ7_fill_53178_14 : decode cJ7_fill_53178 14 = .ok (.iinc 2 1, 3) := by decide +kernel
theorem dJ7_fill_53178_17 : decode cJ7_fill_53178 17 = .ok (.goto (-12), 3) := by decide +kernel
theorem dJ7_fill_53178_20 : decode cJ7_fill_53178 20 = .ok (.return_, 1) := by decide +kernel
theorem dJ7_fill_031fb_0 : decode cJ7_fill_031fb 0 = .ok (.iconst 0, 1) := by decide +kernel
theorem dJ7_fill_031fb_1 : decode cJ7_fill_031fb 1 = .ok (.istore_n 2, 1) := by decide +kernel
theorem dJ7_fill_031fb_2 : decode cJ7_fill_031fb 2 = .ok (.aload_n 0, 1) := by decide +kernel
theorem dJ7_fill_031fb_3 : decode cJ7_fill_031fb 3 = .ok (.arraylength, 1) := by decide +kernel
theorem dJ7_fill_031fb_4 : decode cJ7_fill_031fb 4 = .ok (.istore_n 3, 1) := by decide +kernel
theorem dJ7_fill_031fb_5 : decode cJ7_fill_031fb 5 = .ok (.iload_n 2, 1) := by decide +kernel
theorem dJ7_fill_031fb_6 : decode cJ7_fill_031fb 6 = .ok (.iload_n 3, 1) := by decide +kernel
theorem dJ7_fill_031fb_7 : decode cJ7_fill_031fb 7 = .ok (.if_icmp .ge 13, 3) := by decide +kernel
theorem dJ7_fill_031fb_10 : decode cJ7_fill_031fb 10 = .ok (.aload_n 0, 1) := by decide +kernel
theorem dJ7_fill_031fb_11 : decode cJ7_fill_031fb 11 = .ok (.iload_n 2, 1) := by decide +kernel
theorem dJ7_fill_031fb_12 : decode cJ7_fill_031fb 12 = .ok (.iload_n 1, 1) := by decide +kernel
theorem dJ7_fill_031fb_13 : decode cJ7_fill_031fb 13 = .ok (.bastore, 1) := by decide +kernel
theorem dJ7_fill_031fb_14 : decode cJ7_fill_031fb 14 = .ok (.iinc 2 1, 3) := by decide +kernel
theorem dJ7_fill_031fb_17 : decode cJ7_fill_031fb 17 = .ok (.goto (-12), 3) := by decide +kernel
theorem dJ7_fill_031fb_20 : decode cJ7_fill_031fb 20 = .ok (.return_, 1) := by decide +kernel
theorem dL_cue_0 : decode cL_cue 0 = .ok (.aload_n 3, 1) := by decide +kernel
theorem dL_cue_1 : decode cL_cue 1 = .ok (.iconst 0, 1) := by decide +kernel
theorem dL_cue_2 : decode cL_cue 2 = .ok (.aload_n 0, 1) := by decide +kernel
theorem dL_cue_3 : decode cL_cue 3 = .ok (.iload_n 1, 1) := by decide +kernel
theorem dL_cue_4 : decode cL_cue 4 = .ok (.iload_n 2, 1) := by decide +kernel
theorem dL_cue_5 : decode cL_cue 5 = .ok (.invokevirtual 7, 3) := by decide +kernel
theorem dL_cue_8 : decode cL_cue 8 = .ok (.i2l, 1) := by decide +kernel
theorem dL_cue_9 : decode cL_cue 9 = .ok (.lastore, 1) := by decide +kernel
theorem dL_cue_10 : decode cL_cue 10 = .ok (.goto 11, 3) := by decide +kernel
theorem dL_cue_13 : decode cL_cue 13 = .ok (.astore 4, 2) := by decide +kernel
theorem dL_cue_15 : decode cL_cue 15 = .ok (.iconst 1, 1) := by decide +kernel
theorem dL_cue_16 : decode cL_cue 16 = .ok (.ireturn, 1) := by decide +kernel
theorem dL_cue_17 : decode cL_cue 17 = .ok (.astore 4, 2) := by decide +kernel
theorem dL_cue_19 : decode cL_cue 19 = .ok (.iconst 2, 1) := by decide +kernel
theorem dL_cue_20 : decode cL_cue 20 = .ok (.ireturn, 1) := by decide +kernel
theorem dL_cue_21 : decode cL_cue 21 = .ok (.iconst 0, 1) := by decide +kernel
theorem dL_cue_22 : decode cL_cue 22 = .ok (.ireturn, 1) := by decide +kernel
theorem dL_goes_0 : decode cL_goes 0 = .ok (.aload_n 3, 1) := by decide +kernel
theorem dL_goes_1 : decode cL_goes 1 = .ok (.iconst 0, 1) := by decide +kernel
theorem dL_goes_2 : decode cL_goes 2 = .ok (.aload_n 0, 1) := by decide +kernel
theorem dL_goes_3 : decode cL_goes 3 = .ok (.iload_n 1, 1) := by decide +kernel
theorem dL_goes_4 : decode cL_goes 4 = .ok (.iload_n 2, 1) := by decide +kernel
theorem dL_goes_5 : decode cL_goes 5 = .ok (.invokevirtual 17, 3) := by decide +kernel
theorem dL_goes_8 : decode cL_goes 8 = .ok (.i2l, 1) := by decide +kernel
theorem dL_goes_9 : decode cL_goes 9 = .ok (.lastore, 1) := by decide +kernel
theorem dL_goes_10 : decode cL_goes 10 = .ok (.goto 11, 3) := by decide +kernel
theorem dL_goes_13 : decode cL_goes 13 = .ok (.astore 4, 2) := by decide +kernel
theorem dL_goes_15 : decode cL_goes 15 = .ok (.iconst 1, 1) := by decide +kernel
theorem dL_goes_16 : decode cL_goes 16 = .ok (.ireturn, 1) := by decide +kernel
theorem dL_goes_17 : decode cL_goes 17 = .ok (.astore 4, 2) := by decide +kernel
theorem dL_goes_19 : decode cL_goes 19 = .ok (.iconst 2, 1) := by decide +kernel
theorem dL_goes_20 : decode cL_goes 20 = .ok (.ireturn, 1) := by decide +kernel
theorem dL_goes_21 : decode cL_goes 21 = .ok (.iconst 0, 1) := by decide +kernel
theorem dL_goes_22 : decode cL_goes 22 = .ok (.ireturn, 1) := by decide +kernel
theorem dL_at_0 : decode cL_at 0 = .ok (.aload_n 3, 1) := by decide +kernel
theorem dL_at_1 : decode cL_at 1 = .ok (.iconst 0, 1) := by decide +kernel
theorem dL_at_2 : decode cL_at 2 = .ok (.aload_n 0, 1) := by decide +kernel
theorem dL_at_3 : decode cL_at 3 = .ok (.iload_n 1, 1) := by decide +kernel
theorem dL_at_4 : decode cL_at 4 = .ok (.iload_n 2, 1) := by decide +kernel
theorem dL_at_5 : decode cL_at 5 = .ok (.invokevirtual 20, 3) := by decide +kernel
theorem dL_at_8 : decode cL_at 8 = .ok (.lastore, 1) := by decide +kernel
theorem dL_at_9 : decode cL_at 9 = .ok (.goto 11, 3) := by decide +kernel
theorem dL_at_12 : decode cL_at 12 = .ok (.astore 4, 2) := by decide +kernel
theorem dL_at_14 : decode cL_at 14 = .ok (.iconst 1, 1) := by decide +kernel
theorem dL_at_15 : decode cL_at 15 = .ok (.ireturn, 1) := by decide +kernel
theorem dL_at_16 : decode cL_at 16 = .ok (.astore 4, 2) := by decide +kernel
theorem dL_at_18 : decode cL_at 18 = .ok (.iconst 2, 1) := by decide +kernel
theorem dL_at_19 : decode cL_at 19 = .ok (.ireturn, 1) := by decide +kernel
theorem dL_at_20 : decode cL_at 20 = .ok (.iconst 0, 1) := by decide +kernel
theorem dL_at_21 : decode cL_at 21 = .ok (.ireturn, 1) := by decide +kernel
theorem dL_law_0 : decode cL_law 0 = .ok (.new 8, 3) := by decide +kernel
theorem dL_law_3 : decode cL_law 3 = .ok (.dup, 1) := by decide +kernel
theorem dL_law_4 : decode cL_law 4 = .ok (.invokespecial 24, 3) := by decide +kernel
theorem dL_law_7 : decode cL_law 7 = .ok (.astore_n 1, 1) := by decide +kernel
theorem dL_law_8 : decode cL_law 8 = .ok (.new 25, 3) := by decide +kernel
theorem dL_law_11 : decode cL_law 11 = .ok (.dup, 1) := by decide +kernel
theorem dL_law_12 : decode cL_law 12 = .ok (.invokespecial 27, 3) := by decide +kernel
theorem dL_law_15 : decode cL_law 15 = .ok (.astore_n 2, 1) := by decide +kernel
theorem dL_law_16 : decode cL_law 16 = .ok (.iconst 1, 1) := by decide +kernel
theorem dL_law_17 : decode cL_law 17 = .ok (.newarray .long, 2) := by decide +kernel
theorem dL_law_19 : decode cL_law 19 = .ok (.astore_n 3, 1) := by decide +kernel
theorem dL_law_20 : decode cL_law 20 = .ok (.iconst 0, 1) := by decide +kernel
theorem dL_law_21 : decode cL_law 21 = .ok (.istore 4, 2) := by decide +kernel
theorem dL_law_23 : decode cL_law 23 = .ok (.iload 4, 2) := by decide +kernel
theorem dL_law_25 : decode cL_law 25 = .ok (.aload_n 0, 1) := by decide +kernel
theorem dL_law_26 : decode cL_law 26 = .ok (.arraylength, 1) := by decide +kernel
theorem dL_law_27 : decode cL_law 27 = .ok (.bipush 6, 2) := by decide +kernel
theorem dL_law_29 : decode cL_law 29 = .ok (.isub, 1) := by decide +kernel
theorem dL_law_30 : decode cL_law 30 = .ok (.if_icmp .gt 1695, 3) := by decide +kernel
theorem dL_law_33 : decode cL_law 33 = .ok (.aload_n 0, 1) := by decide +kernel
theorem dL_law_34 : decode cL_law 34 = .ok (.iload 4, 2) := by decide +kernel
theorem dL_law_36 : decode cL_law 36 = .ok (.iaload, 1) := by decide +kernel
theorem dL_law_37 : decode cL_law 37 = .ok (.bipush 63, 2) := by decide +kernel
theorem dL_law_39 : decode cL_law 39 = .ok (.iand, 1) := by decide +kernel
theorem dL_law_40 : decode cL_law 40 = .ok (.tableswitch 1679 0 38 #[172, 185, 234, 307, 368, 429, 454, 491, 552, 625, 650, 718, 767, 792, 829, 866, 915, 940, 965, 978, 1015, 1040, 1065, 1133, 1158, 1183, 1220, 1233, 1246, 1271, 1284, 1333, 1358, 1383, 1408, 1433, 1514, 1581, 1654], 172) := by decide +kernel
theorem dL_law_212 : decode cL_law 212 = .ok (.aload_n 1, 1) := by decide +kernel
theorem dL_law_213 : decode cL_law 213 = .ok (.invokevirtual 28, 3) := by decide +kernel
theorem dL_law_216 : decode cL_law 216 = .ok (.aload_n 2, 1) := by decide +kernel
theorem dL_law_217 : decode cL_law 217 = .ok (.invokevirtual 32, 3) := by decide +kernel
theorem dL_law_220 : decode cL_law 220 = .ok (.if_icmp .eq 1499, 3) := by decide +kernel
theorem dL_law_223 : decode cL_law 223 = .ok (.iconst 0, 1) := by decide +kernel
theorem dL_law_224 : decode cL_law 224 = .ok (.ireturn, 1) := by decide +kernel
theorem dL_law_225 : decode cL_law 225 = .ok (.aload_n 1, 1) := by decide +kernel
theorem dL_law_226 : decode cL_law 226 = .ok (.aload_n 0, 1) := by decide +kernel
theorem dL_law_227 : decode cL_law 227 = .ok (.iload 4, 2) := by decide +kernel
theorem dL_law_229 : decode cL_law 229 = .ok (.iconst 1, 1) := by decide +kernel
theorem dL_law_230 : decode cL_law 230 = .ok (.iadd, 1) := by decide +kernel
theorem dL_law_231 : decode cL_law 231 = .ok (.iaload, 1) := by decide +kernel
theorem dL_law_232 : decode cL_law 232 = .ok (.aload_n 0, 1) := by decide +kernel
theorem dL_law_233 : decode cL_law 233 = .ok (.iload 4, 2) := by decide +kernel
theorem dL_law_235 : decode cL_law 235 = .ok (.iconst 2, 1) := by decide +kernel
theorem dL_law_236 : decode cL_law 236 = .ok (.iadd, 1) := by decide +kernel
theorem dL_law_237 : decode cL_law 237 = .ok (.iaload, 1) := by decide +kernel
theorem dL_law_238 : decode cL_law 238 = .ok (.aload_n 0, 1) := by decide +kernel
theorem dL_law_239 : decode cL_law 239 = .ok (.iload 4, 2) := by decide +kernel
theorem dL_law_241 : decode cL_law 241 = .ok (.iconst 3, 1) := by decide +kernel
theorem dL_law_242 : decode cL_law 242 = .ok (.iadd, 1) := by decide +kernel
theorem dL_law_243 : decode cL_law 243 = .ok (.iaload, 1) := by decide +kernel
theorem dL_law_244 : decode cL_law 244 = .ok (.invokevirtual 33, 3) := by decide +kernel
theorem dL_law_247 : decode cL_law 247 = .ok (.aload_n 2, 1) := by decide +kernel
theorem dL_law_248 : decode cL_law 248 = .ok (.aload_n 0, 1) := by decide +kernel
theorem dL_law_249 : decode cL_law 249 = .ok (.iload 4, 2) := by decide +kernel
theorem dL_law_251 : decode cL_law 251 = .ok (.iconst 1, 1) := by decide +kernel
theorem dL_law_252 : decode cL_law 252 = .ok (.iadd, 1) := by decide +kernel
theorem dL_law_253 : decode cL_law 253 = .ok (.iaload, 1) := by decide +kernel
theorem dL_law_254 : decode cL_law 254 = .ok (.aload_n 0, 1) := by decide +kernel
theorem dL_law_255 : decode cL_law 255 = .ok (.iload 4, 2) := by decide +kernel
theorem dL_law_257 : decode cL_law 257 = .ok (.iconst 2, 1) := by decide +kernel
theorem dL_law_258 : decode cL_law 258 = .ok (.iadd, 1) := by decide +kernel
theorem dL_law_259 : decode cL_law 259 = .ok (.iaload, 1) := by decide +kernel
theorem dL_law_260 : decode cL_law 260 = .ok (.aload_n 0, 1) := by decide +kernel
theorem dL_law_261 : decode cL_law 261 = .ok (.iload 4, 2) := by decide +kernel
theorem dL_law_263 : decode cL_law 263 = .ok (.iconst 3, 1) := by decide +kernel
theorem dL_law_264 : decode cL_law 264 = .ok (.iadd, 1) := by decide +kernel
theorem dL_law_265 : decode cL_law 265 = .ok (.iaload, 1) := by decide +kernel
theorem dL_law_266 : decode cL_law 266 = .ok (.invokevirtual 37, 3) := by decide +kernel
theorem dL_law_269 : decode cL_law 269 = .ok (.if_icmp .eq 1450, 3) := by decide +kernel
theorem dL_law_272 : decode cL_law 272 = .ok (.iconst 0, 1) := by decide +kernel
theorem dL_law_273 : decode cL_law 273 = .ok (.ireturn, 1) := by decide +kernel
theorem dL_law_274 : decode cL_law 274 = .ok (.aload_n 1, 1) := by decide +kernel
theorem dL_law_275 : decode cL_law 275 = .ok (.aload_n 0, 1) := by decide +kernel
theorem dL_law_276 : decode cL_law 276 = .ok (.iload 4, 2) := by decide +kernel
theorem dL_law_278 : decode cL_law 278 = .ok (.iconst 1, 1) := by decide +kernel
theorem dL_law_279 : decode cL_law 279 = .ok (.iadd, 1) := by decide +kernel
theorem dL_law_280 : decode cL_law 280 = .ok (.iaload, 1) := by decide +kernel
theorem dL_law_281 : decode cL_law 281 = .ok (.aload_n 0, 1) := by decide +kernel
theorem dL_law_282 : decode cL_law 282 = .ok (.iload 4, 2) := by decide +kernel
theorem dL_law_284 : decode cL_law 284 = .ok (.iconst 2, 1) := by decide +kernel
theorem dL_law_285 : decode cL_law 285 = .ok (.iadd, 1) := by decide +kernel
theorem dL_law_286 : decode cL_law 286 = .ok (.iaload, 1) := by decide +kernel
theorem dL_law_287 : decode cL_law 287 = .ok (.aload_n 0, 1) := by decide +kernel
theorem dL_law_288 : decode cL_law 288 = .ok (.iload 4, 2) := by decide +kernel
theorem dL_law_290 : decode cL_law 290 = .ok (.iconst 3, 1) := by decide +kernel
theorem dL_law_291 : decode cL_law 291 = .ok (.iadd, 1) := by decide +kernel
theorem dL_law_292 : decode cL_law 292 = .ok (.iaload, 1) := by decide +kernel
theorem dL_law_293 : decode cL_law 293 = .ok (.aload_n 0, 1) := by decide +kernel
theorem dL_law_294 : decode cL_law 294 = .ok (.iload 4, 2) := by decide +kernel
theorem dL_law_296 : decode cL_law 296 = .ok (.iconst 4, 1) := by decide +kernel
theorem dL_law_297 : decode cL_law 297 = .ok (.iadd, 1) := by decide +kernel
theorem dL_law_298 : decode cL_law 298 = .ok (.iaload, 1) := by decide +kernel
theorem dL_law_299 : decode cL_law 299 = .ok (.aload_n 0, 1) := by decide +kernel
theorem dL_law_300 : decode cL_law 300 = .ok (.iload 4, 2) := by decide +kernel
theorem dL_law_302 : decode cL_law 302 = .ok (.iconst 5, 1) := by decide +kernel
theorem dL_law_303 : decode cL_law 303 = .ok (.iadd, 1) := by decide +kernel
theorem dL_law_304 : decode cL_law 304 = .ok (.iaload, 1) := by decide +kernel
theorem dL_law_305 : decode cL_law 305 = .ok (.invokevirtual 38, 3) := by decide +kernel
theorem dL_law_308 : decode cL_law 308 = .ok (.aload_n 2, 1) := by decide +kernel
theorem dL_law_309 : decode cL_law 309 = .ok (.aload_n 0, 1) := by decide +kernel
theorem dL_law_310 : decode cL_law 310 = .ok (.iload 4, 2) := by decide +kernel
theorem dL_law_312 : decode cL_law 312 = .ok (.iconst 1, 1) := by decide +kernel
theorem dL_law_313 : decode cL_law 313 = .ok (.iadd, 1) := by decide +kernel
theorem dL_law_314 : decode cL_law 314 = .ok (.iaload, 1) := by decide +kernel
theorem dL_law_315 : decode cL_law 315 = .ok (.aload_n 0, 1) := by decide +kernel
theorem dL_law_316 : decode cL_law 316 = .ok (.iload 4, 2) := by decide +kernel
theorem dL_law_318 : decode cL_law 318 = .ok (.iconst 2, 1) := by decide +kernel
theorem dL_law_319 : decode cL_law 319 = .ok (.iadd, 1) := by decide +kernel
theorem dL_law_320 : decode cL_law 320 = .ok (.iaload, 1) := by decide +kernel
theorem dL_law_321 : decode cL_law 321 = .ok (.aload_n 0, 1) := by decide +kernel
theorem dL_law_322 : decode cL_law 322 = .ok (.iload 4, 2) := by decide +kernel
theorem dL_law_324 : decode cL_law 324 = .ok (.iconst 3, 1) := by decide +kernel
theorem dL_law_325 : decode cL_law 325 = .ok (.iadd, 1) := by decide +kernel
theorem dL_law_326 : decode cL_law 326 = .ok (.iaload, 1) := by decide +kernel
theorem dL_law_327 : decode cL_law 327 = .ok (.aload_n 0, 1) := by decide +kernel
theorem dL_law_328 : decode cL_law 328 = .ok (.iload 4, 2) := by decide +kernel
theorem dL_law_330 : decode cL_law 330 = .ok (.iconst 4, 1) := by decide +kernel
theorem dL_law_331 : decode cL_law 331 = .ok (.iadd, 1) := by decide +kernel
theorem dL_law_332 : decode cL_law 332 = .ok (.iaload, 1) := by decide +kernel
theorem dL_law_333 : decode cL_law 333 = .ok (.aload_n 0, 1) := by decide +kernel
theorem dL_law_334 : decode cL_law 334 = .ok (.iload 4, 2) := by decide +kernel
theorem dL_law_336 : decode cL_law 336 = .ok (.iconst 5, 1) := by decide +kernel
theorem dL_law_337 : decode cL_law 337 = .ok (.iadd, 1) := by decide +kernel
theorem dL_law_338 : decode cL_law 338 = .ok (.iaload, 1) := by decide +kernel
theorem dL_law_339 : decode cL_law 339 = .ok (.invokevirtual 42, 3) := by decide +kernel
theorem dL_law_342 : decode cL_law 342 = .ok (.if_icmp .eq 1377, 3) := by decide +kernel
theorem dL_law_345 : decode cL_law 345 = .ok (.iconst 0, 1) := by decide +kernel
theorem dL_law_346 : decode cL_law 346 = .ok (.ireturn, 1) := by decide +kernel
theorem dL_law_347 : decode cL_law 347 = .ok (.aload_n 1, 1) := by decide +kernel
theorem dL_law_348 : decode cL_law 348 = .ok (.aload_n 0, 1) := by decide +kernel
theorem dL_law_349 : decode cL_law 349 = .ok (.iload 4, 2) := by decide +kernel
theorem dL_law_351 : decode cL_law 351 = .ok (.iconst 1, 1) := by decide +kernel
theorem dL_law_352 : decode cL_law 352 = .ok (.iadd, 1) := by decide +kernel
theorem dL_law_353 : decode cL_law 353 = .ok (.iaload, 1) := by decide +kernel
theorem dL_law_354 : decode cL_law 354 = .ok (.aload_n 0, 1) := by decide +kernel
theorem dL_law_355 : decode cL_law 355 = .ok (.iload 4, 2) := by decide +kernel
theorem dL_law_357 : decode cL_law 357 = .ok (.iconst 2, 1) := by decide +kernel
theorem dL_law_358 : decode cL_law 358 = .ok (.iadd, 1) := by decide +kernel
theorem dL_law_359 : decode cL_law 359 = .ok (.iaload, 1) := by decide +kernel
theorem dL_law_360 : decode cL_law 360 = .ok (.aload_n 0, 1) := by decide +kernel
theorem dL_law_361 : decode cL_law 361 = .ok (.iload 4, 2) := by decide +kernel
theorem dL_law_363 : decode cL_law 363 = .ok (.iconst 3, 1) := by decide +kernel
theorem dL_law_364 : decode cL_law 364 = .ok (.iadd, 1) := by decide +kernel
theorem dL_law_365 : decode cL_law 365 = .ok (.iaload, 1) := by decide +kernel
theorem dL_law_366 : decode cL_law 366 = .ok (.aload_n 0, 1) := by decide +kernel
theorem dL_law_367 : decode cL_law 367 = .ok (.iload 4, 2) := by decide +kernel
theorem dL_law_369 : decode cL_law 369 = .ok (.iconst 4, 1) := by decide +kernel
theorem dL_law_370 : decode cL_law 370 = .ok (.iadd, 1) := by decide +kernel
theorem dL_law_371 : decode cL_law 371 = .ok (.iaload, 1) := by decide +kernel
theorem dL_law_372 : decode cL_law 372 = .ok (.invokevirtual 43, 3) := by decide +kernel
theorem dL_law_375 : decode cL_law 375 = .ok (.aload_n 2, 1) := by decide +kernel
theorem dL_law_376 : decode cL_law 376 = .ok (.aload_n 0, 1) := by decide +kernel
theorem dL_law_377 : decode cL_law 377 = .ok (.iload 4, 2) := by decide +kernel
theorem dL_law_379 : decode cL_law 379 = .ok (.iconst 1, 1) := by decide +kernel
theorem dL_law_380 : decode cL_law 380 = .ok (.iadd, 1) := by decide +kernel
theorem dL_law_381 : decode cL_law 381 = .ok (.iaload, 1) := by decide +kernel
theorem dL_law_382 : decode cL_law 382 = .ok (.aload_n 0, 1) := by decide +kernel
theorem dL_law_383 : decode cL_law 383 = .ok (.iload 4, 2) := by decide +kernel
theorem dL_law_385 : decode cL_law 385 = .ok (.iconst 2, 1) := by decide +kernel
theorem dL_law_386 : decode cL_law 386 = .ok (.iadd, 1) := by decide +kernel
theorem dL_law_387 : decode cL_law 387 = .ok (.iaload, 1) := by decide +kernel
theorem dL_law_388 : decode cL_law 388 = .ok (.aload_n 0, 1) := by decide +kernel
theorem dL_law_389 : decode cL_law 389 = .ok (.iload 4, 2) := by decide +kernel
theorem dL_law_391 : decode cL_law 391 = .ok (.iconst 3, 1) := by decide +kernel
theorem dL_law_392 : decode cL_law 392 = .ok (.iadd, 1) := by decide +kernel
theorem dL_law_393 : decode cL_law 393 = .ok (.iaload, 1) := by decide +kernel
theorem dL_law_394 : decode cL_law 394 = .ok (.aload_n 0, 1) := by decide +kernel
theorem dL_law_395 : decode cL_law 395 = .ok (.iload 4, 2) := by decide +kernel
theorem dL_law_397 : decode cL_law 397 = .ok (.iconst 4, 1) := by decide +kernel
theorem dL_law_398 : decode cL_law 398 = .ok (.iadd, 1) := by decide +kernel
theorem dL_law_399 : decode cL_law 399 = .ok (.iaload, 1) := by decide +kernel
theorem dL_law_400 : decode cL_law 400 = .ok (.invokevirtual 47, 3) := by decide +kernel
theorem dL_law_403 : decode cL_law 403 = .ok (.if_icmp .eq 1316, 3) := by decide +kernel
theorem dL_law_406 : decode cL_law 406 = .ok (.iconst 0, 1) := by decide +kernel
theorem dL_law_407 : decode cL_law 407 = .ok (.ireturn, 1) := by decide +kernel
theorem dL_law_408 : decode cL_law 408 = .ok (.aload_n 1, 1) := by decide +kernel
theorem dL_law_409 : decode cL_law 409 = .ok (.aload_n 0, 1) := by decide +kernel
theorem dL_law_410 : decode cL_law 410 = .ok (.iload 4, 2) := by decide +kernel
theorem dL_law_412 : decode cL_law 412 = .ok (.iconst 1, 1) := by decide +kernel
theorem dL_law_413 : decode cL_law 413 = .ok (.iadd, 1) := by decide +kernel
theorem dL_law_414 : decode cL_law 414 = .ok (.iaload, 1) := by decide +kernel
theorem dL_law_415 : decode cL_law 415 = .ok (.aload_n 0, 1) := by decide +kernel
theorem dL_law_416 : decode cL_law 416 = .ok (.iload 4, 2) := by decide +kernel
theorem dL_law_418 : decode cL_law 418 = .ok (.iconst 2, 1) := by decide +kernel
theorem dL_law_419 : decode cL_law 419 = .ok (.iadd, 1) := by decide +kernel
theorem dL_law_420 : decode cL_law 420 = .ok (.iaload, 1) := by decide +kernel
theorem dL_law_421 : decode cL_law 421 = .ok (.aload_n 0, 1) := by decide +kernel
theorem dL_law_422 : decode cL_law 422 = .ok (.iload 4, 2) := by decide +kernel
theorem dL_law_424 : decode cL_law 424 = .ok (.iconst 3, 1) := by decide +kernel
theorem dL_law_425 : decode cL_law 425 = .ok (.iadd, 1) := by decide +kernel
theorem dL_law_426 : decode cL_law 426 = .ok (.iaload, 1) := by decide +kernel
theorem dL_law_427 : decode cL_law 427 = .ok (.aload_n 0, 1) := by decide +kernel
theorem dL_law_428 : decode cL_law 428 = .ok (.iload 4, 2) := by decide +kernel
theorem dL_law_430 : decode cL_law 430 = .ok (.iconst 4, 1) := by decide +kernel
theorem dL_law_431 : decode cL_law 431 = .ok (.iadd, 1) := by decide +kernel
theorem dL_law_432 : decode cL_law 432 = .ok (.iaload, 1) := by decide +kernel
theorem dL_law_433 : decode cL_law 433 = .ok (.invokevirtual 48, 3) := by decide +kernel
theorem dL_law_436 : decode cL_law 436 = .ok (.aload_n 2, 1) := by decide +kernel
theorem dL_law_437 : decode cL_law 437 = .ok (.aload_n 0, 1) := by decide +kernel
theorem dL_law_438 : decode cL_law 438 = .ok (.iload 4, 2) := by decide +kernel
theorem dL_law_440 : decode cL_law 440 = .ok (.iconst 1, 1) := by decide +kernel
theorem dL_law_441 : decode cL_law 441 = .ok (.iadd, 1) := by decide +kernel
theorem dL_law_442 : decode cL_law 442 = .ok (.iaload, 1) := by decide +kernel
theorem dL_law_443 : decode cL_law 443 = .ok (.aload_n 0, 1) := by decide +kernel
theorem dL_law_444 : decode cL_law 444 = .ok (.iload 4, 2) := by decide +kernel
theorem dL_law_446 : decode cL_law 446 = .ok (.iconst 2, 1) := by decide +kernel
theorem dL_law_447 : decode cL_law 447 = .ok (.iadd, 1) := by decide +kernel
theorem dL_law_448 : decode cL_law 448 = .ok (.iaload, 1) := by decide +kernel
theorem dL_law_449 : decode cL_law 449 = .ok (.aload_n 0, 1) := by decide +kernel
theorem dL_law_450 : decode cL_law 450 = .ok (.iload 4, 2) := by decide +kernel
theorem dL_law_452 : decode cL_law 452 = .ok (.iconst 3, 1) := by decide +kernel
theorem dL_law_453 : decode cL_law 453 = .ok (.iadd, 1) := by decide +kernel
theorem dL_law_454 : decode cL_law 454 = .ok (.iaload, 1) := by decide +kernel
theorem dL_law_455 : decode cL_law 455 = .ok (.aload_n 0, 1) := by decide +kernel
theorem dL_law_456 : decode cL_law 456 = .ok (.iload 4, 2) := by decide +kernel
theorem dL_law_458 : decode cL_law 458 = .ok (.iconst 4, 1) := by decide +kernel
theorem dL_law_459 : decode cL_law 459 = .ok (.iadd, 1) := by decide +kernel
theorem dL_law_460 : decode cL_law 460 = .ok (.iaload, 1) := by decide +kernel
theorem dL_law_461 : decode cL_law 461 = .ok (.invokevirtual 51, 3) := by decide +kernel
theorem dL_law_464 : decode cL_law 464 = .ok (.if_icmp .eq 1255, 3) := by decide +kernel
theorem dL_law_467 : decode cL_law 467 = .ok (.iconst 0, 1) := by decide +kernel
theorem dL_law_468 : decode cL_law 468 = .ok (.ireturn, 1) := by decide +kernel
theorem dL_law_469 : decode cL_law 469 = .ok (.aload_n 1, 1) := by decide +kernel
theorem dL_law_470 : decode cL_law 470 = .ok (.aload_n 0, 1) := by decide +kernel
theorem dL_law_471 : decode cL_law 471 = .ok (.iload 4, 2) := by decide +kernel
theorem dL_law_473 : decode cL_law 473 = .ok (.iconst 1, 1) := by decide +kernel
theorem dL_law_474 : decode cL_law 474 = .ok (.iadd, 1) := by decide +kernel
theorem dL_law_475 : decode cL_law 475 = .ok (.iaload, 1) := by decide +kernel
theorem dL_law_476 : decode cL_law 476 = .ok (.invokevirtual 52, 3) := by decide +kernel
theorem dL_law_479 : decode cL_law 479 = .ok (.aload_n 2, 1) := by decide +kernel
theorem dL_law_480 : decode cL_law 480 = .ok (.aload_n 0, 1) := by decide +kernel
theorem dL_law_481 : decode cL_law 481 = .ok (.iload 4, 2) := by decide +kernel
theorem dL_law_483 : decode cL_law 483 = .ok (.iconst 1, 1) := by decide +kernel
theorem dL_law_484 : decode cL_law 484 = .ok (.iadd, 1) := by decide +kernel
theorem dL_law_485 : decode cL_law 485 = .ok (.iaload, 1) := by decide +kernel
theorem dL_law_486 : decode cL_law 486 = .ok (.invokevirtual 56, 3) := by decide +kernel
theorem dL_law_489 : decode cL_law 489 = .ok (.if_icmp .eq 1230, 3) := by decide +kernel
theorem dL_law_492 : decode cL_law 492 = .ok (.iconst 0, 1) := by decide +kernel
theorem dL_law_493 : decode cL_law 493 = .ok (.ireturn, 1) := by decide +kernel
theorem dL_law_494 : decode cL_law 494 = .ok (.aload_n 1, 1) := by decide +kernel
theorem dL_law_495 : decode cL_law 495 = .ok (.aload_n 0, 1) := by decide +kernel
theorem dL_law_496 : decode cL_law 496 = .ok (.iload 4, 2) := by decide +kernel
theorem dL_law_498 : decode cL_law 498 = .ok (.iconst 1, 1) := by decide +kernel
theorem dL_law_499 : decode cL_law 499 = .ok (.iadd, 1) := by decide +kernel
theorem dL_law_500 : decode cL_law 500 = .ok (.iaload, 1) := by decide +kernel
theorem dL_law_501 : decode cL_law 501 = .ok (.aload_n 0, 1) := by decide +kernel
theorem dL_law_502 : decode cL_law 502 = .ok (.iload 4, 2) := by decide +kernel
theorem dL_law_504 : decode cL_law 504 = .ok (.iconst 2, 1) := by decide +kernel
theorem dL_law_505 : decode cL_law 505 = .ok (.iadd, 1) := by decide +kernel
theorem dL_law_506 : decode cL_law 506 = .ok (.iaload, 1) := by decide +kernel
theorem dL_law_507 : decode cL_law 507 = .ok (.invokevirtual 57, 3) := by decide +kernel
theorem dL_law_510 : decode cL_law 510 = .ok (.aload_n 2, 1) := by decide +kernel
theorem dL_law_511 : decode cL_law 511 = .ok (.aload_n 0, 1) := by decide +kernel
theorem dL_law_512 : decode cL_law 512 = .ok (.iload 4, 2) := by decide +kernel
theorem dL_law_514 : decode cL_law 514 = .ok (.iconst 1, 1) := by decide +kernel
theorem dL_law_515 : decode cL_law 515 = .ok (.iadd, 1) := by decide +kernel
theorem dL_law_516 : decode cL_law 516 = .ok (.iaload, 1) := by decide +kernel
theorem dL_law_517 : decode cL_law 517 = .ok (.aload_n 0, 1) := by decide +kernel
theorem dL_law_518 : decode cL_law 518 = .ok (.iload 4, 2) := by decide +kernel
theorem dL_law_520 : decode cL_law 520 = .ok (.iconst 2, 1) := by decide +kernel
theorem dL_law_521 : decode cL_law 521 = .ok (.iadd, 1) := by decide +kernel
theorem dL_law_522 : decode cL_law 522 = .ok (.iaload, 1) := by decide +kernel
theorem dL_law_523 : decode cL_law 523 = .ok (.invokevirtual 60, 3) := by decide +kernel
theorem dL_law_526 : decode cL_law 526 = .ok (.if_icmp .eq 1193, 3) := by decide +kernel
theorem dL_law_529 : decode cL_law 529 = .ok (.iconst 0, 1) := by decide +kernel
theorem dL_law_530 : decode cL_law 530 = .ok (.ireturn, 1) := by decide +kernel
theorem dL_law_531 : decode cL_law 531 = .ok (.aload_n 1, 1) := by decide +kernel
theorem dL_law_532 : decode cL_law 532 = .ok (.aload_n 0, 1) := by decide +kernel
theorem dL_law_533 : decode cL_law 533 = .ok (.iload 4, 2) := by decide +kernel
theorem dL_law_535 : decode cL_law 535 = .ok (.iconst 1, 1) := by decide +kernel
theorem dL_law_536 : decode cL_law 536 = .ok (.iadd, 1) := by decide +kernel
theorem dL_law_537 : decode cL_law 537 = .ok (.iaload, 1) := by decide +kernel
theorem dL_law_538 : decode cL_law 538 = .ok (.aload_n 0, 1) := by decide +kernel
theorem dL_law_539 : decode cL_law 539 = .ok (.iload 4, 2) := by decide +kernel
theorem dL_law_541 : decode cL_law 541 = .ok (.iconst 2, 1) := by decide +kernel
theorem dL_law_542 : decode cL_law 542 = .ok (.iadd, 1) := by decide +kernel
theorem dL_law_543 : decode cL_law 543 = .ok (.iaload, 1) := by decide +kernel
theorem dL_law_544 : decode cL_law 544 = .ok (.aload_n 0, 1) := by decide +kernel
theorem dL_law_545 : decode cL_law 545 = .ok (.iload 4, 2) := by decide +kernel
theorem dL_law_547 : decode cL_law 547 = .ok (.iconst 3, 1) := by decide +kernel
theorem dL_law_548 : decode cL_law 548 = .ok (.iadd, 1) := by decide +kernel
theorem dL_law_549 : decode cL_law 549 = .ok (.iaload, 1) := by decide +kernel
theorem dL_law_550 : decode cL_law 550 = .ok (.aload_n 0, 1) := by decide +kernel
theorem dL_law_551 : decode cL_law 551 = .ok (.iload 4, 2) := by decide +kernel
theorem dL_law_553 : decode cL_law 553 = .ok (.iconst 4, 1) := by decide +kernel
theorem dL_law_554 : decode cL_law 554 = .ok (.iadd, 1) := by decide +kernel
theorem dL_law_555 : decode cL_law 555 = .ok (.iaload, 1) := by decide +kernel
theorem dL_law_556 : decode cL_law 556 = .ok (.invokevirtual 61, 3) := by decide +kernel
theorem dL_law_559 : decode cL_law 559 = .ok (.aload_n 2, 1) := by decide +kernel
theorem dL_law_560 : decode cL_law 560 = .ok (.aload_n 0, 1) := by decide +kernel
theorem dL_law_561 : decode cL_law 561 = .ok (.iload 4, 2) := by decide +kernel
theorem dL_law_563 : decode cL_law 563 = .ok (.iconst 1, 1) := by decide +kernel
theorem dL_law_564 : decode cL_law 564 = .ok (.iadd, 1) := by decide +kernel
theorem dL_law_565 : decode cL_law 565 = .ok (.iaload, 1) := by decide +kernel
theorem dL_law_566 : decode cL_law 566 = .ok (.aload_n 0, 1) := by decide +kernel
theorem dL_law_567 : decode cL_law 567 = .ok (.iload 4, 2) := by decide +kernel
theorem dL_law_569 : decode cL_law 569 = .ok (.iconst 2, 1) := by decide +kernel
theorem dL_law_570 : decode cL_law 570 = .ok (.iadd, 1) := by decide +kernel
theorem dL_law_571 : decode cL_law 571 = .ok (.iaload, 1) := by decide +kernel
theorem dL_law_572 : decode cL_law 572 = .ok (.aload_n 0, 1) := by decide +kernel
theorem dL_law_573 : decode cL_law 573 = .ok (.iload 4, 2) := by decide +kernel
theorem dL_law_575 : decode cL_law 575 = .ok (.iconst 3, 1) := by decide +kernel
theorem dL_law_576 : decode cL_law 576 = .ok (.iadd, 1) := by decide +kernel
theorem dL_law_577 : decode cL_law 577 = .ok (.iaload, 1) := by decide +kernel
theorem dL_law_578 : decode cL_law 578 = .ok (.aload_n 0, 1) := by decide +kernel
theorem dL_law_579 : decode cL_law 579 = .ok (.iload 4, 2) := by decide +kernel
theorem dL_law_581 : decode cL_law 581 = .ok (.iconst 4, 1) := by decide +kernel
theorem dL_law_582 : decode cL_law 582 = .ok (.iadd, 1) := by decide +kernel
theorem dL_law_583 : decode cL_law 583 = .ok (.iaload, 1) := by decide +kernel
theorem dL_law_584 : decode cL_law 584 = .ok (.invokevirtual 64, 3) := by decide +kernel
theorem dL_law_587 : decode cL_law 587 = .ok (.if_icmp .eq 1132, 3) := by decide +kernel
theorem dL_law_590 : decode cL_law 590 = .ok (.iconst 0, 1) := by decide +kernel
theorem dL_law_591 : decode cL_law 591 = .ok (.ireturn, 1) := by decide +kernel
theorem dL_law_592 : decode cL_law 592 = .ok (.aload_n 1, 1) := by decide +kernel
theorem dL_law_593 : decode cL_law 593 = .ok (.aload_n 0, 1) := by decide +kernel
theorem dL_law_594 : decode cL_law 594 = .ok (.iload 4, 2) := by decide +kernel
theorem dL_law_596 : decode cL_law 596 = .ok (.iconst 1, 1) := by decide +kernel
theorem dL_law_597 : decode cL_law 597 = .ok (.iadd, 1) := by decide +kernel
theorem dL_law_598 : decode cL_law 598 = .ok (.iaload, 1) := by decide +kernel
theorem dL_law_599 : decode cL_law 599 = .ok (.aload_n 0, 1) := by decide +kernel
theorem dL_law_600 : decode cL_law 600 = .ok (.iload 4, 2) := by decide +kernel
theorem dL_law_602 : decode cL_law 602 = .ok (.iconst 2, 1) := by decide +kernel
theorem dL_law_603 : decode cL_law 603 = .ok (.iadd, 1) := by decide +kernel
theorem dL_law_604 : decode cL_law 604 = .ok (.iaload, 1) := by decide +kernel
theorem dL_law_605 : decode cL_law 605 = .ok (.aload_n 0, 1) := by decide +kernel
theorem dL_law_606 : decode cL_law 606 = .ok (.iload 4, 2) := by decide +kernel
theorem dL_law_608 : decode cL_law 608 = .ok (.iconst 3, 1) := by decide +kernel
theorem dL_law_609 : decode cL_law 609 = .ok (.iadd, 1) := by decide +kernel
theorem dL_law_610 : decode cL_law 610 = .ok (.iaload, 1) := by decide +kernel
theorem dL_law_611 : decode cL_law 611 = .ok (.aload_n 0, 1) := by decide +kernel
theorem dL_law_612 : decode cL_law 612 = .ok (.iload 4, 2) := by decide +kernel
theorem dL_law_614 : decode cL_law 614 = .ok (.iconst 4, 1) := by decide +kernel
theorem dL_law_615 : decode cL_law 615 = .ok (.iadd, 1) := by decide +kernel
theorem dL_law_616 : decode cL_law 616 = .ok (.iaload, 1) := by decide +kernel
theorem dL_law_617 : decode cL_law 617 = .ok (.aload_n 0, 1) := by decide +kernel
theorem dL_law_618 : decode cL_law 618 = .ok (.iload 4, 2) := by decide +kernel
theorem dL_law_620 : decode cL_law 620 = .ok (.iconst 5, 1) := by decide +kernel
theorem dL_law_621 : decode cL_law 621 = .ok (.iadd, 1) := by decide +kernel
theorem dL_law_622 : decode cL_law 622 = .ok (.iaload, 1) := by decide +kernel
theorem dL_law_623 : decode cL_law 623 = .ok (.invokevirtual 65, 3) := by decide +kernel
theorem dL_law_626 : decode cL_law 626 = .ok (.aload_n 2, 1) := by decide +kernel
theorem dL_law_627 : decode cL_law 627 = .ok (.aload_n 0, 1) := by decide +kernel
theorem dL_law_628 : decode cL_law 628 = .ok (.iload 4, 2) := by decide +kernel
theorem dL_law_630 : decode cL_law 630 = .ok (.iconst 1, 1) := by decide +kernel
theorem dL_law_631 : decode cL_law 631 = .ok (.iadd, 1) := by decide +kernel
theorem dL_law_632 : decode cL_law 632 = .ok (.iaload, 1) := by decide +kernel
theorem dL_law_633 : decode cL_law 633 = .ok (.aload_n 0, 1) := by decide +kernel
theorem dL_law_634 : decode cL_law 634 = .ok (.iload 4, 2) := by decide +kernel
theorem dL_law_636 : decode cL_law 636 = .ok (.iconst 2, 1) := by decide +kernel
theorem dL_law_637 : decode cL_law 637 = .ok (.iadd, 1) := by decide +kernel
theorem dL_law_638 : decode cL_law 638 = .ok (.iaload, 1) := by decide +kernel
theorem dL_law_639 : decode cL_law 639 = .ok (.aload_n 0, 1) := by decide +kernel
theorem dL_law_640 : decode cL_law 640 = .ok (.iload 4, 2) := by decide +kernel
theorem dL_law_642 : decode cL_law 642 = .ok (.iconst 3, 1) := by decide +kernel
theorem dL_law_643 : decode cL_law 643 = .ok (.iadd, 1) := by decide +kernel
theorem dL_law_644 : decode cL_law 644 = .ok (.iaload, 1) := by decide +kernel
theorem dL_law_645 : decode cL_law 645 = .ok (.aload_n 0, 1) := by decide +kernel
theorem dL_law_646 : decode cL_law 646 = .ok (.iload 4, 2) := by decide +kernel
theorem dL_law_648 : decode cL_law 648 = .ok (.iconst 4, 1) := by decide +kernel
theorem dL_law_649 : decode cL_law 649 = .ok (.iadd, 1) := by decide +kernel
theorem dL_law_650 : decode cL_law 650 = .ok (.iaload, 1) := by decide +kernel
theorem dL_law_651 : decode cL_law 651 = .ok (.aload_n 0, 1) := by decide +kernel
theorem dL_law_652 : decode cL_law 652 = .ok (.iload 4, 2) := by decide +kernel
theorem dL_law_654 : decode cL_law 654 = .ok (.iconst 5, 1) := by decide +kernel
theorem dL_law_655 : decode cL_law 655 = .ok (.iadd, 1) := by decide +kernel
theorem dL_law_656 : decode cL_law 656 = .ok (.iaload, 1) := by decide +kernel
theorem dL_law_657 : decode cL_law 657 = .ok (.invokevirtual 68, 3) := by decide +kernel
theorem dL_law_660 : decode cL_law 660 = .ok (.if_icmp .eq 1059, 3) := by decide +kernel
theorem dL_law_663 : decode cL_law 663 = .ok (.iconst 0, 1) := by decide +kernel
theorem dL_law_664 : decode cL_law 664 = .ok (.ireturn, 1) := by decide +kernel
theorem dL_law_665 : decode cL_law 665 = .ok (.aload_n 1, 1) := by decide +kernel
theorem dL_law_666 : decode cL_law 666 = .ok (.aload_n 0, 1) := by decide +kernel
theorem dL_law_667 : decode cL_law 667 = .ok (.iload 4, 2) := by decide +kernel
theorem dL_law_669 : decode cL_law 669 = .ok (.iconst 1, 1) := by decide +kernel
theorem dL_law_670 : decode cL_law 670 = .ok (.iadd, 1) := by decide +kernel
theorem dL_law_671 : decode cL_law 671 = .ok (.iaload, 1) := by decide +kernel
theorem dL_law_672 : decode cL_law 672 = .ok (.invokevirtual 69, 3) := by decide +kernel
theorem dL_law_675 : decode cL_law 675 = .ok (.aload_n 2, 1) := by decide +kernel
theorem dL_law_676 : decode cL_law 676 = .ok (.aload_n 0, 1) := by decide +kernel
theorem dL_law_677 : decode cL_law 677 = .ok (.iload 4, 2) := by decide +kernel
theorem dL_law_679 : decode cL_law 679 = .ok (.iconst 1, 1) := by decide +kernel
theorem dL_law_680 : decode cL_law 680 = .ok (.iadd, 1) := by decide +kernel
theorem dL_law_681 : decode cL_law 681 = .ok (.iaload, 1) := by decide +kernel
theorem dL_law_682 : decode cL_law 682 = .ok (.invokevirtual 72, 3) := by decide +kernel
theorem dL_law_685 : decode cL_law 685 = .ok (.if_icmp .eq 1034, 3) := by decide +kernel
theorem dL_law_688 : decode cL_law 688 = .ok (.iconst 0, 1) := by decide +kernel
theorem dL_law_689 : decode cL_law 689 = .ok (.ireturn, 1) := by decide +kernel
theorem dL_law_690 : decode cL_law 690 = .ok (.aload_n 1, 1) := by decide +kernel
theorem dL_law_691 : decode cL_law 691 = .ok (.aload_n 0, 1) := by decide +kernel
theorem dL_law_692 : decode cL_law 692 = .ok (.iload 4, 2) := by decide +kernel
theorem dL_law_694 : decode cL_law 694 = .ok (.iconst 1, 1) := by decide +kernel
theorem dL_law_695 : decode cL_law 695 = .ok (.iadd, 1) := by decide +kernel
theorem dL_law_696 : decode cL_law 696 = .ok (.iaload, 1) := by decide +kernel
theorem dL_law_697 : decode cL_law 697 = .ok (.aload_n 0, 1) := by decide +kernel
theorem dL_law_698 : decode cL_law 698 = .ok (.iload 4, 2) := by decide +kernel
theorem dL_law_700 : decode cL_law 700 = .ok (.iconst 2, 1) := by decide +kernel
theorem dL_law_701 : decode cL_law 701 = .ok (.iadd, 1) := by decide +kernel
theorem dL_law_702 : decode cL_law 702 = .ok (.iaload, 1) := by decide +kernel
theorem dL_law_703 : decode cL_law 703 = .ok (.aload_n 3, 1) := by decide +kernel
theorem dL_law_704 : decode cL_law 704 = .ok (.invokestatic 73, 3) := by decide +kernel
theorem dL_law_707 : decode cL_law 707 = .ok (.istore 5, 2) := by decide +kernel
theorem dL_law_709 : decode cL_law 709 = .ok (.aload_n 2, 1) := by decide +kernel
theorem dL_law_710 : decode cL_law 710 = .ok (.aload_n 0, 1) := by decide +kernel
theorem dL_law_711 : decode cL_law 711 = .ok (.iload 4, 2) := by decide +kernel
theorem dL_law_713 : decode cL_law 713 = .ok (.iconst 1, 1) := by decide +kernel
theorem dL_law_714 : decode cL_law 714 = .ok (.iadd, 1) := by decide +kernel
theorem dL_law_715 : decode cL_law 715 = .ok (.iaload, 1) := by decide +kernel
theorem dL_law_716 : decode cL_law 716 = .ok (.aload_n 0, 1) := by decide +kernel
theorem dL_law_717 : decode cL_law 717 = .ok (.iload 4, 2) := by decide +kernel
theorem dL_law_719 : decode cL_law 719 = .ok (.iconst 2, 1) := by decide +kernel
theorem dL_law_720 : decode cL_law 720 = .ok (.iadd, 1) := by decide +kernel
theorem dL_law_721 : decode cL_law 721 = .ok (.iaload, 1) := by decide +kernel
theorem dL_law_722 : decode cL_law 722 = .ok (.invokevirtual 78, 3) := by decide +kernel
theorem dL_law_725 : decode cL_law 725 = .ok (.istore 6, 2) := by decide +kernel
theorem dL_law_727 : decode cL_law 727 = .ok (.aload_n 2, 1) := by decide +kernel
theorem dL_law_728 : decode cL_law 728 = .ok (.invokevirtual 79, 3) := by decide +kernel
theorem dL_law_731 : decode cL_law 731 = .ok (.iload 5, 2) := by decide +kernel
theorem dL_law_733 : decode cL_law 733 = .ok (.if_icmp .eq 5, 3) := by decide +kernel
theorem dL_law_736 : decode cL_law 736 = .ok (.iconst 0, 1) := by decide +kernel
theorem dL_law_737 : decode cL_law 737 = .ok (.ireturn, 1) := by decide +kernel
theorem dL_law_738 : decode cL_law 738 = .ok (.iload 5, 2) := by decide +kernel
theorem dL_law_740 : decode cL_law 740 = .ok (.ifCond .ne 15, 3) := by decide +kernel
theorem dL_law_743 : decode cL_law 743 = .ok (.aload_n 3, 1) := by decide +kernel
theorem dL_law_744 : decode cL_law 744 = .ok (.iconst 0, 1) := by decide +kernel
theorem dL_law_745 : decode cL_law 745 = .ok (.laload, 1) := by decide +kernel
theorem dL_law_746 : decode cL_law 746 = .ok (.iload 6, 2) := by decide +kernel
theorem dL_law_748 : decode cL_law 748 = .ok (.i2l, 1) := by decide +kernel
theorem dL_law_749 : decode cL_law 749 = .ok (.lcmp, 1) := by decide +kernel
theorem dL_law_750 : decode cL_law 750 = .ok (.ifCond .eq 5, 3) := by decide +kernel
theorem dL_law_753 : decode cL_law 753 = .ok (.iconst 0, 1) := by decide +kernel
theorem dL_law_754 : decode cL_law 754 = .ok (.ireturn, 1) := by decide +kernel
theorem dL_law_755 : decode cL_law 755 = .ok (.goto 964, 3) := by decide +kernel
theorem dL_law_758 : decode cL_law 758 = .ok (.aload_n 1, 1) := by decide +kernel
theorem dL_law_759 : decode cL_law 759 = .ok (.aload_n 0, 1) := by decide +kernel
theorem dL_law_760 : decode cL_law 760 = .ok (.iload 4, 2) := by decide +kernel
theorem dL_law_762 : decode cL_law 762 = .ok (.iconst 1, 1) := by decide +kernel
theorem dL_law_763 : decode cL_law 763 = .ok (.iadd, 1) := by decide +kernel
theorem dL_law_764 : decode cL_law 764 = .ok (.iaload, 1) := by decide +kernel
theorem dL_law_765 : decode cL_law 765 = .ok (.aload_n 0, 1) := by decide +kernel
theorem dL_law_766 : decode cL_law 766 = .ok (.iload 4, 2) := by decide +kernel
theorem dL_law_768 : decode cL_law 768 = .ok (.iconst 2, 1) := by decide +kernel
theorem dL_law_769 : decode cL_law 769 = .ok (.iadd, 1) := by decide +kernel
theorem dL_law_770 : decode cL_law 770 = .ok (.iaload, 1) := by decide +kernel
theorem dL_law_771 : decode cL_law 771 = .ok (.aload_n 0, 1) := by decide +kernel
theorem dL_law_772 : decode cL_law 772 = .ok (.iload 4, 2) := by decide +kernel
theorem dL_law_774 : decode cL_law 774 = .ok (.iconst 3, 1) := by decide +kernel
theorem dL_law_775 : decode cL_law 775 = .ok (.iadd, 1) := by decide +kernel
theorem dL_law_776 : decode cL_law 776 = .ok (.iaload, 1) := by decide +kernel
theorem dL_law_777 : decode cL_law 777 = .ok (.invokevirtual 82, 3) := by decide +kernel
theorem dL_law_780 : decode cL_law 780 = .ok (.aload_n 2, 1) := by decide +kernel
theorem dL_law_781 : decode cL_law 781 = .ok (.aload_n 0, 1) := by decide +kernel
theorem dL_law_782 : decode cL_law 782 = .ok (.iload 4, 2) := by decide +kernel
theorem dL_law_784 : decode cL_law 784 = .ok (.iconst 1, 1) := by decide +kernel
theorem dL_law_785 : decode cL_law 785 = .ok (.iadd, 1) := by decide +kernel
theorem dL_law_786 : decode cL_law 786 = .ok (.iaload, 1) := by decide +kernel
theorem dL_law_787 : decode cL_law 787 = .ok (.aload_n 0, 1) := by decide +kernel
theorem dL_law_788 : decode cL_law 788 = .ok (.iload 4, 2) := by decide +kernel
theorem dL_law_790 : decode cL_law 790 = .ok (.iconst 2, 1) := by decide +kernel
theorem dL_law_791 : decode cL_law 791 = .ok (.iadd, 1) := by decide +kernel
theorem dL_law_792 : decode cL_law 792 = .ok (.iaload, 1) := by decide +kernel
theorem dL_law_793 : decode cL_law 793 = .ok (.aload_n 0, 1) := by decide +kernel
theorem dL_law_794 : decode cL_law 794 = .ok (.iload 4, 2) := by decide +kernel
theorem dL_law_796 : decode cL_law 796 = .ok (.iconst 3, 1) := by decide +kernel
theorem dL_law_797 : decode cL_law 797 = .ok (.iadd, 1) := by decide +kernel
theorem dL_law_798 : decode cL_law 798 = .ok (.iaload, 1) := by decide +kernel
theorem dL_law_799 : decode cL_law 799 = .ok (.invokevirtual 85, 3) := by decide +kernel
theorem dL_law_802 : decode cL_law 802 = .ok (.if_icmp .eq 917, 3) := by decide +kernel
theorem dL_law_805 : decode cL_law 805 = .ok (.iconst 0, 1) := by decide +kernel
theorem dL_law_806 : decode cL_law 806 = .ok (.ireturn, 1) := by decide +kernel
theorem dL_law_807 : decode cL_law 807 = .ok (.aload_n 1, 1) := by decide +kernel
theorem dL_law_808 : decode cL_law 808 = .ok (.aload_n 0, 1) := by decide +kernel
theorem dL_law_809 : decode cL_law 809 = .ok (.iload 4, 2) := by decide +kernel
theorem dL_law_811 : decode cL_law 811 = .ok (.iconst 1, 1) := by decide +kernel
theorem dL_law_812 : decode cL_law 812 = .ok (.iadd, 1) := by decide +kernel
theorem dL_law_813 : decode cL_law 813 = .ok (.iaload, 1) := by decide +kernel
theorem dL_law_814 : decode cL_law 814 = .ok (.invokevirtual 86, 3) := by decide +kernel
theorem dL_law_817 : decode cL_law 817 = .ok (.aload_n 2, 1) := by decide +kernel
theorem dL_law_818 : decode cL_law 818 = .ok (.aload_n 0, 1) := by decide +kernel
theorem dL_law_819 : decode cL_law 819 = .ok (.iload 4, 2) := by decide +kernel
theorem dL_law_821 : decode cL_law 821 = .ok (.iconst 1, 1) := by decide +kernel
theorem dL_law_822 : decode cL_law 822 = .ok (.iadd, 1) := by decide +kernel
theorem dL_law_823 : decode cL_law 823 = .ok (.iaload, 1) := by decide +kernel
theorem dL_law_824 : decode cL_law 824 = .ok (.invokevirtual 89, 3) := by decide +kernel
theorem dL_law_827 : decode cL_law 827 = .ok (.if_icmp .eq 892, 3) := by decide +kernel
theorem dL_law_830 : decode cL_law 830 = .ok (.iconst 0, 1) := by decide +kernel
theorem dL_law_831 : decode cL_law 831 = .ok (.ireturn, 1) := by decide +kernel
theorem dL_law_832 : decode cL_law 832 = .ok (.aload_n 1, 1) := by decide +kernel
theorem dL_law_833 : decode cL_law 833 = .ok (.aload_n 0, 1) := by decide +kernel
theorem dL_law_834 : decode cL_law 834 = .ok (.iload 4, 2) := by decide +kernel
theorem dL_law_836 : decode cL_law 836 = .ok (.iconst 1, 1) := by decide +kernel
theorem dL_law_837 : decode cL_law 837 = .ok (.iadd, 1) := by decide +kernel
theorem dL_law_838 : decode cL_law 838 = .ok (.iaload, 1) := by decide +kernel
theorem dL_law_839 : decode cL_law 839 = .ok (.aload_n 0, 1) := by decide +kernel
theorem dL_law_840 : decode cL_law 840 = .ok (.iload 4, 2) := by decide +kernel
theorem dL_law_842 : decode cL_law 842 = .ok (.iconst 2, 1) := by decide +kernel
theorem dL_law_843 : decode cL_law 843 = .ok (.iadd, 1) := by decide +kernel
theorem dL_law_844 : decode cL_law 844 = .ok (.iaload, 1) := by decide +kernel
theorem dL_law_845 : decode cL_law 845 = .ok (.invokevirtual 90, 3) := by decide +kernel
theorem dL_law_848 : decode cL_law 848 = .ok (.aload_n 2, 1) := by decide +kernel
theorem dL_law_849 : decode cL_law 849 = .ok (.aload_n 0, 1) := by decide +kernel
theorem dL_law_850 : decode cL_law 850 = .ok (.iload 4, 2) := by decide +kernel
theorem dL_law_852 : decode cL_law 852 = .ok (.iconst 1, 1) := by decide +kernel
theorem dL_law_853 : decode cL_law 853 = .ok (.iadd, 1) := by decide +kernel
theorem dL_law_854 : decode cL_law 854 = .ok (.iaload, 1) := by decide +kernel
theorem dL_law_855 : decode cL_law 855 = .ok (.aload_n 0, 1) := by decide +kernel
theorem dL_law_856 : decode cL_law 856 = .ok (.iload 4, 2) := by decide +kernel
theorem dL_law_858 : decode cL_law 858 = .ok (.iconst 2, 1) := by decide +kernel
theorem dL_law_859 : decode cL_law 859 = .ok (.iadd, 1) := by decide +kernel
theorem dL_law_860 : decode cL_law 860 = .ok (.iaload, 1) := by decide +kernel
theorem dL_law_861 : decode cL_law 861 = .ok (.invokevirtual 93, 3) := by decide +kernel
theorem dL_law_864 : decode cL_law 864 = .ok (.if_icmp .eq 855, 3) := by decide +kernel
theorem dL_law_867 : decode cL_law 867 = .ok (.iconst 0, 1) := by decide +kernel
theorem dL_law_868 : decode cL_law 868 = .ok (.ireturn, 1) := by decide +kernel
theorem dL_law_869 : decode cL_law 869 = .ok (.aload_n 1, 1) := by decide +kernel
theorem dL_law_870 : decode cL_law 870 = .ok (.aload_n 0, 1) := by decide +kernel
theorem dL_law_871 : decode cL_law 871 = .ok (.iload 4, 2) := by decide +kernel
theorem dL_law_873 : decode cL_law 873 = .ok (.iconst 1, 1) := by decide +kernel
theorem dL_law_874 : decode cL_law 874 = .ok (.iadd, 1) := by decide +kernel
theorem dL_law_875 : decode cL_law 875 = .ok (.iaload, 1) := by decide +kernel
theorem dL_law_876 : decode cL_law 876 = .ok (.aload_n 0, 1) := by decide +kernel
theorem dL_law_877 : decode cL_law 877 = .ok (.iload 4, 2) := by decide +kernel
theorem dL_law_879 : decode cL_law 879 = .ok (.iconst 2, 1) := by decide +kernel
theorem dL_law_880 : decode cL_law 880 = .ok (.iadd, 1) := by decide +kernel
theorem dL_law_881 : decode cL_law 881 = .ok (.iaload, 1) := by decide +kernel
theorem dL_law_882 : decode cL_law 882 = .ok (.invokevirtual 94, 3) := by decide +kernel
theorem dL_law_885 : decode cL_law 885 = .ok (.aload_n 2, 1) := by decide +kernel
theorem dL_law_886 : decode cL_law 886 = .ok (.aload_n 0, 1) := by decide +kernel
theorem dL_law_887 : decode cL_law 887 = .ok (.iload 4, 2) := by decide +kernel
theorem dL_law_889 : decode cL_law 889 = .ok (.iconst 1, 1) := by decide +kernel
theorem dL_law_890 : decode cL_law 890 = .ok (.iadd, 1) := by decide +kernel
theorem dL_law_891 : decode cL_law 891 = .ok (.iaload, 1) := by decide +kernel
theorem dL_law_892 : decode cL_law 892 = .ok (.aload_n 0, 1) := by decide +kernel
theorem dL_law_893 : decode cL_law 893 = .ok (.iload 4, 2) := by decide +kernel
theorem dL_law_895 : decode cL_law 895 = .ok (.iconst 2, 1) := by decide +kernel
theorem dL_law_896 : decode cL_law 896 = .ok (.iadd, 1) := by decide +kernel
theorem dL_law_897 : decode cL_law 897 = .ok (.iaload, 1) := by decide +kernel
theorem dL_law_898 : decode cL_law 898 = .ok (.invokevirtual 97, 3) := by decide +kernel
theorem dL_law_901 : decode cL_law 901 = .ok (.if_icmp .eq 818, 3) := by decide +kernel
theorem dL_law_904 : decode cL_law 904 = .ok (.iconst 0, 1) := by decide +kernel
theorem dL_law_905 : decode cL_law 905 = .ok (.ireturn, 1) := by decide +kernel
theorem dL_law_906 : decode cL_law 906 = .ok (.aload_n 1, 1) := by decide +kernel
theorem dL_law_907 : decode cL_law 907 = .ok (.aload_n 0, 1) := by decide +kernel
theorem dL_law_908 : decode cL_law 908 = .ok (.iload 4, 2) := by decide +kernel
theorem dL_law_910 : decode cL_law 910 = .ok (.iconst 1, 1) := by decide +kernel
theorem dL_law_911 : decode cL_law 911 = .ok (.iadd, 1) := by decide +kernel
theorem dL_law_912 : decode cL_law 912 = .ok (.iaload, 1) := by decide +kernel
theorem dL_law_913 : decode cL_law 913 = .ok (.aload_n 0, 1) := by decide +kernel
theorem dL_law_914 : decode cL_law 914 = .ok (.iload 4, 2) := by decide +kernel
theorem dL_law_916 : decode cL_law 916 = .ok (.iconst 2, 1) := by decide +kernel
theorem dL_law_917 : decode cL_law 917 = .ok (.iadd, 1) := by decide +kernel
theorem dL_law_918 : decode cL_law 918 = .ok (.iaload, 1) := by decide +kernel
theorem dL_law_919 : decode cL_law 919 = .ok (.aload_n 0, 1) := by decide +kernel
theorem dL_law_920 : decode cL_law 920 = .ok (.iload 4, 2) := by decide +kernel
theorem dL_law_922 : decode cL_law 922 = .ok (.iconst 3, 1) := by decide +kernel
theorem dL_law_923 : decode cL_law 923 = .ok (.iadd, 1) := by decide +kernel
theorem dL_law_924 : decode cL_law 924 = .ok (.iaload, 1) := by decide +kernel
theorem dL_law_925 : decode cL_law 925 = .ok (.invokevirtual 98, 3) := by decide +kernel
theorem dL_law_928 : decode cL_law 928 = .ok (.aload_n 2, 1) := by decide +kernel
theorem dL_law_929 : decode cL_law 929 = .ok (.aload_n 0, 1) := by decide +kernel
theorem dL_law_930 : decode cL_law 930 = .ok (.iload 4, 2) := by decide +kernel
theorem dL_law_932 : decode cL_law 932 = .ok (.iconst 1, 1) := by decide +kernel
theorem dL_law_933 : decode cL_law 933 = .ok (.iadd, 1) := by decide +kernel
theorem dL_law_934 : decode cL_law 934 = .ok (.iaload, 1) := by decide +kernel
theorem dL_law_935 : decode cL_law 935 = .ok (.aload_n 0, 1) := by decide +kernel
theorem dL_law_936 : decode cL_law 936 = .ok (.iload 4, 2) := by decide +kernel
theorem dL_law_938 : decode cL_law 938 = .ok (.iconst 2, 1) := by decide +kernel
theorem dL_law_939 : decode cL_law 939 = .ok (.iadd, 1) := by decide +kernel
theorem dL_law_940 : decode cL_law 940 = .ok (.iaload, 1) := by decide +kernel
theorem dL_law_941 : decode cL_law 941 = .ok (.aload_n 0, 1) := by decide +kernel
theorem dL_law_942 : decode cL_law 942 = .ok (.iload 4, 2) := by decide +kernel
theorem dL_law_944 : decode cL_law 944 = .ok (.iconst 3, 1) := by decide +kernel
theorem dL_law_945 : decode cL_law 945 = .ok (.iadd, 1) := by decide +kernel
theorem dL_law_946 : decode cL_law 946 = .ok (.iaload, 1) := by decide +kernel
theorem dL_law_947 : decode cL_law 947 = .ok (.invokevirtual 101, 3) := by decide +kernel
theorem dL_law_950 : decode cL_law 950 = .ok (.if_icmp .eq 769, 3) := by decide +kernel
theorem dL_law_953 : decode cL_law 953 = .ok (.iconst 0, 1) := by decide +kernel
theorem dL_law_954 : decode cL_law 954 = .ok (.ireturn, 1) := by decide +kernel
theorem dL_law_955 : decode cL_law 955 = .ok (.aload_n 1, 1) := by decide +kernel
theorem dL_law_956 : decode cL_law 956 = .ok (.aload_n 0, 1) := by decide +kernel
theorem dL_law_957 : decode cL_law 957 = .ok (.iload 4, 2) := by decide +kernel
theorem dL_law_959 : decode cL_law 959 = .ok (.iconst 1, 1) := by decide +kernel
theorem dL_law_960 : decode cL_law 960 = .ok (.iadd, 1) := by decide +kernel
theorem dL_law_961 : decode cL_law 961 = .ok (.iaload, 1) := by decide +kernel
theorem dL_law_962 : decode cL_law 962 = .ok (.invokevirtual 102, 3) := by decide +kernel
theorem dL_law_965 : decode cL_law 965 = .ok (.aload_n 2, 1) := by decide +kernel
theorem dL_law_966 : decode cL_law 966 = .ok (.aload_n 0, 1) := by decide +kernel
theorem dL_law_967 : decode cL_law 967 = .ok (.iload 4, 2) := by decide +kernel
theorem dL_law_969 : decode cL_law 969 = .ok (.iconst 1, 1) := by decide +kernel
theorem dL_law_970 : decode cL_law 970 = .ok (.iadd, 1) := by decide +kernel
theorem dL_law_971 : decode cL_law 971 = .ok (.iaload, 1) := by decide +kernel
theorem dL_law_972 : decode cL_law 972 = .ok (.invokevirtual 105, 3) := by decide +kernel
theorem dL_law_975 : decode cL_law 975 = .ok (.if_icmp .eq 744, 3) := by decide +kernel
theorem dL_law_978 : decode cL_law 978 = .ok (.iconst 0, 1) := by decide +kernel
theorem dL_law_979 : decode cL_law 979 = .ok (.ireturn, 1) := by decide +kernel
theorem dL_law_980 : decode cL_law 980 = .ok (.aload_n 1, 1) := by decide +kernel
theorem dL_law_981 : decode cL_law 981 = .ok (.aload_n 0, 1) := by decide +kernel
theorem dL_law_982 : decode cL_law 982 = .ok (.iload 4, 2) := by decide +kernel
theorem dL_law_984 : decode cL_law 984 = .ok (.iconst 1, 1) := by decide +kernel
theorem dL_law_985 : decode cL_law 985 = .ok (.iadd, 1) := by decide +kernel
theorem dL_law_986 : decode cL_law 986 = .ok (.iaload, 1) := by decide +kernel
theorem dL_law_987 : decode cL_law 987 = .ok (.invokevirtual 106, 3) := by decide +kernel
theorem dL_law_990 : decode cL_law 990 = .ok (.aload_n 2, 1) := by decide +kernel
theorem dL_law_991 : decode cL_law 991 = .ok (.aload_n 0, 1) := by decide +kernel
theorem dL_law_992 : decode cL_law 992 = .ok (.iload 4, 2) := by decide +kernel
theorem dL_law_994 : decode cL_law 994 = .ok (.iconst 1, 1) := by decide +kernel
theorem dL_law_995 : decode cL_law 995 = .ok (.iadd, 1) := by decide +kernel
theorem dL_law_996 : decode cL_law 996 = .ok (.iaload, 1) := by decide +kernel
theorem dL_law_997 : decode cL_law 997 = .ok (.invokevirtual 109, 3) := by decide +kernel
theorem dL_law_1000 : decode cL_law 1000 = .ok (.if_icmp .eq 719, 3) := by decide +kernel
theorem dL_law_1003 : decode cL_law 1003 = .ok (.iconst 0, 1) := by decide +kernel
theorem dL_law_1004 : decode cL_law 1004 = .ok (.ireturn, 1) := by decide +kernel
theorem dL_law_1005 : decode cL_law 1005 = .ok (.aload_n 1, 1) := by decide +kernel
theorem dL_law_1006 : decode cL_law 1006 = .ok (.invokevirtual 110, 3) := by decide +kernel
theorem dL_law_1009 : decode cL_law 1009 = .ok (.aload_n 2, 1) := by decide +kernel
theorem dL_law_1010 : decode cL_law 1010 = .ok (.invokevirtual 113, 3) := by decide +kernel
theorem dL_law_1013 : decode cL_law 1013 = .ok (.if_icmp .eq 706, 3) := by decide +kernel
theorem dL_law_1016 : decode cL_law 1016 = .ok (.iconst 0, 1) := by decide +kernel
theorem dL_law_1017 : decode cL_law 1017 = .ok (.ireturn, 1) := by decide +kernel
theorem dL_law_1018 : decode cL_law 1018 = .ok (.aload_n 1, 1) := by decide +kernel
theorem dL_law_1019 : decode cL_law 1019 = .ok (.aload_n 0, 1) := by decide +kernel
theorem dL_law_1020 : decode cL_law 1020 = .ok (.iload 4, 2) := by decide +kernel
theorem dL_law_1022 : decode cL_law 1022 = .ok (.iconst 1, 1) := by decide +kernel
theorem dL_law_1023 : decode cL_law 1023 = .ok (.iadd, 1) := by decide +kernel
theorem dL_law_1024 : decode cL_law 1024 = .ok (.iaload, 1) := by decide +kernel
theorem dL_law_1025 : decode cL_law 1025 = .ok (.aload_n 0, 1) := by decide +kernel
theorem dL_law_1026 : decode cL_law 1026 = .ok (.iload 4, 2) := by decide +kernel
theorem dL_law_1028 : decode cL_law 1028 = .ok (.iconst 2, 1) := by decide +kernel
theorem dL_law_1029 : decode cL_law 1029 = .ok (.iadd, 1) := by decide +kernel
theorem dL_law_1030 : decode cL_law 1030 = .ok (.iaload, 1) := by decide +kernel
theorem dL_law_1031 : decode cL_law 1031 = .ok (.invokevirtual 114, 3) := by decide +kernel
theorem dL_law_1034 : decode cL_law 1034 = .ok (.aload_n 2, 1) := by decide +kernel
theorem dL_law_1035 : decode cL_law 1035 = .ok (.aload_n 0, 1) := by decide +kernel
theorem dL_law_1036 : decode cL_law 1036 = .ok (.iload 4, 2) := by decide +kernel
theorem dL_law_1038 : decode cL_law 1038 = .ok (.iconst 1, 1) := by decide +kernel
theorem dL_law_1039 : decode cL_law 1039 = .ok (.iadd, 1) := by decide +kernel
theorem dL_law_1040 : decode cL_law 1040 = .ok (.iaload, 1) := by decide +kernel
theorem dL_law_1041 : decode cL_law 1041 = .ok (.aload_n 0, 1) := by decide +kernel
theorem dL_law_1042 : decode cL_law 1042 = .ok (.iload 4, 2) := by decide +kernel
theorem dL_law_1044 : decode cL_law 1044 = .ok (.iconst 2, 1) := by decide +kernel
theorem dL_law_1045 : decode cL_law 1045 = .ok (.iadd, 1) := by decide +kernel
theorem dL_law_1046 : decode cL_law 1046 = .ok (.iaload, 1) := by decide +kernel
theorem dL_law_1047 : decode cL_law 1047 = .ok (.invokevirtual 117, 3) := by decide +kernel
theorem dL_law_1050 : decode cL_law 1050 = .ok (.if_icmp .eq 669, 3) := by decide +kernel
theorem dL_law_1053 : decode cL_law 1053 = .ok (.iconst 0, 1) := by decide +kernel
theorem dL_law_1054 : decode cL_law 1054 = .ok (.ireturn, 1) := by decide +kernel
theorem dL_law_1055 : decode cL_law 1055 = .ok (.aload_n 1, 1) := by decide +kernel
theorem dL_law_1056 : decode cL_law 1056 = .ok (.aload_n 0, 1) := by decide +kernel
theorem dL_law_1057 : decode cL_law 1057 = .ok (.iload 4, 2) := by decide +kernel
theorem dL_law_1059 : decode cL_law 1059 = .ok (.iconst 1, 1) := by decide +kernel
theorem dL_law_1060 : decode cL_law 1060 = .ok (.iadd, 1) := by decide +kernel
theorem dL_law_1061 : decode cL_law 1061 = .ok (.iaload, 1) := by decide +kernel
theorem dL_law_1062 : decode cL_law 1062 = .ok (.invokevirtual 118, 3) := by decide +kernel
theorem dL_law_1065 : decode cL_law 1065 = .ok (.aload_n 2, 1) := by decide +kernel
theorem dL_law_1066 : decode cL_law 1066 = .ok (.aload_n 0, 1) := by decide +kernel
theorem dL_law_1067 : decode cL_law 1067 = .ok (.iload 4, 2) := by decide +kernel
theorem dL_law_1069 : decode cL_law 1069 = .ok (.iconst 1, 1) := by decide +kernel
theorem dL_law_1070 : decode cL_law 1070 = .ok (.iadd, 1) := by decide +kernel
theorem dL_law_1071 : decode cL_law 1071 = .ok (.iaload, 1) := by decide +kernel
theorem dL_law_1072 : decode cL_law 1072 = .ok (.invokevirtual 121, 3) := by decide +kernel
theorem dL_law_1075 : decode cL_law 1075 = .ok (.if_icmp .eq 644, 3) := by decide +kernel
theorem dL_law_1078 : decode cL_law 1078 = .ok (.iconst 0, 1) := by decide +kernel
theorem dL_law_1079 : decode cL_law 1079 = .ok (.ireturn, 1) := by decide +kernel
theorem dL_law_1080 : decode cL_law 1080 = .ok (.aload_n 1, 1) := by decide +kernel
theorem dL_law_1081 : decode cL_law 1081 = .ok (.aload_n 0, 1) := by decide +kernel
theorem dL_law_1082 : decode cL_law 1082 = .ok (.iload 4, 2) := by decide +kernel
theorem dL_law_1084 : decode cL_law 1084 = .ok (.iconst 1, 1) := by decide +kernel
theorem dL_law_1085 : decode cL_law 1085 = .ok (.iadd, 1) := by decide +kernel
theorem dL_law_1086 : decode cL_law 1086 = .ok (.iaload, 1) := by decide +kernel
theorem dL_law_1087 : decode cL_law 1087 = .ok (.invokevirtual 122, 3) := by decide +kernel
theorem dL_law_1090 : decode cL_law 1090 = .ok (.aload_n 2, 1) := by decide +kernel
theorem dL_law_1091 : decode cL_law 1091 = .ok (.aload_n 0, 1) := by decide +kernel
theorem dL_law_1092 : decode cL_law 1092 = .ok (.iload 4, 2) := by decide +kernel
theorem dL_law_1094 : decode cL_law 1094 = .ok (.iconst 1, 1) := by decide +kernel
theorem dL_law_1095 : decode cL_law 1095 = .ok (.iadd, 1) := by decide +kernel
theorem dL_law_1096 : decode cL_law 1096 = .ok (.iaload, 1) := by decide +kernel
theorem dL_law_1097 : decode cL_law 1097 = .ok (.invokevirtual 125, 3) := by decide +kernel
theorem dL_law_1100 : decode cL_law 1100 = .ok (.if_icmp .eq 619, 3) := by decide +kernel
theorem dL_law_1103 : decode cL_law 1103 = .ok (.iconst 0, 1) := by decide +kernel
theorem dL_law_1104 : decode cL_law 1104 = .ok (.ireturn, 1) := by decide +kernel
theorem dL_law_1105 : decode cL_law 1105 = .ok (.aload_n 1, 1) := by decide +kernel
theorem dL_law_1106 : decode cL_law 1106 = .ok (.aload_n 0, 1) := by decide +kernel
theorem dL_law_1107 : decode cL_law 1107 = .ok (.iload 4, 2) := by decide +kernel
theorem dL_law_1109 : decode cL_law 1109 = .ok (.iconst 1, 1) := by decide +kernel
theorem dL_law_1110 : decode cL_law 1110 = .ok (.iadd, 1) := by decide +kernel
theorem dL_law_1111 : decode cL_law 1111 = .ok (.iaload, 1) := by decide +kernel
theorem dL_law_1112 : decode cL_law 1112 = .ok (.aload_n 0, 1) := by decide +kernel
theorem dL_law_1113 : decode cL_law 1113 = .ok (.iload 4, 2) := by decide +kernel
theorem dL_law_1115 : decode cL_law 1115 = .ok (.iconst 2, 1) := by decide +kernel
theorem dL_law_1116 : decode cL_law 1116 = .ok (.iadd, 1) := by decide +kernel
theorem dL_law_1117 : decode cL_law 1117 = .ok (.iaload, 1) := by decide +kernel
theorem dL_law_1118 : decode cL_law 1118 = .ok (.aload_n 3, 1) := by decide +kernel
theorem dL_law_1119 : decode cL_law 1119 = .ok (.invokestatic 126, 3) := by decide +kernel
theorem dL_law_1122 : decode cL_law 1122 = .ok (.istore 5, 2) := by decide +kernel
theorem dL_law_1124 : decode cL_law 1124 = .ok (.aload_n 2, 1) := by decide +kernel
theorem dL_law_1125 : decode cL_law 1125 = .ok (.aload_n 0, 1) := by decide +kernel
theorem dL_law_1126 : decode cL_law 1126 = .ok (.iload 4, 2) := by decide +kernel
theorem dL_law_1128 : decode cL_law 1128 = .ok (.iconst 1, 1) := by decide +kernel
theorem dL_law_1129 : decode cL_law 1129 = .ok (.iadd, 1) := by decide +kernel
theorem dL_law_1130 : decode cL_law 1130 = .ok (.iaload, 1) := by decide +kernel
theorem dL_law_1131 : decode cL_law 1131 = .ok (.aload_n 0, 1) := by decide +kernel
theorem dL_law_1132 : decode cL_law 1132 = .ok (.iload 4, 2) := by decide +kernel
theorem dL_law_1134 : decode cL_law 1134 = .ok (.iconst 2, 1) := by decide +kernel
theorem dL_law_1135 : decode cL_law 1135 = .ok (.iadd, 1) := by decide +kernel
theorem dL_law_1136 : decode cL_law 1136 = .ok (.iaload, 1) := by decide +kernel
theorem dL_law_1137 : decode cL_law 1137 = .ok (.invokevirtual 128, 3) := by decide +kernel
theorem dL_law_1140 : decode cL_law 1140 = .ok (.istore 6, 2) := by decide +kernel
theorem dL_law_1142 : decode cL_law 1142 = .ok (.aload_n 2, 1) := by decide +kernel
theorem dL_law_1143 : decode cL_law 1143 = .ok (.invokevirtual 79, 3) := by decide +kernel
theorem dL_law_1146 : decode cL_law 1146 = .ok (.iload 5, 2) := by decide +kernel
theorem dL_law_1148 : decode cL_law 1148 = .ok (.if_icmp .eq 5, 3) := by decide +kernel
theorem dL_law_1151 : decode cL_law 1151 = .ok (.iconst 0, 1) := by decide +kernel
theorem dL_law_1152 : decode cL_law 1152 = .ok (.ireturn, 1) := by decide +kernel
theorem dL_law_1153 : decode cL_law 1153 = .ok (.iload 5, 2) := by decide +kernel
theorem dL_law_1155 : decode cL_law 1155 = .ok (.ifCond .ne 15, 3) := by decide +kernel
theorem dL_law_1158 : decode cL_law 1158 = .ok (.aload_n 3, 1) := by decide +kernel
theorem dL_law_1159 : decode cL_law 1159 = .ok (.iconst 0, 1) := by decide +kernel
theorem dL_law_1160 : decode cL_law 1160 = .ok (.laload, 1) := by decide +kernel
theorem dL_law_1161 : decode cL_law 1161 = .ok (.iload 6, 2) := by decide +kernel
theorem dL_law_1163 : decode cL_law 1163 = .ok (.i2l, 1) := by decide +kernel
theorem dL_law_1164 : decode cL_law 1164 = .ok (.lcmp, 1) := by decide +kernel
theorem dL_law_1165 : decode cL_law 1165 = .ok (.ifCond .eq 5, 3) := by decide +kernel
theorem dL_law_1168 : decode cL_law 1168 = .ok (.iconst 0, 1) := by decide +kernel
theorem dL_law_1169 : decode cL_law 1169 = .ok (.ireturn, 1) := by decide +kernel
theorem dL_law_1170 : decode cL_law 1170 = .ok (.goto 549, 3) := by decide +kernel
theorem dL_law_1173 : decode cL_law 1173 = .ok (.aload_n 1, 1) := by decide +kernel
theorem dL_law_1174 : decode cL_law 1174 = .ok (.aload_n 0, 1) := by decide +kernel
theorem dL_law_1175 : decode cL_law 1175 = .ok (.iload 4, 2) := by decide +kernel
theorem dL_law_1177 : decode cL_law 1177 = .ok (.iconst 1, 1) := by decide +kernel
theorem dL_law_1178 : decode cL_law 1178 = .ok (.iadd, 1) := by decide +kernel
theorem dL_law_1179 : decode cL_law 1179 = .ok (.iaload, 1) := by decide +kernel
theorem dL_law_1180 : decode cL_law 1180 = .ok (.invokevirtual 129, 3) := by decide +kernel
theorem dL_law_1183 : decode cL_law 1183 = .ok (.aload_n 2, 1) := by decide +kernel
theorem dL_law_1184 : decode cL_law 1184 = .ok (.aload_n 0, 1) := by decide +kernel
theorem dL_law_1185 : decode cL_law 1185 = .ok (.iload 4, 2) := by decide +kernel
theorem dL_law_1187 : decode cL_law 1187 = .ok (.iconst 1, 1) := by decide +kernel
theorem dL_law_1188 : decode cL_law 1188 = .ok (.iadd, 1) := by decide +kernel
theorem dL_law_1189 : decode cL_law 1189 = .ok (.iaload, 1) := by decide +kernel
theorem dL_law_1190 : decode cL_law 1190 = .ok (.invokevirtual 132, 3) := by decide +kernel
theorem dL_law_1193 : decode cL_law 1193 = .ok (.if_icmp .eq 526, 3) := by decide +kernel
theorem dL_law_1196 : decode cL_law 1196 = .ok (.iconst 0, 1) := by decide +kernel
theorem dL_law_1197 : decode cL_law 1197 = .ok (.ireturn, 1) := by decide +kernel
theorem dL_law_1198 : decode cL_law 1198 = .ok (.aload_n 1, 1) := by decide +kernel
theorem dL_law_1199 : decode cL_law 1199 = .ok (.aload_n 0, 1) := by decide +kernel
theorem dL_law_1200 : decode cL_law 1200 = .ok (.iload 4, 2) := by decide +kernel
theorem dL_law_1202 : decode cL_law 1202 = .ok (.iconst 1, 1) := by decide +kernel
theorem dL_law_1203 : decode cL_law 1203 = .ok (.iadd, 1) := by decide +kernel
theorem dL_law_1204 : decode cL_law 1204 = .ok (.iaload, 1) := by decide +kernel
theorem dL_law_1205 : decode cL_law 1205 = .ok (.invokevirtual 133, 3) := by decide +kernel
theorem dL_law_1208 : decode cL_law 1208 = .ok (.aload_n 2, 1) := by decide +kernel
theorem dL_law_1209 : decode cL_law 1209 = .ok (.aload_n 0, 1) := by decide +kernel
theorem dL_law_1210 : decode cL_law 1210 = .ok (.iload 4, 2) := by decide +kernel
theorem dL_law_1212 : decode cL_law 1212 = .ok (.iconst 1, 1) := by decide +kernel
theorem dL_law_1213 : decode cL_law 1213 = .ok (.iadd, 1) := by decide +kernel
theorem dL_law_1214 : decode cL_law 1214 = .ok (.iaload, 1) := by decide +kernel
theorem dL_law_1215 : decode cL_law 1215 = .ok (.invokevirtual 136, 3) := by decide +kernel
theorem dL_law_1218 : decode cL_law 1218 = .ok (.if_icmp .eq 501, 3) := by decide +kernel
theorem dL_law_1221 : decode cL_law 1221 = .ok (.iconst 0, 1) := by decide +kernel
theorem dL_law_1222 : decode cL_law 1222 = .ok (.ireturn, 1) := by decide +kernel
theorem dL_law_1223 : decode cL_law 1223 = .ok (.aload_n 1, 1) := by decide +kernel
theorem dL_law_1224 : decode cL_law 1224 = .ok (.aload_n 0, 1) := by decide +kernel
theorem dL_law_1225 : decode cL_law 1225 = .ok (.iload 4, 2) := by decide +kernel
theorem dL_law_1227 : decode cL_law 1227 = .ok (.iconst 1, 1) := by decide +kernel
theorem dL_law_1228 : decode cL_law 1228 = .ok (.iadd, 1) := by decide +kernel
theorem dL_law_1229 : decode cL_law 1229 = .ok (.iaload, 1) := by decide +kernel
theorem dL_law_1230 : decode cL_law 1230 = .ok (.aload_n 0, 1) := by decide +kernel
theorem dL_law_1231 : decode cL_law 1231 = .ok (.iload 4, 2) := by decide +kernel
theorem dL_law_1233 : decode cL_law 1233 = .ok (.iconst 2, 1) := by decide +kernel
theorem dL_law_1234 : decode cL_law 1234 = .ok (.iadd, 1) := by decide +kernel
theorem dL_law_1235 : decode cL_law 1235 = .ok (.iaload, 1) := by decide +kernel
theorem dL_law_1236 : decode cL_law 1236 = .ok (.invokevirtual 137, 3) := by decide +kernel
theorem dL_law_1239 : decode cL_law 1239 = .ok (.aload_n 2, 1) := by decide +kernel
theorem dL_law_1240 : decode cL_law 1240 = .ok (.aload_n 0, 1) := by decide +kernel
theorem dL_law_1241 : decode cL_law 1241 = .ok (.iload 4, 2) := by decide +kernel
theorem dL_law_1243 : decode cL_law 1243 = .ok (.iconst 1, 1) := by decide +kernel
theorem dL_law_1244 : decode cL_law 1244 = .ok (.iadd, 1) := by decide +kernel
theorem dL_law_1245 : decode cL_law 1245 = .ok (.iaload, 1) := by decide +kernel
theorem dL_law_1246 : decode cL_law 1246 = .ok (.aload_n 0, 1) := by decide +kernel
theorem dL_law_1247 : decode cL_law 1247 = .ok (.iload 4, 2) := by decide +kernel
theorem dL_law_1249 : decode cL_law 1249 = .ok (.iconst 2, 1) := by decide +kernel
theorem dL_law_1250 : decode cL_law 1250 = .ok (.iadd, 1) := by decide +kernel
theorem dL_law_1251 : decode cL_law 1251 = .ok (.iaload, 1) := by decide +kernel
theorem dL_law_1252 : decode cL_law 1252 = .ok (.invokevirtual 140, 3) := by decide +kernel
theorem dL_law_1255 : decode cL_law 1255 = .ok (.if_icmp .eq 464, 3) := by decide +kernel
theorem dL_law_1258 : decode cL_law 1258 = .ok (.iconst 0, 1) := by decide +kernel
theorem dL_law_1259 : decode cL_law 1259 = .ok (.ireturn, 1) := by decide +kernel
theorem dL_law_1260 : decode cL_law 1260 = .ok (.aload_n 1, 1) := by decide +kernel
theorem dL_law_1261 : decode cL_law 1261 = .ok (.invokevirtual 141, 3) := by decide +kernel
theorem dL_law_1264 : decode cL_law 1264 = .ok (.aload_n 2, 1) := by decide +kernel
theorem dL_law_1265 : decode cL_law 1265 = .ok (.invokevirtual 144, 3) := by decide +kernel
theorem dL_law_1268 : decode cL_law 1268 = .ok (.if_icmp .eq 451, 3) := by decide +kernel
theorem dL_law_1271 : decode cL_law 1271 = .ok (.iconst 0, 1) := by decide +kernel
theorem dL_law_1272 : decode cL_law 1272 = .ok (.ireturn, 1) := by decide +kernel
theorem dL_law_1273 : decode cL_law 1273 = .ok (.aload_n 1, 1) := by decide +kernel
theorem dL_law_1274 : decode cL_law 1274 = .ok (.invokevirtual 145, 3) := by decide +kernel
theorem dL_law_1277 : decode cL_law 1277 = .ok (.aload_n 2, 1) := by decide +kernel
theorem dL_law_1278 : decode cL_law 1278 = .ok (.invokevirtual 148, 3) := by decide +kernel
theorem dL_law_1281 : decode cL_law 1281 = .ok (.if_icmp .eq 438, 3) := by decide +kernel
theorem dL_law_1284 : decode cL_law 1284 = .ok (.iconst 0, 1) := by decide +kernel
theorem dL_law_1285 : decode cL_law 1285 = .ok (.ireturn, 1) := by decide +kernel
theorem dL_law_1286 : decode cL_law 1286 = .ok (.aload_n 1, 1) := by decide +kernel
theorem dL_law_1287 : decode cL_law 1287 = .ok (.aload_n 0, 1) := by decide +kernel
theorem dL_law_1288 : decode cL_law 1288 = .ok (.iload 4, 2) := by decide +kernel
theorem dL_law_1290 : decode cL_law 1290 = .ok (.iconst 1, 1) := by decide +kernel
theorem dL_law_1291 : decode cL_law 1291 = .ok (.iadd, 1) := by decide +kernel
theorem dL_law_1292 : decode cL_law 1292 = .ok (.iaload, 1) := by decide +kernel
theorem dL_law_1293 : decode cL_law 1293 = .ok (.invokevirtual 149, 3) := by decide +kernel
theorem dL_law_1296 : decode cL_law 1296 = .ok (.aload_n 2, 1) := by decide +kernel
theorem dL_law_1297 : decode cL_law 1297 = .ok (.aload_n 0, 1) := by decide +kernel
theorem dL_law_1298 : decode cL_law 1298 = .ok (.iload 4, 2) := by decide +kernel
theorem dL_law_1300 : decode cL_law 1300 = .ok (.iconst 1, 1) := by decide +kernel
theorem dL_law_1301 : decode cL_law 1301 = .ok (.iadd, 1) := by decide +kernel
theorem dL_law_1302 : decode cL_law 1302 = .ok (.iaload, 1) := by decide +kernel
theorem dL_law_1303 : decode cL_law 1303 = .ok (.invokevirtual 152, 3) := by decide +kernel
theorem dL_law_1306 : decode cL_law 1306 = .ok (.if_icmp .eq 413, 3) := by decide +kernel
theorem dL_law_1309 : decode cL_law 1309 = .ok (.iconst 0, 1) := by decide +kernel
theorem dL_law_1310 : decode cL_law 1310 = .ok (.ireturn, 1) := by decide +kernel
theorem dL_law_1311 : decode cL_law 1311 = .ok (.aload_n 1, 1) := by decide +kernel
theorem dL_law_1312 : decode cL_law 1312 = .ok (.invokevirtual 153, 3) := by decide +kernel
theorem dL_law_1315 : decode cL_law 1315 = .ok (.aload_n 2, 1) := by decide +kernel
theorem dL_law_1316 : decode cL_law 1316 = .ok (.invokevirtual 156, 3) := by decide +kernel
theorem dL_law_1319 : decode cL_law 1319 = .ok (.if_icmp .eq 400, 3) := by decide +kernel
theorem dL_law_1322 : decode cL_law 1322 = .ok (.iconst 0, 1) := by decide +kernel
theorem dL_law_1323 : decode cL_law 1323 = .ok (.ireturn, 1) := by decide +kernel
theorem dL_law_1324 : decode cL_law 1324 = .ok (.aload_n 1, 1) := by decide +kernel
theorem dL_law_1325 : decode cL_law 1325 = .ok (.aload_n 0, 1) := by decide +kernel
theorem dL_law_1326 : decode cL_law 1326 = .ok (.iload 4, 2) := by decide +kernel
theorem dL_law_1328 : decode cL_law 1328 = .ok (.iconst 1, 1) := by decide +kernel
theorem dL_law_1329 : decode cL_law 1329 = .ok (.iadd, 1) := by decide +kernel
theorem dL_law_1330 : decode cL_law 1330 = .ok (.iaload, 1) := by decide +kernel
theorem dL_law_1331 : decode cL_law 1331 = .ok (.aload_n 0, 1) := by decide +kernel
theorem dL_law_1332 : decode cL_law 1332 = .ok (.iload 4, 2) := by decide +kernel
theorem dL_law_1334 : decode cL_law 1334 = .ok (.iconst 2, 1) := by decide +kernel
theorem dL_law_1335 : decode cL_law 1335 = .ok (.iadd, 1) := by decide +kernel
theorem dL_law_1336 : decode cL_law 1336 = .ok (.iaload, 1) := by decide +kernel
theorem dL_law_1337 : decode cL_law 1337 = .ok (.aload_n 0, 1) := by decide +kernel
theorem dL_law_1338 : decode cL_law 1338 = .ok (.iload 4, 2) := by decide +kernel
theorem dL_law_1340 : decode cL_law 1340 = .ok (.iconst 3, 1) := by decide +kernel
theorem dL_law_1341 : decode cL_law 1341 = .ok (.iadd, 1) := by decide +kernel
theorem dL_law_1342 : decode cL_law 1342 = .ok (.iaload, 1) := by decide +kernel
theorem dL_law_1343 : decode cL_law 1343 = .ok (.invokevirtual 157, 3) := by decide +kernel
theorem dL_law_1346 : decode cL_law 1346 = .ok (.aload_n 2, 1) := by decide +kernel
theorem dL_law_1347 : decode cL_law 1347 = .ok (.aload_n 0, 1) := by decide +kernel
theorem dL_law_1348 : decode cL_law 1348 = .ok (.iload 4, 2) := by decide +kernel
theorem dL_law_1350 : decode cL_law 1350 = .ok (.iconst 1, 1) := by decide +kernel
theorem dL_law_1351 : decode cL_law 1351 = .ok (.iadd, 1) := by decide +kernel
theorem dL_law_1352 : decode cL_law 1352 = .ok (.iaload, 1) := by decide +kernel
theorem dL_law_1353 : decode cL_law 1353 = .ok (.aload_n 0, 1) := by decide +kernel
theorem dL_law_1354 : decode cL_law 1354 = .ok (.iload 4, 2) := by decide +kernel
theorem dL_law_1356 : decode cL_law 1356 = .ok (.iconst 2, 1) := by decide +kernel
theorem dL_law_1357 : decode cL_law 1357 = .ok (.iadd, 1) := by decide +kernel
theorem dL_law_1358 : decode cL_law 1358 = .ok (.iaload, 1) := by decide +kernel
theorem dL_law_1359 : decode cL_law 1359 = .ok (.aload_n 0, 1) := by decide +kernel
theorem dL_law_1360 : decode cL_law 1360 = .ok (.iload 4, 2) := by decide +kernel
theorem dL_law_1362 : decode cL_law 1362 = .ok (.iconst 3, 1) := by decide +kernel
theorem dL_law_1363 : decode cL_law 1363 = .ok (.iadd, 1) := by decide +kernel
theorem dL_law_1364 : decode cL_law 1364 = .ok (.iaload, 1) := by decide +kernel
theorem dL_law_1365 : decode cL_law 1365 = .ok (.invokevirtual 160, 3) := by decide +kernel
theorem dL_law_1368 : decode cL_law 1368 = .ok (.if_icmp .eq 351, 3) := by decide +kernel
theorem dL_law_1371 : decode cL_law 1371 = .ok (.iconst 0, 1) := by decide +kernel
theorem dL_law_1372 : decode cL_law 1372 = .ok (.ireturn, 1) := by decide +kernel
theorem dL_law_1373 : decode cL_law 1373 = .ok (.aload_n 1, 1) := by decide +kernel
theorem dL_law_1374 : decode cL_law 1374 = .ok (.aload_n 0, 1) := by decide +kernel
theorem dL_law_1375 : decode cL_law 1375 = .ok (.iload 4, 2) := by decide +kernel
theorem dL_law_1377 : decode cL_law 1377 = .ok (.iconst 1, 1) := by decide +kernel
theorem dL_law_1378 : decode cL_law 1378 = .ok (.iadd, 1) := by decide +kernel
theorem dL_law_1379 : decode cL_law 1379 = .ok (.iaload, 1) := by decide +kernel
theorem dL_law_1380 : decode cL_law 1380 = .ok (.invokevirtual 161, 3) := by decide +kernel
theorem dL_law_1383 : decode cL_law 1383 = .ok (.aload_n 2, 1) := by decide +kernel
theorem dL_law_1384 : decode cL_law 1384 = .ok (.aload_n 0, 1) := by decide +kernel
theorem dL_law_1385 : decode cL_law 1385 = .ok (.iload 4, 2) := by decide +kernel
theorem dL_law_1387 : decode cL_law 1387 = .ok (.iconst 1, 1) := by decide +kernel
theorem dL_law_1388 : decode cL_law 1388 = .ok (.iadd, 1) := by decide +kernel
theorem dL_law_1389 : decode cL_law 1389 = .ok (.iaload, 1) := by decide +kernel
theorem dL_law_1390 : decode cL_law 1390 = .ok (.invokevirtual 164, 3) := by decide +kernel
theorem dL_law_1393 : decode cL_law 1393 = .ok (.if_icmp .eq 326, 3) := by decide +kernel
theorem dL_law_1396 : decode cL_law 1396 = .ok (.iconst 0, 1) := by decide +kernel
theorem dL_law_1397 : decode cL_law 1397 = .ok (.ireturn, 1) := by decide +kernel
theorem dL_law_1398 : decode cL_law 1398 = .ok (.aload_n 1, 1) := by decide +kernel
theorem dL_law_1399 : decode cL_law 1399 = .ok (.aload_n 0, 1) := by decide +kernel
theorem dL_law_1400 : decode cL_law 1400 = .ok (.iload 4, 2) := by decide +kernel
theorem dL_law_1402 : decode cL_law 1402 = .ok (.iconst 1, 1) := by decide +kernel
theorem dL_law_1403 : decode cL_law 1403 = .ok (.iadd, 1) := by decide +kernel
theorem dL_law_1404 : decode cL_law 1404 = .ok (.iaload, 1) := by decide +kernel
theorem dL_law_1405 : decode cL_law 1405 = .ok (.invokevirtual 165, 3) := by decide +kernel
theorem dL_law_1408 : decode cL_law 1408 = .ok (.aload_n 2, 1) := by decide +kernel
theorem dL_law_1409 : decode cL_law 1409 = .ok (.aload_n 0, 1) := by decide +kernel
theorem dL_law_1410 : decode cL_law 1410 = .ok (.iload 4, 2) := by decide +kernel
theorem dL_law_1412 : decode cL_law 1412 = .ok (.iconst 1, 1) := by decide +kernel
theorem dL_law_1413 : decode cL_law 1413 = .ok (.iadd, 1) := by decide +kernel
theorem dL_law_1414 : decode cL_law 1414 = .ok (.iaload, 1) := by decide +kernel
theorem dL_law_1415 : decode cL_law 1415 = .ok (.invokevirtual 168, 3) := by decide +kernel
theorem dL_law_1418 : decode cL_law 1418 = .ok (.if_icmp .eq 301, 3) := by decide +kernel
theorem dL_law_1421 : decode cL_law 1421 = .ok (.iconst 0, 1) := by decide +kernel
theorem dL_law_1422 : decode cL_law 1422 = .ok (.ireturn, 1) := by decide +kernel
theorem dL_law_1423 : decode cL_law 1423 = .ok (.aload_n 1, 1) := by decide +kernel
theorem dL_law_1424 : decode cL_law 1424 = .ok (.aload_n 0, 1) := by decide +kernel
theorem dL_law_1425 : decode cL_law 1425 = .ok (.iload 4, 2) := by decide +kernel
theorem dL_law_1427 : decode cL_law 1427 = .ok (.iconst 1, 1) := by decide +kernel
theorem dL_law_1428 : decode cL_law 1428 = .ok (.iadd, 1) := by decide +kernel
theorem dL_law_1429 : decode cL_law 1429 = .ok (.iaload, 1) := by decide +kernel
theorem dL_law_1430 : decode cL_law 1430 = .ok (.invokevirtual 169, 3) := by decide +kernel
theorem dL_law_1433 : decode cL_law 1433 = .ok (.aload_n 2, 1) := by decide +kernel
theorem dL_law_1434 : decode cL_law 1434 = .ok (.aload_n 0, 1) := by decide +kernel
theorem dL_law_1435 : decode cL_law 1435 = .ok (.iload 4, 2) := by decide +kernel
theorem dL_law_1437 : decode cL_law 1437 = .ok (.iconst 1, 1) := by decide +kernel
theorem dL_law_1438 : decode cL_law 1438 = .ok (.iadd, 1) := by decide +kernel
theorem dL_law_1439 : decode cL_law 1439 = .ok (.iaload, 1) := by decide +kernel
theorem dL_law_1440 : decode cL_law 1440 = .ok (.invokevirtual 172, 3) := by decide +kernel
theorem dL_law_1443 : decode cL_law 1443 = .ok (.if_icmp .eq 276, 3) := by decide +kernel
theorem dL_law_1446 : decode cL_law 1446 = .ok (.iconst 0, 1) := by decide +kernel
theorem dL_law_1447 : decode cL_law 1447 = .ok (.ireturn, 1) := by decide +kernel
theorem dL_law_1448 : decode cL_law 1448 = .ok (.aload_n 1, 1) := by decide +kernel
theorem dL_law_1449 : decode cL_law 1449 = .ok (.aload_n 0, 1) := by decide +kernel
theorem dL_law_1450 : decode cL_law 1450 = .ok (.iload 4, 2) := by decide +kernel
theorem dL_law_1452 : decode cL_law 1452 = .ok (.iconst 1, 1) := by decide +kernel
theorem dL_law_1453 : decode cL_law 1453 = .ok (.iadd, 1) := by decide +kernel
theorem dL_law_1454 : decode cL_law 1454 = .ok (.iaload, 1) := by decide +kernel
theorem dL_law_1455 : decode cL_law 1455 = .ok (.invokevirtual 173, 3) := by decide +kernel
theorem dL_law_1458 : decode cL_law 1458 = .ok (.aload_n 2, 1) := by decide +kernel
theorem dL_law_1459 : decode cL_law 1459 = .ok (.aload_n 0, 1) := by decide +kernel
theorem dL_law_1460 : decode cL_law 1460 = .ok (.iload 4, 2) := by decide +kernel
theorem dL_law_1462 : decode cL_law 1462 = .ok (.iconst 1, 1) := by decide +kernel
theorem dL_law_1463 : decode cL_law 1463 = .ok (.iadd, 1) := by decide +kernel
theorem dL_law_1464 : decode cL_law 1464 = .ok (.iaload, 1) := by decide +kernel
theorem dL_law_1465 : decode cL_law 1465 = .ok (.invokevirtual 176, 3) := by decide +kernel
theorem dL_law_1468 : decode cL_law 1468 = .ok (.if_icmp .eq 251, 3) := by decide +kernel
theorem dL_law_1471 : decode cL_law 1471 = .ok (.iconst 0, 1) := by decide +kernel
theorem dL_law_1472 : decode cL_law 1472 = .ok (.ireturn, 1) := by decide +kernel
theorem dL_law_1473 : decode cL_law 1473 = .ok (.aload_n 1, 1) := by decide +kernel
theorem dL_law_1474 : decode cL_law 1474 = .ok (.aload_n 0, 1) := by decide +kernel
theorem dL_law_1475 : decode cL_law 1475 = .ok (.iload 4, 2) := by decide +kernel
theorem dL_law_1477 : decode cL_law 1477 = .ok (.iconst 1, 1) := by decide +kernel
theorem dL_law_1478 : decode cL_law 1478 = .ok (.iadd, 1) := by decide +kernel
theorem dL_law_1479 : decode cL_law 1479 = .ok (.iaload, 1) := by decide +kernel
theorem dL_law_1480 : decode cL_law 1480 = .ok (.aload_n 0, 1) := by decide +kernel
theorem dL_law_1481 : decode cL_law 1481 = .ok (.iload 4, 2) := by decide +kernel
theorem dL_law_1483 : decode cL_law 1483 = .ok (.iconst 2, 1) := by decide +kernel
theorem dL_law_1484 : decode cL_law 1484 = .ok (.iadd, 1) := by decide +kernel
theorem dL_law_1485 : decode cL_law 1485 = .ok (.iaload, 1) := by decide +kernel
theorem dL_law_1486 : decode cL_law 1486 = .ok (.aload_n 0, 1) := by decide +kernel
theorem dL_law_1487 : decode cL_law 1487 = .ok (.iload 4, 2) := by decide +kernel
theorem dL_law_1489 : decode cL_law 1489 = .ok (.iconst 3, 1) := by decide +kernel
theorem dL_law_1490 : decode cL_law 1490 = .ok (.iadd, 1) := by decide +kernel
theorem dL_law_1491 : decode cL_law 1491 = .ok (.iaload, 1) := by decide +kernel
theorem dL_law_1492 : decode cL_law 1492 = .ok (.i2l, 1) := by decide +kernel
theorem dL_law_1493 : decode cL_law 1493 = .ok (.bipush 32, 2) := by decide +kernel
theorem dL_law_1495 : decode cL_law 1495 = .ok (.lshl, 1) := by decide +kernel
theorem dL_law_1496 : decode cL_law 1496 = .ok (.aload_n 0, 1) := by decide +kernel
theorem dL_law_1497 : decode cL_law 1497 = .ok (.iload 4, 2) := by decide +kernel
theorem dL_law_1499 : decode cL_law 1499 = .ok (.iconst 4, 1) := by decide +kernel
theorem dL_law_1500 : decode cL_law 1500 = .ok (.iadd, 1) := by decide +kernel
theorem dL_law_1501 : decode cL_law 1501 = .ok (.iaload, 1) := by decide +kernel
theorem dL_law_1502 : decode cL_law 1502 = .ok (.i2l, 1) := by decide +kernel
theorem dL_law_1503 : decode cL_law 1503 = .ok (.ldc2_w 177, 3) := by decide +kernel
theorem dL_law_1506 : decode cL_law 1506 = .ok (.land, 1) := by decide +kernel
theorem dL_law_1507 : decode cL_law 1507 = .ok (.lor, 1) := by decide +kernel
theorem dL_law_1508 : decode cL_law 1508 = .ok (.invokevirtual 179, 3) := by decide +kernel
theorem dL_law_1511 : decode cL_law 1511 = .ok (.aload_n 2, 1) := by decide +kernel
theorem dL_law_1512 : decode cL_law 1512 = .ok (.aload_n 0, 1) := by decide +kernel
theorem dL_law_1513 : decode cL_law 1513 = .ok (.iload 4, 2) := by decide +kernel
theorem dL_law_1515 : decode cL_law 1515 = .ok (.iconst 1, 1) := by decide +kernel
theorem dL_law_1516 : decode cL_law 1516 = .ok (.iadd, 1) := by decide +kernel
theorem dL_law_1517 : decode cL_law 1517 = .ok (.iaload, 1) := by decide +kernel
theorem dL_law_1518 : decode cL_law 1518 = .ok (.aload_n 0, 1) := by decide +kernel
theorem dL_law_1519 : decode cL_law 1519 = .ok (.iload 4, 2) := by decide +kernel
theorem dL_law_1521 : decode cL_law 1521 = .ok (.iconst 2, 1) := by decide +kernel
theorem dL_law_1522 : decode cL_law 1522 = .ok (.iadd, 1) := by decide +kernel
theorem dL_law_1523 : decode cL_law 1523 = .ok (.iaload, 1) := by decide +kernel
theorem dL_law_1524 : decode cL_law 1524 = .ok (.aload_n 0, 1) := by decide +kernel
theorem dL_law_1525 : decode cL_law 1525 = .ok (.iload 4, 2) := by decide +kernel
theorem dL_law_1527 : decode cL_law 1527 = .ok (.iconst 3, 1) := by decide +kernel
theorem dL_law_1528 : decode cL_law 1528 = .ok (.iadd, 1) := by decide +kernel
theorem dL_law_1529 : decode cL_law 1529 = .ok (.iaload, 1) := by decide +kernel
theorem dL_law_1530 : decode cL_law 1530 = .ok (.i2l, 1) := by decide +kernel
theorem dL_law_1531 : decode cL_law 1531 = .ok (.bipush 32, 2) := by decide +kernel
theorem dL_law_1533 : decode cL_law 1533 = .ok (.lshl, 1) := by decide +kernel
theorem dL_law_1534 : decode cL_law 1534 = .ok (.aload_n 0, 1) := by decide +kernel
theorem dL_law_1535 : decode cL_law 1535 = .ok (.iload 4, 2) := by decide +kernel
theorem dL_law_1537 : decode cL_law 1537 = .ok (.iconst 4, 1) := by decide +kernel
theorem dL_law_1538 : decode cL_law 1538 = .ok (.iadd, 1) := by decide +kernel
theorem dL_law_1539 : decode cL_law 1539 = .ok (.iaload, 1) := by decide +kernel
theorem dL_law_1540 : decode cL_law 1540 = .ok (.i2l, 1) := by decide +kernel
theorem dL_law_1541 : decode cL_law 1541 = .ok (.ldc2_w 177, 3) := by decide +kernel
theorem dL_law_1544 : decode cL_law 1544 = .ok (.land, 1) := by decide +kernel
theorem dL_law_1545 : decode cL_law 1545 = .ok (.lor, 1) := by decide +kernel
theorem dL_law_1546 : decode cL_law 1546 = .ok (.invokevirtual 183, 3) := by decide +kernel
theorem dL_law_1549 : decode cL_law 1549 = .ok (.if_icmp .eq 170, 3) := by decide +kernel
theorem dL_law_1552 : decode cL_law 1552 = .ok (.iconst 0, 1) := by decide +kernel
theorem dL_law_1553 : decode cL_law 1553 = .ok (.ireturn, 1) := by decide +kernel
theorem dL_law_1554 : decode cL_law 1554 = .ok (.aload_n 1, 1) := by decide +kernel
theorem dL_law_1555 : decode cL_law 1555 = .ok (.aload_n 0, 1) := by decide +kernel
theorem dL_law_1556 : decode cL_law 1556 = .ok (.iload 4, 2) := by decide +kernel
theorem dL_law_1558 : decode cL_law 1558 = .ok (.iconst 1, 1) := by decide +kernel
theorem dL_law_1559 : decode cL_law 1559 = .ok (.iadd, 1) := by decide +kernel
theorem dL_law_1560 : decode cL_law 1560 = .ok (.iaload, 1) := by decide +kernel
theorem dL_law_1561 : decode cL_law 1561 = .ok (.aload_n 0, 1) := by decide +kernel
theorem dL_law_1562 : decode cL_law 1562 = .ok (.iload 4, 2) := by decide +kernel
theorem dL_law_1564 : decode cL_law 1564 = .ok (.iconst 2, 1) := by decide +kernel
theorem dL_law_1565 : decode cL_law 1565 = .ok (.iadd, 1) := by decide +kernel
theorem dL_law_1566 : decode cL_law 1566 = .ok (.iaload, 1) := by decide +kernel
theorem dL_law_1567 : decode cL_law 1567 = .ok (.aload_n 3, 1) := by decide +kernel
theorem dL_law_1568 : decode cL_law 1568 = .ok (.invokestatic 184, 3) := by decide +kernel
theorem dL_law_1571 : decode cL_law 1571 = .ok (.istore 5, 2) := by decide +kernel
theorem dL_law_1573 : decode cL_law 1573 = .ok (.aload_n 2, 1) := by decide +kernel
theorem dL_law_1574 : decode cL_law 1574 = .ok (.aload_n 0, 1) := by decide +kernel
theorem dL_law_1575 : decode cL_law 1575 = .ok (.iload 4, 2) := by decide +kernel
theorem dL_law_1577 : decode cL_law 1577 = .ok (.iconst 1, 1) := by decide +kernel
theorem dL_law_1578 : decode cL_law 1578 = .ok (.iadd, 1) := by decide +kernel
theorem dL_law_1579 : decode cL_law 1579 = .ok (.iaload, 1) := by decide +kernel
theorem dL_law_1580 : decode cL_law 1580 = .ok (.aload_n 0, 1) := by decide +kernel
theorem dL_law_1581 : decode cL_law 1581 = .ok (.iload 4, 2) := by decide +kernel
theorem dL_law_1583 : decode cL_law 1583 = .ok (.iconst 2, 1) := by decide +kernel
theorem dL_law_1584 : decode cL_law 1584 = .ok (.iadd, 1) := by decide +kernel
theorem dL_law_1585 : decode cL_law 1585 = .ok (.iaload, 1) := by decide +kernel
theorem dL_law_1586 : decode cL_law 1586 = .ok (.invokevirtual 186, 3) := by decide +kernel
theorem dL_law_1589 : decode cL_law 1589 = .ok (.lstore 6, 2) := by decide +kernel
theorem dL_law_1591 : decode cL_law 1591 = .ok (.aload_n 2, 1) := by decide +kernel
theorem dL_law_1592 : decode cL_law 1592 = .ok (.invokevirtual 79, 3) := by decide +kernel
theorem dL_law_1595 : decode cL_law 1595 = .ok (.iload 5, 2) := by decide +kernel
theorem dL_law_1597 : decode cL_law 1597 = .ok (.if_icmp .eq 5, 3) := by decide +kernel
theorem dL_law_1600 : decode cL_law 1600 = .ok (.iconst 0, 1) := by decide +kernel
theorem dL_law_1601 : decode cL_law 1601 = .ok (.ireturn, 1) := by decide +kernel
theorem dL_law_1602 : decode cL_law 1602 = .ok (.iload 5, 2) := by decide +kernel
theorem dL_law_1604 : decode cL_law 1604 = .ok (.ifCond .ne 14, 3) := by decide +kernel
theorem dL_law_1607 : decode cL_law 1607 = .ok (.aload_n 3, 1) := by decide +kernel
theorem dL_law_1608 : decode cL_law 1608 = .ok (.iconst 0, 1) := by decide +kernel
theorem dL_law_1609 : decode cL_law 1609 = .ok (.laload, 1) := by decide +kernel
theorem dL_law_1610 : decode cL_law 1610 = .ok (.lload 6, 2) := by decide +kernel
theorem dL_law_1612 : decode cL_law 1612 = .ok (.lcmp, 1) := by decide +kernel
theorem dL_law_1613 : decode cL_law 1613 = .ok (.ifCond .eq 5, 3) := by decide +kernel
theorem dL_law_1616 : decode cL_law 1616 = .ok (.iconst 0, 1) := by decide +kernel
theorem dL_law_1617 : decode cL_law 1617 = .ok (.ireturn, 1) := by decide +kernel
theorem dL_law_1618 : decode cL_law 1618 = .ok (.goto 101, 3) := by decide +kernel
theorem dL_law_1621 : decode cL_law 1621 = .ok (.aload_n 1, 1) := by decide +kernel
theorem dL_law_1622 : decode cL_law 1622 = .ok (.aload_n 0, 1) := by decide +kernel
theorem dL_law_1623 : decode cL_law 1623 = .ok (.iload 4, 2) := by decide +kernel
theorem dL_law_1625 : decode cL_law 1625 = .ok (.iconst 1, 1) := by decide +kernel
theorem dL_law_1626 : decode cL_law 1626 = .ok (.iadd, 1) := by decide +kernel
theorem dL_law_1627 : decode cL_law 1627 = .ok (.iaload, 1) := by decide +kernel
theorem dL_law_1628 : decode cL_law 1628 = .ok (.aload_n 0, 1) := by decide +kernel
theorem dL_law_1629 : decode cL_law 1629 = .ok (.iload 4, 2) := by decide +kernel
theorem dL_law_1631 : decode cL_law 1631 = .ok (.iconst 2, 1) := by decide +kernel
theorem dL_law_1632 : decode cL_law 1632 = .ok (.iadd, 1) := by decide +kernel
theorem dL_law_1633 : decode cL_law 1633 = .ok (.iaload, 1) := by decide +kernel
theorem dL_law_1634 : decode cL_law 1634 = .ok (.aload_n 0, 1) := by decide +kernel
theorem dL_law_1635 : decode cL_law 1635 = .ok (.iload 4, 2) := by decide +kernel
theorem dL_law_1637 : decode cL_law 1637 = .ok (.iconst 3, 1) := by decide +kernel
theorem dL_law_1638 : decode cL_law 1638 = .ok (.iadd, 1) := by decide +kernel
theorem dL_law_1639 : decode cL_law 1639 = .ok (.iaload, 1) := by decide +kernel
theorem dL_law_1640 : decode cL_law 1640 = .ok (.aload_n 0, 1) := by decide +kernel
theorem dL_law_1641 : decode cL_law 1641 = .ok (.iload 4, 2) := by decide +kernel
theorem dL_law_1643 : decode cL_law 1643 = .ok (.iconst 4, 1) := by decide +kernel
theorem dL_law_1644 : decode cL_law 1644 = .ok (.iadd, 1) := by decide +kernel
theorem dL_law_1645 : decode cL_law 1645 = .ok (.iaload, 1) := by decide +kernel
theorem dL_law_1646 : decode cL_law 1646 = .ok (.aload_n 0, 1) := by decide +kernel
theorem dL_law_1647 : decode cL_law 1647 = .ok (.iload 4, 2) := by decide +kernel
theorem dL_law_1649 : decode cL_law 1649 = .ok (.iconst 5, 1) := by decide +kernel
theorem dL_law_1650 : decode cL_law 1650 = .ok (.iadd, 1) := by decide +kernel
theorem dL_law_1651 : decode cL_law 1651 = .ok (.iaload, 1) := by decide +kernel
theorem dL_law_1652 : decode cL_law 1652 = .ok (.invokevirtual 187, 3) := by decide +kernel
theorem dL_law_1655 : decode cL_law 1655 = .ok (.aload_n 2, 1) := by decide +kernel
theorem dL_law_1656 : decode cL_law 1656 = .ok (.aload_n 0, 1) := by decide +kernel
theorem dL_law_1657 : decode cL_law 1657 = .ok (.iload 4, 2) := by decide +kernel
theorem dL_law_1659 : decode cL_law 1659 = .ok (.iconst 1, 1) := by decide +kernel
theorem dL_law_1660 : decode cL_law 1660 = .ok (.iadd, 1) := by decide +kernel
theorem dL_law_1661 : decode cL_law 1661 = .ok (.iaload, 1) := by decide +kernel
theorem dL_law_1662 : decode cL_law 1662 = .ok (.aload_n 0, 1) := by decide +kernel
theorem dL_law_1663 : decode cL_law 1663 = .ok (.iload 4, 2) := by decide +kernel
theorem dL_law_1665 : decode cL_law 1665 = .ok (.iconst 2, 1) := by decide +kernel
theorem dL_law_1666 : decode cL_law 1666 = .ok (.iadd, 1) := by decide +kernel
theorem dL_law_1667 : decode cL_law 1667 = .ok (.iaload, 1) := by decide +kernel
theorem dL_law_1668 : decode cL_law 1668 = .ok (.aload_n 0, 1) := by decide +kernel
theorem dL_law_1669 : decode cL_law 1669 = .ok (.iload 4, 2) := by decide +kernel
theorem dL_law_1671 : decode cL_law 1671 = .ok (.iconst 3, 1) := by decide +kernel
theorem dL_law_1672 : decode cL_law 1672 = .ok (.iadd, 1) := by decide +kernel
theorem dL_law_1673 : decode cL_law 1673 = .ok (.iaload, 1) := by decide +kernel
theorem dL_law_1674 : decode cL_law 1674 = .ok (.aload_n 0, 1) := by decide +kernel
theorem dL_law_1675 : decode cL_law 1675 = .ok (.iload 4, 2) := by decide +kernel
theorem dL_law_1677 : decode cL_law 1677 = .ok (.iconst 4, 1) := by decide +kernel
theorem dL_law_1678 : decode cL_law 1678 = .ok (.iadd, 1) := by decide +kernel
theorem dL_law_1679 : decode cL_law 1679 = .ok (.iaload, 1) := by decide +kernel
theorem dL_law_1680 : decode cL_law 1680 = .ok (.aload_n 0, 1) := by decide +kernel
theorem dL_law_1681 : decode cL_law 1681 = .ok (.iload 4, 2) := by decide +kernel
theorem dL_law_1683 : decode cL_law 1683 = .ok (.iconst 5, 1) := by decide +kernel
theorem dL_law_1684 : decode cL_law 1684 = .ok (.iadd, 1) := by decide +kernel
theorem dL_law_1685 : decode cL_law 1685 = .ok (.iaload, 1) := by decide +kernel
theorem dL_law_1686 : decode cL_law 1686 = .ok (.invokevirtual 190, 3) := by decide +kernel
theorem dL_law_1689 : decode cL_law 1689 = .ok (.if_icmp .eq 30, 3) := by decide +kernel
theorem dL_law_1692 : decode cL_law 1692 = .ok (.iconst 0, 1) := by decide +kernel
theorem dL_law_1693 : decode cL_law 1693 = .ok (.ireturn, 1) := by decide +kernel
theorem dL_law_1694 : decode cL_law 1694 = .ok (.aload_n 1, 1) := by decide +kernel
theorem dL_law_1695 : decode cL_law 1695 = .ok (.aload_n 0, 1) := by decide +kernel
theorem dL_law_1696 : decode cL_law 1696 = .ok (.iload 4, 2) := by decide +kernel
theorem dL_law_1698 : decode cL_law 1698 = .ok (.iconst 1, 1) := by decide +kernel
theorem dL_law_1699 : decode cL_law 1699 = .ok (.iadd, 1) := by decide +kernel
theorem dL_law_1700 : decode cL_law 1700 = .ok (.iaload, 1) := by decide +kernel
theorem dL_law_1701 : decode cL_law 1701 = .ok (.invokevirtual 191, 3) := by decide +kernel
theorem dL_law_1704 : decode cL_law 1704 = .ok (.aload_n 2, 1) := by decide +kernel
theorem dL_law_1705 : decode cL_law 1705 = .ok (.aload_n 0, 1) := by decide +kernel
theorem dL_law_1706 : decode cL_law 1706 = .ok (.iload 4, 2) := by decide +kernel
theorem dL_law_1708 : decode cL_law 1708 = .ok (.iconst 1, 1) := by decide +kernel
theorem dL_law_1709 : decode cL_law 1709 = .ok (.iadd, 1) := by decide +kernel
theorem dL_law_1710 : decode cL_law 1710 = .ok (.iaload, 1) := by decide +kernel
theorem dL_law_1711 : decode cL_law 1711 = .ok (.invokevirtual 194, 3) := by decide +kernel
theorem dL_law_1714 : decode cL_law 1714 = .ok (.if_icmp .eq 5, 3) := by decide +kernel
theorem dL_law_1717 : decode cL_law 1717 = .ok (.iconst 0, 1) := by decide +kernel
theorem dL_law_1718 : decode cL_law 1718 = .ok (.ireturn, 1) := by decide +kernel
theorem dL_law_1719 : decode cL_law 1719 = .ok (.iinc 4 6, 3) := by decide +kernel
theorem dL_law_1722 : decode cL_law 1722 = .ok (.goto (-1699), 3) := by decide +kernel
theorem dL_law_1725 : decode cL_law 1725 = .ok (.iconst 1, 1) := by decide +kernel
theorem dL_law_1726 : decode cL_law 1726 = .ok (.ireturn, 1) := by decide +kernel
