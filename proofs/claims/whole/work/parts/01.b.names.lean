theorem dX0_init_0 : decode cX0_init 0 = .ok (.aload_n 0, 1) := by decide +kernel
theorem dX0_init_1 : decode cX0_init 1 = .ok (.invokespecial 3, 3) := by decide +kernel
theorem dX0_init_4 : decode cX0_init 4 = .ok (.aload_n 0, 1) := by decide +kernel
theorem dX0_init_5 : decode cX0_init 5 = .ok (.bipush 64, 2) := by decide +kernel
theorem dX0_init_7 : decode cX0_init 7 = .ok (.newarray .int, 2) := by decide +kernel
theorem dX0_init_9 : decode cX0_init 9 = .ok (.putfield 11, 3) := by decide +kernel
theorem dX0_init_12 : decode cX0_init 12 = .ok (.return_, 1) := by decide +kernel
theorem dX0_way_0 : decode cX0_way 0 = .ok (.iload_n 1, 1) := by decide +kernel
theorem dX0_way_1 : decode cX0_way 1 = .ok (.iconst 4, 1) := by decide +kernel
theorem dX0_way_2 : decode cX0_way 2 = .ok (.ishl, 1) := by decide +kernel
theorem dX0_way_3 : decode cX0_way 3 = .ok (.iload_n 0, 1) := by decide +kernel
theorem dX0_way_4 : decode cX0_way 4 = .ok (.ior, 1) := by decide +kernel
theorem dX0_way_5 : decode cX0_way 5 = .ok (.ireturn, 1) := by decide +kernel
theorem dX0_ruleOf_0 : decode cX0_ruleOf 0 = .ok (.iload_n 0, 1) := by decide +kernel
theorem dX0_ruleOf_1 : decode cX0_ruleOf 1 = .ok (.bipush 15, 2) := by decide +kernel
theorem dX0_ruleOf_3 : decode cX0_ruleOf 3 = .ok (.iand, 1) := by decide +kernel
theorem dX0_ruleOf_4 : decode cX0_ruleOf 4 = .ok (.ireturn, 1) := by decide +kernel
theorem dX0_takenBy_0 : decode cX0_takenBy 0 = .ok (.iload_n 0, 1) := by decide +kernel
theorem dX0_takenBy_1 : decode cX0_takenBy 1 = .ok (.iconst 4, 1) := by decide +kernel
theorem dX0_takenBy_2 : decode cX0_takenBy 2 = .ok (.ishr, 1) := by decide +kernel
theorem dX0_takenBy_3 : decode cX0_takenBy 3 = .ok (.ireturn, 1) := by decide +kernel
theorem dX0_premisesOf_0 : decode cX0_premisesOf 0 = .ok (.iload_n 0, 1) := by decide +kernel
theorem dX0_premisesOf_1 : decode cX0_premisesOf 1 = .ok (.ifCond .lt 19, 3) := by decide +kernel
theorem dX0_premisesOf_4 : decode cX0_premisesOf 4 = .ok (.iload_n 0, 1) := by decide +kernel
theorem dX0_premisesOf_5 : decode cX0_premisesOf 5 = .ok (.getstatic 15, 3) := by decide +kernel
theorem dX0_premisesOf_8 : decode cX0_premisesOf 8 = .ok (.arraylength, 1) := by decide +kernel
theorem dX0_premisesOf_9 : decode cX0_premisesOf 9 = .ok (.if_icmp .ge 11, 3) := by decide +kernel
theorem dX0_premisesOf_12 : decode cX0_premisesOf 12 = .ok (.getstatic 15, 3) := by decide +kernel
theorem dX0_premisesOf_15 : decode cX0_premisesOf 15 = .ok (.iload_n 0, 1) := by decide +kernel
theorem dX0_premisesOf_16 : decode cX0_premisesOf 16 = .ok (.iaload, 1) := by decide +kernel
theorem dX0_premisesOf_17 : decode cX0_premisesOf 17 = .ok (.goto 4, 3) := by decide +kernel
theorem dX0_premisesOf_20 : decode cX0_premisesOf 20 = .ok (.iconst 0, 1) := by decide +kernel
theorem dX0_premisesOf_21 : decode cX0_premisesOf 21 = .ok (.ireturn, 1) := by decide +kernel
theorem dX0_goalOf_0 : decode cX0_goalOf 0 = .ok (.aload_n 0, 1) := by decide +kernel
theorem dX0_goalOf_1 : decode cX0_goalOf 1 = .ok (.iload_n 1, 1) := by decide +kernel
theorem dX0_goalOf_2 : decode cX0_goalOf 2 = .ok (.iconst 0, 1) := by decide +kernel
theorem dX0_goalOf_3 : decode cX0_goalOf 3 = .ok (.invokevirtual 18, 3) := by decide +kernel
theorem dX0_goalOf_6 : decode cX0_goalOf 6 = .ok (.ireturn, 1) := by decide +kernel
theorem dX0_wayOf_0 : decode cX0_wayOf 0 = .ok (.aload_n 0, 1) := by decide +kernel
theorem dX0_wayOf_1 : decode cX0_wayOf 1 = .ok (.iload_n 1, 1) := by decide +kernel
theorem dX0_wayOf_2 : decode cX0_wayOf 2 = .ok (.iconst 1, 1) := by decide +kernel
theorem dX0_wayOf_3 : decode cX0_wayOf 3 = .ok (.invokevirtual 18, 3) := by decide +kernel
theorem dX0_wayOf_6 : decode cX0_wayOf 6 = .ok (.ireturn, 1) := by decide +kernel
theorem dX0_premiseOf_0 : decode cX0_premiseOf 0 = .ok (.aload_n 0, 1) := by decide +kernel
theorem dX0_premiseOf_1 : decode cX0_premiseOf 1 = .ok (.iload_n 1, 1) := by decide +kernel
theorem dX0_premiseOf_2 : decode cX0_premiseOf 2 = .ok (.iconst 1, 1) := by decide +kernel
theorem dX0_premiseOf_3 : decode cX0_premiseOf 3 = .ok (.iload_n 2, 1) := by decide +kernel
theorem dX0_premiseOf_4 : decode cX0_premiseOf 4 = .ok (.iadd, 1) := by decide +kernel
theorem dX0_premiseOf_5 : decode cX0_premiseOf 5 = .ok (.invokevirtual 18, 3) := by decide +kernel
theorem dX0_premiseOf_8 : decode cX0_premiseOf 8 = .ok (.ireturn, 1) := by decide +kernel
theorem dX0_begin_0 : decode cX0_begin 0 = .ok (.aload_n 0, 1) := by decide +kernel
theorem dX0_begin_1 : decode cX0_begin 1 = .ok (.iload_n 1, 1) := by decide +kernel
theorem dX0_begin_2 : decode cX0_begin 2 = .ok (.iconst 0, 1) := by decide +kernel
theorem dX0_begin_3 : decode cX0_begin 3 = .ok (.iload_n 2, 1) := by decide +kernel
theorem dX0_begin_4 : decode cX0_begin 4 = .ok (.invokevirtual 22, 3) := by decide +kernel
theorem dX0_begin_7 : decode cX0_begin 7 = .ok (.return_, 1) := by decide +kernel
theorem dX0_setWay_0 : decode cX0_setWay 0 = .ok (.aload_n 0, 1) := by decide +kernel
theorem dX0_setWay_1 : decode cX0_setWay 1 = .ok (.iload_n 1, 1) := by decide +kernel
theorem dX0_setWay_2 : decode cX0_setWay 2 = .ok (.iconst 1, 1) := by decide +kernel
theorem dX0_setWay_3 : decode cX0_setWay 3 = .ok (.iload_n 2, 1) := by decide +kernel
theorem dX0_setWay_4 : decode cX0_setWay 4 = .ok (.invokevirtual 22, 3) := by decide +kernel
theorem dX0_setWay_7 : decode cX0_setWay 7 = .ok (.return_, 1) := by decide +kernel
theorem dX0_setPremise_0 : decode cX0_setPremise 0 = .ok (.aload_n 0, 1) := by decide +kernel
theorem dX0_setPremise_1 : decode cX0_setPremise 1 = .ok (.iload_n 1, 1) := by decide +kernel
theorem dX0_setPremise_2 : decode cX0_setPremise 2 = .ok (.iconst 1, 1) := by decide +kernel
theorem dX0_setPremise_3 : decode cX0_setPremise 3 = .ok (.iload_n 2, 1) := by decide +kernel
theorem dX0_setPremise_4 : decode cX0_setPremise 4 = .ok (.iadd, 1) := by decide +kernel
theorem dX0_setPremise_5 : decode cX0_setPremise 5 = .ok (.iload_n 3, 1) := by decide +kernel
theorem dX0_setPremise_6 : decode cX0_setPremise 6 = .ok (.invokevirtual 22, 3) := by decide +kernel
theorem dX0_setPremise_9 : decode cX0_setPremise 9 = .ok (.return_, 1) := by decide +kernel
theorem dX0_read_0 : decode cX0_read 0 = .ok (.iload_n 1, 1) := by decide +kernel
theorem dX0_read_1 : decode cX0_read 1 = .ok (.iconst 4, 1) := by decide +kernel
theorem dX0_read_2 : decode cX0_read 2 = .ok (.imul, 1) := by decide +kernel
theorem dX0_read_3 : decode cX0_read 3 = .ok (.iload_n 2, 1) := by decide +kernel
theorem dX0_read_4 : decode cX0_read 4 = .ok (.iadd, 1) := by decide +kernel
theorem dX0_read_5 : decode cX0_read 5 = .ok (.istore_n 3, 1) := by decide +kernel
theorem dX0_read_6 : decode cX0_read 6 = .ok (.iload_n 3, 1) := by decide +kernel
theorem dX0_read_7 : decode cX0_read 7 = .ok (.ifCond .lt 21, 3) := by decide +kernel
theorem dX0_read_10 : decode cX0_read 10 = .ok (.iload_n 3, 1) := by decide +kernel
theorem dX0_read_11 : decode cX0_read 11 = .ok (.aload_n 0, 1) := by decide +kernel
theorem dX0_read_12 : decode cX0_read 12 = .ok (.getfield 11, 3) := by decide +kernel
theorem dX0_read_15 : decode cX0_read 15 = .ok (.arraylength, 1) := by decide +kernel
theorem dX0_read_16 : decode cX0_read 16 = .ok (.if_icmp .ge 12, 3) := by decide +kernel
theorem dX0_read_19 : decode cX0_read 19 = .ok (.aload_n 0, 1) := by decide +kernel
theorem dX0_read_20 : decode cX0_read 20 = .ok (.getfield 11, 3) := by decide +kernel
theorem dX0_read_23 : decode cX0_read 23 = .ok (.iload_n 3, 1) := by decide +kernel
theorem dX0_read_24 : decode cX0_read 24 = .ok (.iaload, 1) := by decide +kernel
theorem dX0_read_25 : decode cX0_read 25 = .ok (.goto 4, 3) := by decide +kernel
theorem dX0_read_28 : decode cX0_read 28 = .ok (.iconst 0, 1) := by decide +kernel
theorem dX0_read_29 : decode cX0_read 29 = .ok (.ireturn, 1) := by decide +kernel
theorem dX0_write_0 : decode cX0_write 0 = .ok (.iload_n 1, 1) := by decide +kernel
theorem dX0_write_1 : decode cX0_write 1 = .ok (.ifCond .lt 19, 3) := by decide +kernel
theorem dX0_write_4 : decode cX0_write 4 = .ok (.iload_n 1, 1) := by decide +kernel
theorem dX0_write_5 : decode cX0_write 5 = .ok (.sipush 3000, 3) := by decide +kernel
theorem dX0_write_8 : decode cX0_write 8 = .ok (.if_icmp .gt 12, 3) := by decide +kernel
theorem dX0_write_11 : decode cX0_write 11 = .ok (.iload_n 2, 1) := by decide +kernel
theorem dX0_write_12 : decode cX0_write 12 = .ok (.ifCond .lt 8, 3) := by decide +kernel
theorem dX0_write_15 : decode cX0_write 15 = .ok (.iload_n 2, 1) := by decide +kernel
theorem dX0_write_16 : decode cX0_write 16 = .ok (.iconst 4, 1) := by decide +kernel
theorem dX0_write_17 : decode cX0_write 17 = .ok (.if_icmp .lt 4, 3) := by decide +kernel
theorem dX0_write_20 : decode cX0_write 20 = .ok (.return_, 1) := by decide +kernel
theorem dX0_write_21 : decode cX0_write 21 = .ok (.iload_n 1, 1) := by decide +kernel
theorem dX0_write_22 : decode cX0_write 22 = .ok (.iconst 4, 1) := by decide +kernel
theorem dX0_write_23 : decode cX0_write 23 = .ok (.imul, 1) := by decide +kernel
theorem dX0_write_24 : decode cX0_write 24 = .ok (.iload_n 2, 1) := by decide +kernel
theorem dX0_write_25 : decode cX0_write 25 = .ok (.iadd, 1) := by decide +kernel
theorem dX0_write_26 : decode cX0_write 26 = .ok (.istore 4, 2) := by decide +kernel
theorem dX0_write_28 : decode cX0_write 28 = .ok (.iload 4, 2) := by decide +kernel
theorem dX0_write_30 : decode cX0_write 30 = .ok (.aload_n 0, 1) := by decide +kernel
theorem dX0_write_31 : decode cX0_write 31 = .ok (.getfield 11, 3) := by decide +kernel
theorem dX0_write_34 : decode cX0_write 34 = .ok (.arraylength, 1) := by decide +kernel
theorem dX0_write_35 : decode cX0_write 35 = .ok (.if_icmp .lt 28, 3) := by decide +kernel
theorem dX0_write_38 : decode cX0_write 38 = .ok (.aload_n 0, 1) := by decide +kernel
theorem dX0_write_39 : decode cX0_write 39 = .ok (.aload_n 0, 1) := by decide +kernel
theorem dX0_write_40 : decode cX0_write 40 = .ok (.getfield 11, 3) := by decide +kernel
theorem dX0_write_43 : decode cX0_write 43 = .ok (.iload 4, 2) := by decide +kernel
theorem dX0_write_45 : decode cX0_write 45 = .ok (.iconst 4, 1) := by decide +kernel
theorem dX0_write_46 : decode cX0_write 46 = .ok (.iadd, 1) := by decide +kernel
theorem dX0_write_47 : decode cX0_write 47 = .ok (.iconst 2, 1) := by decide +kernel
theorem dX0_write_48 : decode cX0_write 48 = .ok (.aload_n 0, 1) := by decide +kernel
theorem dX0_write_49 : decode cX0_write 49 = .ok (.getfield 11, 3) := by decide +kernel
theorem dX0_write_52 : decode cX0_write 52 = .ok (.arraylength, 1) := by decide +kernel
theorem dX0_write_53 : decode cX0_write 53 = .ok (.imul, 1) := by decide +kernel
theorem dX0_write_54 : decode cX0_write 54 = .ok (.invokestatic 26, 3) := by decide +kernel
theorem dX0_write_57 : decode cX0_write 57 = .ok (.invokestatic 31, 3) := by decide +kernel
theorem dX0_write_60 : decode cX0_write 60 = .ok (.putfield 11, 3) := by decide +kernel
theorem dX0_write_63 : decode cX0_write 63 = .ok (.aload_n 0, 1) := by decide +kernel
theorem dX0_write_64 : decode cX0_write 64 = .ok (.getfield 11, 3) := by decide +kernel
theorem dX0_write_67 : decode cX0_write 67 = .ok (.iload 4, 2) := by decide +kernel
theorem dX0_write_69 : decode cX0_write 69 = .ok (.iload_n 3, 1) := by decide +kernel
theorem dX0_write_70 : decode cX0_write 70 = .ok (.iastore, 1) := by decide +kernel
theorem dX0_write_71 : decode cX0_write 71 = .ok (.return_, 1) := by decide +kernel
theorem dX1_init_0 : decode cX1_init 0 = .ok (.aload_n 0, 1) := by decide +kernel
theorem dX1_init_1 : decode cX1_init 1 = .ok (.invokespecial 5, 3) := by decide +kernel
theorem dX1_init_4 : decode cX1_init 4 = .ok (.aload_n 0, 1) := by decide +kernel
theorem dX1_init_5 : decode cX1_init 5 = .ok (.sipush 1024, 3) := by decide +kernel
theorem dX1_init_8 : decode cX1_init 8 = .ok (.newarray .int, 2) := by decide +kernel
theorem dX1_init_10 : decode cX1_init 10 = .ok (.putfield 11, 3) := by decide +kernel
theorem dX1_init_13 : decode cX1_init 13 = .ok (.aload_n 0, 1) := by decide +kernel
theorem dX1_init_14 : decode cX1_init 14 = .ok (.bipush 96, 2) := by decide +kernel
theorem dX1_init_16 : decode cX1_init 16 = .ok (.newarray .int, 2) := by decide +kernel
theorem dX1_init_18 : decode cX1_init 18 = .ok (.putfield 15, 3) := by decide +kernel
theorem dX1_init_21 : decode cX1_init 21 = .ok (.aload_n 0, 1) := by decide +kernel
theorem dX1_init_22 : decode cX1_init 22 = .ok (.iconst 0, 1) := by decide +kernel
theorem dX1_init_23 : decode cX1_init 23 = .ok (.putfield 18, 3) := by decide +kernel
theorem dX1_init_26 : decode cX1_init 26 = .ok (.aload_n 0, 1) := by decide +kernel
theorem dX1_init_27 : decode cX1_init 27 = .ok (.iload_n 1, 1) := by decide +kernel
theorem dX1_init_28 : decode cX1_init 28 = .ok (.putfield 22, 3) := by decide +kernel
theorem dX1_init_31 : decode cX1_init 31 = .ok (.return_, 1) := by decide +kernel
theorem dX1_size_0 : decode cX1_size 0 = .ok (.aload_n 0, 1) := by decide +kernel
theorem dX1_size_1 : decode cX1_size 1 = .ok (.getfield 18, 3) := by decide +kernel
theorem dX1_size_4 : decode cX1_size 4 = .ok (.ireturn, 1) := by decide +kernel
theorem dX1_get_0 : decode cX1_get 0 = .ok (.iload_n 1, 1) := by decide +kernel
theorem dX1_get_1 : decode cX1_get 1 = .ok (.iconst 1, 1) := by decide +kernel
theorem dX1_get_2 : decode cX1_get 2 = .ok (.if_icmp .lt 24, 3) := by decide +kernel
theorem dX1_get_5 : decode cX1_get 5 = .ok (.iload_n 1, 1) := by decide +kernel
theorem dX1_get_6 : decode cX1_get 6 = .ok (.aload_n 0, 1) := by decide +kernel
theorem dX1_get_7 : decode cX1_get 7 = .ok (.getfield 18, 3) := by decide +kernel
theorem dX1_get_10 : decode cX1_get 10 = .ok (.if_icmp .gt 16, 3) := by decide +kernel
theorem dX1_get_13 : decode cX1_get 13 = .ok (.iload_n 2, 1) := by decide +kernel
theorem dX1_get_14 : decode cX1_get 14 = .ok (.ifCond .lt 12, 3) := by decide +kernel
theorem dX1_get_17 : decode cX1_get 17 = .ok (.iload_n 2, 1) := by decide +kernel
theorem dX1_get_18 : decode cX1_get 18 = .ok (.iconst 5, 1) := by decide +kernel
theorem dX1_get_19 : decode cX1_get 19 = .ok (.if_icmp .ge 7, 3) := by decide +kernel
theorem dX1_get_22 : decode cX1_get 22 = .ok (.iconst 1, 1) := by decide +kernel
theorem dX1_get_23 : decode cX1_get 23 = .ok (.goto 4, 3) := by decide +kernel
theorem dX1_get_26 : decode cX1_get 26 = .ok (.iconst 0, 1) := by decide +kernel
theorem dX1_get_27 : decode cX1_get 27 = .ok (.istore_n 3, 1) := by decide +kernel
theorem dX1_get_28 : decode cX1_get 28 = .ok (.iload_n 3, 1) := by decide +kernel
theorem dX1_get_29 : decode cX1_get 29 = .ok (.ifCond .eq 17, 3) := by decide +kernel
theorem dX1_get_32 : decode cX1_get 32 = .ok (.aload_n 0, 1) := by decide +kernel
theorem dX1_get_33 : decode cX1_get 33 = .ok (.getfield 15, 3) := by decide +kernel
theorem dX1_get_36 : decode cX1_get 36 = .ok (.iload_n 1, 1) := by decide +kernel
theorem dX1_get_37 : decode cX1_get 37 = .ok (.bipush 6, 2) := by decide +kernel
theorem dX1_get_39 : decode cX1_get 39 = .ok (.imul, 1) := by decide +kernel
theorem dX1_get_40 : decode cX1_get 40 = .ok (.iload_n 2, 1) := by decide +kernel
theorem dX1_get_41 : decode cX1_get 41 = .ok (.iadd, 1) := by decide +kernel
theorem dX1_get_42 : decode cX1_get 42 = .ok (.iaload, 1) := by decide +kernel
theorem dX1_get_43 : decode cX1_get 43 = .ok (.goto 4, 3) := by decide +kernel
theorem dX1_get_46 : decode cX1_get 46 = .ok (.iconst 0, 1) := by decide +kernel
theorem dX1_get_47 : decode cX1_get 47 = .ok (.ireturn, 1) := by decide +kernel
theorem dX1_find_0 : decode cX1_find 0 = .ok (.aload_n 0, 1) := by decide +kernel
theorem dX1_find_1 : decode cX1_find 1 = .ok (.getfield 11, 3) := by decide +kernel
theorem dX1_find_4 : decode cX1_find 4 = .ok (.iload_n 1, 1) := by decide +kernel
theorem dX1_find_5 : decode cX1_find 5 = .ok (.iload_n 2, 1) := by decide +kernel
theorem dX1_find_6 : decode cX1_find 6 = .ok (.iload_n 3, 1) := by decide +kernel
theorem dX1_find_7 : decode cX1_find 7 = .ok (.iload 4, 2) := by decide +kernel
theorem dX1_find_9 : decode cX1_find 9 = .ok (.iload 5, 2) := by decide +kernel
theorem dX1_find_11 : decode cX1_find 11 = .ok (.invokestatic 25, 3) := by decide +kernel
theorem dX1_find_14 : decode cX1_find 14 = .ok (.iaload, 1) := by decide +kernel
theorem dX1_find_15 : decode cX1_find 15 = .ok (.istore 6, 2) := by decide +kernel
theorem dX1_find_17 : decode cX1_find 17 = .ok (.iconst 0, 1) := by decide +kernel
theorem dX1_find_18 : decode cX1_find 18 = .ok (.istore 7, 2) := by decide +kernel
theorem dX1_find_20 : decode cX1_find 20 = .ok (.iload 7, 2) := by decide +kernel
theorem dX1_find_22 : decode cX1_find 22 = .ok (.aload_n 0, 1) := by decide +kernel
theorem dX1_find_23 : decode cX1_find 23 = .ok (.getfield 18, 3) := by decide +kernel
theorem dX1_find_26 : decode cX1_find 26 = .ok (.if_icmp .ge 110, 3) := by decide +kernel
theorem dX1_find_29 : decode cX1_find 29 = .ok (.iload 6, 2) := by decide +kernel
theorem dX1_find_31 : decode cX1_find 31 = .ok (.iconst 1, 1) := by decide +kernel
theorem dX1_find_32 : decode cX1_find 32 = .ok (.if_icmp .lt 104, 3) := by decide +kernel
theorem dX1_find_35 : decode cX1_find 35 = .ok (.iload 6, 2) := by decide +kernel
theorem dX1_find_37 : decode cX1_find 37 = .ok (.aload_n 0, 1) := by decide +kernel
theorem dX1_find_38 : decode cX1_find 38 = .ok (.getfield 18, 3) := by decide +kernel
theorem dX1_find_41 : decode cX1_find 41 = .ok (.if_icmp .gt 95, 3) := by decide +kernel
theorem dX1_find_44 : decode cX1_find 44 = .ok (.iload 6, 2) := by decide +kernel
theorem dX1_find_46 : decode cX1_find 46 = .ok (.bipush 6, 2) := by decide +kernel
theorem dX1_find_48 : decode cX1_find 48 = .ok (.imul, 1) := by decide +kernel
theorem dX1_find_49 : decode cX1_find 49 = .ok (.istore 8, 2) := by decide +kernel
theorem dX1_find_51 : decode cX1_find 51 = .ok (.aload_n 0, 1) := by decide +kernel
theorem dX1_find_52 : decode cX1_find 52 = .ok (.getfield 15, 3) := by decide +kernel
theorem dX1_find_55 : decode cX1_find 55 = .ok (.iload 8, 2) := by decide +kernel
theorem dX1_find_57 : decode cX1_find 57 = .ok (.iaload, 1) := by decide +kernel
theorem dX1_find_58 : decode cX1_find 58 = .ok (.iload_n 1, 1) := by decide +kernel
theorem dX1_find_59 : decode cX1_find 59 = .ok (.if_icmp .ne 60, 3) := by decide +kernel
theorem dX1_find_62 : decode cX1_find 62 = .ok (.aload_n 0, 1) := by decide +kernel
theorem dX1_find_63 : decode cX1_find 63 = .ok (.getfield 15, 3) := by decide +kernel
theorem dX1_find_66 : decode cX1_find 66 = .ok (.iload 8, 2) := by decide +kernel
theorem dX1_find_68 : decode cX1_find 68 = .ok (.iconst 1, 1) := by decide +kernel
theorem dX1_find_69 : decode cX1_find 69 = .ok (.iadd, 1) := by decide +kernel
theorem dX1_find_70 : decode cX1_find 70 = .ok (.iaload, 1) := by decide +kernel
theorem dX1_find_71 : decode cX1_find 71 = .ok (.iload_n 2, 1) := by decide +kernel
theorem dX1_find_72 : decode cX1_find 72 = .ok (.if_icmp .ne 47, 3) := by decide +kernel
theorem dX1_find_75 : decode cX1_find 75 = .ok (.aload_n 0, 1) := by decide +kernel
theorem dX1_find_76 : decode cX1_find 76 = .ok (.getfield 15, 3) := by decide +kernel
theorem dX1_find_79 : decode cX1_find 79 = .ok (.iload 8, 2) := by decide +kernel
theorem dX1_find_81 : decode cX1_find 81 = .ok (.iconst 2, 1) := by decide +kernel
theorem dX1_find_82 : decode cX1_find 82 = .ok (.iadd, 1) := by decide +kernel
theorem dX1_find_83 : decode cX1_find 83 = .ok (.iaload, 1) := by decide +kernel
theorem dX1_find_84 : decode cX1_find 84 = .ok (.iload_n 3, 1) := by decide +kernel
theorem dX1_find_85 : decode cX1_find 85 = .ok (.if_icmp .ne 34, 3) := by decide +kernel
theorem dX1_find_88 : decode cX1_find 88 = .ok (.aload_n 0, 1) := by decide +kernel
theorem dX1_find_89 : decode cX1_find 89 = .ok (.getfield 15, 3) := by decide +kernel
theorem dX1_find_92 : decode cX1_find 92 = .ok (.iload 8, 2) := by decide +kernel
theorem dX1_find_94 : decode cX1_find 94 = .ok (.iconst 3, 1) := by decide +kernel
theorem dX1_find_95 : decode cX1_find 95 = .ok (.iadd, 1) := by decide +kernel
theorem dX1_find_96 : decode cX1_find 96 = .ok (.iaload, 1) := by decide +kernel
theorem dX1_find_97 : decode cX1_find 97 = .ok (.iload 4, 2) := by decide +kernel
theorem dX1_find_99 : decode cX1_find 99 = .ok (.if_icmp .ne 20, 3) := by decide +kernel
theorem dX1_find_102 : decode cX1_find 102 = .ok (.aload_n 0, 1) := by decide +kernel
theorem dX1_find_103 : decode cX1_find 103 = .ok (.getfield 15, 3) := by decide +kernel
theorem dX1_find_106 : decode cX1_find 106 = .ok (.iload 8, 2) := by decide +kernel
theorem dX1_find_108 : decode cX1_find 108 = .ok (.iconst 4, 1) := by decide +kernel
theorem dX1_find_109 : decode cX1_find 109 = .ok (.iadd, 1) := by decide +kernel
theorem dX1_find_110 : decode cX1_find 110 = .ok (.iaload, 1) := by decide +kernel
theorem dX1_find_111 : decode cX1_find 111 = .ok (.iload 5, 2) := by decide +kernel
theorem dX1_find_113 : decode cX1_find 113 = .ok (.if_icmp .ne 6, 3) := by decide +kernel
theorem dX1_find_116 : decode cX1_find 116 = .ok (.iload 6, 2) := by decide +kernel
theorem dX1_find_118 : decode cX1_find 118 = .ok (.ireturn, 1) := by decide +kernel
theorem dX1_find_119 : decode cX1_find 119 = .ok (.aload_n 0, 1) := by decide +kernel
theorem dX1_find_120 : decode cX1_find 120 = .ok (.getfield 15, 3) := by decide +kernel
theorem dX1_find_123 : decode cX1_find 123 = .ok (.iload 8, 2) := by decide +kernel
theorem dX1_find_125 : decode cX1_find 125 = .ok (.iconst 5, 1) := by decide +kernel
theorem dX1_find_126 : decode cX1_find 126 = .ok (.iadd, 1) := by decide +kernel
theorem dX1_find_127 : decode cX1_find 127 = .ok (.iaload, 1) := by decide +kernel
theorem dX1_find_128 : decode cX1_find 128 = .ok (.istore 6, 2) := by decide +kernel
theorem dX1_find_130 : decode cX1_find 130 = .ok (.iinc 7 1, 3) := by decide +kernel
theorem dX1_find_133 : decode cX1_find 133 = .ok (.goto (-113), 3) := by decide +kernel
theorem dX1_find_136 : decode cX1_find 136 = .ok (.iconst 0, 1) := by decide +kernel
theorem dX1_find_137 : decode cX1_find 137 = .ok (.ireturn, 1) := by decide +kernel
theorem dX1_append_0 : decode cX1_append 0 = .ok (.aload_n 0, 1) := by decide +kernel
theorem dX1_append_1 : decode cX1_append 1 = .ok (.getfield 18, 3) := by decide +kernel
theorem dX1_append_4 : decode cX1_append 4 = .ok (.aload_n 0, 1) := by decide +kernel
theorem dX1_append_5 : decode cX1_append 5 = .ok (.getfield 22, 3) := by decide +kernel
theorem dX1_append_8 : decode cX1_append 8 = .ok (.if_icmp .lt 6, 3) := by decide +kernel
theorem dX1_append_11 : decode cX1_append 11 = .ok (.bipush (-3), 2) := by decide +kernel
theorem dX1_append_13 : decode cX1_append 13 = .ok (.ireturn, 1) := by decide +kernel
theorem dX1_append_14 : decode cX1_append 14 = .ok (.aload_n 0, 1) := by decide +kernel
theorem dX1_append_15 : decode cX1_append 15 = .ok (.dup, 1) := by decide +kernel
theorem dX1_append_16 : decode cX1_append 16 = .ok (.getfield 18, 3) := by decide +kernel
theorem dX1_append_19 : decode cX1_append 19 = .ok (.iconst 1, 1) := by decide +kernel
theorem dX1_append_20 : decode cX1_append 20 = .ok (.iadd, 1) := by decide +kernel
theorem dX1_append_21 : decode cX1_append 21 = .ok (.putfield 18, 3) := by decide +kernel
theorem dX1_append_24 : decode cX1_append 24 = .ok (.aload_n 0, 1) := by decide +kernel
theorem dX1_append_25 : decode cX1_append 25 = .ok (.getfield 18, 3) := by decide +kernel
theorem dX1_append_28 : decode cX1_append 28 = .ok (.bipush 6, 2) := by decide +kernel
theorem dX1_append_30 : decode cX1_append 30 = .ok (.imul, 1) := by decide +kernel
theorem dX1_append_31 : decode cX1_append 31 = .ok (.istore 6, 2) := by decide +kernel
theorem dX1_append_33 : decode cX1_append 33 = .ok (.iload 6, 2) := by decide +kernel
theorem dX1_append_35 : decode cX1_append 35 = .ok (.bipush 6, 2) := by decide +kernel
theorem dX1_append_37 : decode cX1_append 37 = .ok (.iadd, 1) := by decide +kernel
theorem dX1_append_38 : decode cX1_append 38 = .ok (.aload_n 0, 1) := by decide +kernel
theorem dX1_append_39 : decode cX1_append 39 = .ok (.getfield 15, 3) := by decide +kernel
theorem dX1_append_42 : decode cX1_append 42 = .ok (.arraylength, 1) := by decide +kernel
theorem dX1_append_43 : decode cX1_append 43 = .ok (.if_icmp .le 21, 3) := by decide +kernel
theorem dX1_append_46 : decode cX1_append 46 = .ok (.aload_n 0, 1) := by decide +kernel
theorem dX1_append_47 : decode cX1_append 47 = .ok (.aload_n 0, 1) := by decide +kernel
theorem dX1_append_48 : decode cX1_append 48 = .ok (.getfield 15, 3) := by decide +kernel
theorem dX1_append_51 : decode cX1_append 51 = .ok (.iconst 2, 1) := by decide +kernel
theorem dX1_append_52 : decode cX1_append 52 = .ok (.aload_n 0, 1) := by decide +kernel
theorem dX1_append_53 : decode cX1_append 53 = .ok (.getfield 15, 3) := by decide +kernel
theorem dX1_append_56 : decode cX1_append 56 = .ok (.arraylength, 1) := by decide +kernel
theorem dX1_append_57 : decode cX1_append 57 = .ok (.imul, 1) := by decide +kernel
theorem dX1_append_58 : decode cX1_append 58 = .ok (.invokestatic 29, 3) := by decide +kernel
theorem dX1_append_61 : decode cX1_append 61 = .ok (.putfield 15, 3) := by decide +kernel
theorem dX1_append_64 : decode cX1_append 64 = .ok (.aload_n 0, 1) := by decide +kernel
theorem dX1_append_65 : decode cX1_append 65 = .ok (.getfield 15, 3) := by decide +kernel
theorem dX1_append_68 : decode cX1_append 68 = .ok (.iload 6, 2) := by decide +kernel
theorem dX1_append_70 : decode cX1_append 70 = .ok (.iload_n 1, 1) := by decide +kernel
theorem dX1_append_71 : decode cX1_append 71 = .ok (.iastore, 1) := by decide +kernel
theorem dX1_append_72 : decode cX1_append 72 = .ok (.aload_n 0, 1) := by decide +kernel
theorem dX1_append_73 : decode cX1_append 73 = .ok (.getfield 15, 3) := by decide +kernel
theorem dX1_append_76 : decode cX1_append 76 = .ok (.iload 6, 2) := by decide +kernel
theorem dX1_append_78 : decode cX1_append 78 = .ok (.iconst 1, 1) := by decide +kernel
theorem dX1_append_79 : decode cX1_append 79 = .ok (.iadd, 1) := by decide +kernel
theorem dX1_append_80 : decode cX1_append 80 = .ok (.iload_n 2, 1) := by decide +kernel
theorem dX1_append_81 : decode cX1_append 81 = .ok (.iastore, 1) := by decide +kernel
theorem dX1_append_82 : decode cX1_append 82 = .ok (.aload_n 0, 1) := by decide +kernel
theorem dX1_append_83 : decode cX1_append 83 = .ok (.getfield 15, 3) := by decide +kernel
theorem dX1_append_86 : decode cX1_append 86 = .ok (.iload 6, 2) := by decide +kernel
theorem dX1_append_88 : decode cX1_append 88 = .ok (.iconst 2, 1) := by decide +kernel
theorem dX1_append_89 : decode cX1_append 89 = .ok (.iadd, 1) := by decide +kernel
theorem dX1_append_90 : decode cX1_append 90 = .ok (.iload_n 3, 1) := by decide +kernel
theorem dX1_append_91 : decode cX1_append 91 = .ok (.iastore, 1) := by decide +kernel
theorem dX1_append_92 : decode cX1_append 92 = .ok (.aload_n 0, 1) := by decide +kernel
theorem dX1_append_93 : decode cX1_append 93 = .ok (.getfield 15, 3) := by decide +kernel
theorem dX1_append_96 : decode cX1_append 96 = .ok (.iload 6, 2) := by decide +kernel
theorem dX1_append_98 : decode cX1_append 98 = .ok (.iconst 3, 1) := by decide +kernel
theorem dX1_append_99 : decode cX1_append 99 = .ok (.iadd, 1) := by decide +kernel
theorem dX1_append_100 : decode cX1_append 100 = .ok (.iload 4, 2) := by decide +kernel
theorem dX1_append_102 : decode cX1_append 102 = .ok (.iastore, 1) := by decide +kernel
theorem dX1_append_103 : decode cX1_append 103 = .ok (.aload_n 0, 1) := by decide +kernel
theorem dX1_append_104 : decode cX1_append 104 = .ok (.getfield 15, 3) := by decide +kernel
theorem dX1_append_107 : decode cX1_append 107 = .ok (.iload 6, 2) := by decide +kernel
theorem dX1_append_109 : decode cX1_append 109 = .ok (.iconst 4, 1) := by decide +kernel
theorem dX1_append_110 : decode cX1_append 110 = .ok (.iadd, 1) := by decide +kernel
theorem dX1_append_111 : decode cX1_append 111 = .ok (.iload 5, 2) := by decide +kernel
theorem dX1_append_113 : decode cX1_append 113 = .ok (.iastore, 1) := by decide +kernel
theorem dX1_append_114 : decode cX1_append 114 = .ok (.iload_n 1, 1) := by decide +kernel
theorem dX1_append_115 : decode cX1_append 115 = .ok (.iload_n 2, 1) := by decide +kernel
theorem dX1_append_116 : decode cX1_append 116 = .ok (.iload_n 3, 1) := by decide +kernel
theorem dX1_append_117 : decode cX1_append 117 = .ok (.iload 4, 2) := by decide +kernel
theorem dX1_append_119 : decode cX1_append 119 = .ok (.iload 5, 2) := by decide +kernel
theorem dX1_append_121 : decode cX1_append 121 = .ok (.invokestatic 25, 3) := by decide +kernel
theorem dX1_append_124 : decode cX1_append 124 = .ok (.istore 7, 2) := by decide +kernel
theorem dX1_append_126 : decode cX1_append 126 = .ok (.aload_n 0, 1) := by decide +kernel
theorem dX1_append_127 : decode cX1_append 127 = .ok (.getfield 15, 3) := by decide +kernel
theorem dX1_append_130 : decode cX1_append 130 = .ok (.iload 6, 2) := by decide +kernel
theorem dX1_append_132 : decode cX1_append 132 = .ok (.iconst 5, 1) := by decide +kernel
theorem dX1_append_133 : decode cX1_append 133 = .ok (.iadd, 1) := by decide +kernel
theorem dX1_append_134 : decode cX1_append 134 = .ok (.aload_n 0, 1) := by decide +kernel
theorem dX1_append_135 : decode cX1_append 135 = .ok (.getfield 11, 3) := by decide +kernel
theorem dX1_append_138 : decode cX1_append 138 = .ok (.iload 7, 2) := by decide +kernel
theorem dX1_append_140 : decode cX1_append 140 = .ok (.iaload, 1) := by decide +kernel
theorem dX1_append_141 : decode cX1_append 141 = .ok (.iastore, 1) := by decide +kernel
theorem dX1_append_142 : decode cX1_append 142 = .ok (.aload_n 0, 1) := by decide +kernel
theorem dX1_append_143 : decode cX1_append 143 = .ok (.getfield 11, 3) := by decide +kernel
theorem dX1_append_146 : decode cX1_append 146 = .ok (.iload 7, 2) := by decide +kernel
theorem dX1_append_148 : decode cX1_append 148 = .ok (.aload_n 0, 1) := by decide +kernel
theorem dX1_append_149 : decode cX1_append 149 = .ok (.getfield 18, 3) := by decide +kernel
theorem dX1_append_152 : decode cX1_append 152 = .ok (.iastore, 1) := by decide +kernel
theorem dX1_append_153 : decode cX1_append 153 = .ok (.aload_n 0, 1) := by decide +kernel
theorem dX1_append_154 : decode cX1_append 154 = .ok (.getfield 18, 3) := by decide +kernel
theorem dX1_append_157 : decode cX1_append 157 = .ok (.ireturn, 1) := by decide +kernel
theorem dX1_bucketOf_0 : decode cX1_bucketOf 0 = .ok (.iload_n 0, 1) := by decide +kernel
theorem dX1_bucketOf_1 : decode cX1_bucketOf 1 = .ok (.bipush 31, 2) := by decide +kernel
theorem dX1_bucketOf_3 : decode cX1_bucketOf 3 = .ok (.imul, 1) := by decide +kernel
theorem dX1_bucketOf_4 : decode cX1_bucketOf 4 = .ok (.iload_n 1, 1) := by decide +kernel
theorem dX1_bucketOf_5 : decode cX1_bucketOf 5 = .ok (.iadd, 1) := by decide +kernel
theorem dX1_bucketOf_6 : decode cX1_bucketOf 6 = .ok (.bipush 31, 2) := by decide +kernel
theorem dX1_bucketOf_8 : decode cX1_bucketOf 8 = .ok (.imul, 1) := by decide +kernel
theorem dX1_bucketOf_9 : decode cX1_bucketOf 9 = .ok (.iload_n 2, 1) := by decide +kernel
theorem dX1_bucketOf_10 : decode cX1_bucketOf 10 = .ok (.iadd, 1) := by decide +kernel
theorem dX1_bucketOf_11 : decode cX1_bucketOf 11 = .ok (.bipush 31, 2) := by decide +kernel
theorem dX1_bucketOf_13 : decode cX1_bucketOf 13 = .ok (.imul, 1) := by decide +kernel
theorem dX1_bucketOf_14 : decode cX1_bucketOf 14 = .ok (.iload_n 3, 1) := by decide +kernel
theorem dX1_bucketOf_15 : decode cX1_bucketOf 15 = .ok (.iadd, 1) := by decide +kernel
theorem dX1_bucketOf_16 : decode cX1_bucketOf 16 = .ok (.bipush 31, 2) := by decide +kernel
theorem dX1_bucketOf_18 : decode cX1_bucketOf 18 = .ok (.imul, 1) := by decide +kernel
theorem dX1_bucketOf_19 : decode cX1_bucketOf 19 = .ok (.iload 4, 2) := by decide +kernel
theorem dX1_bucketOf_21 : decode cX1_bucketOf 21 = .ok (.iadd, 1) := by decide +kernel
theorem dX1_bucketOf_22 : decode cX1_bucketOf 22 = .ok (.istore 5, 2) := by decide +kernel
theorem dX1_bucketOf_24 : decode cX1_bucketOf 24 = .ok (.iload 5, 2) := by decide +kernel
theorem dX1_bucketOf_26 : decode cX1_bucketOf 26 = .ok (.iload 5, 2) := by decide +kernel
theorem dX1_bucketOf_28 : decode cX1_bucketOf 28 = .ok (.bipush 10, 2) := by decide +kernel
theorem dX1_bucketOf_30 : decode cX1_bucketOf 30 = .ok (.iushr, 1) := by decide +kernel
theorem dX1_bucketOf_31 : decode cX1_bucketOf 31 = .ok (.ixor, 1) := by decide +kernel
theorem dX1_bucketOf_32 : decode cX1_bucketOf 32 = .ok (.sipush 1023, 3) := by decide +kernel
theorem dX1_bucketOf_35 : decode cX1_bucketOf 35 = .ok (.iand, 1) := by decide +kernel
theorem dX1_bucketOf_36 : decode cX1_bucketOf 36 = .ok (.ireturn, 1) := by decide +kernel
theorem dX2_init_0 : decode cX2_init 0 = .ok (.aload_n 0, 1) := by decide +kernel
theorem dX2_init_1 : decode cX2_init 1 = .ok (.invokespecial 3, 3) := by decide +kernel
theorem dX2_init_4 : decode cX2_init 4 = .ok (.aload_n 0, 1) := by decide +kernel
theorem dX2_init_5 : decode cX2_init 5 = .ok (.new 9, 3) := by decide +kernel
theorem dX2_init_8 : decode cX2_init 8 = .ok (.dup, 1) := by decide +kernel
theorem dX2_init_9 : decode cX2_init 9 = .ok (.sipush 8000, 3) := by decide +kernel
theorem dX2_init_12 : decode cX2_init 12 = .ok (.invokespecial 11, 3) := by decide +kernel
theorem dX2_init_15 : decode cX2_init 15 = .ok (.putfield 14, 3) := by decide +kernel
theorem dX2_init_18 : decode cX2_init 18 = .ok (.aload_n 0, 1) := by decide +kernel
theorem dX2_init_19 : decode cX2_init 19 = .ok (.new 20, 3) := by decide +kernel
theorem dX2_init_22 : decode cX2_init 22 = .ok (.dup, 1) := by decide +kernel
theorem dX2_init_23 : decode cX2_init 23 = .ok (.bipush 16, 2) := by decide +kernel
theorem dX2_init_25 : decode cX2_init 25 = .ok (.invokespecial 22, 3) := by decide +kernel
theorem dX2_init_28 : decode cX2_init 28 = .ok (.putfield 23, 3) := by decide +kernel
theorem dX2_init_31 : decode cX2_init 31 = .ok (.aload_n 0, 1) := by decide +kernel
theorem dX2_init_32 : decode cX2_init 32 = .ok (.bipush 16, 2) := by decide +kernel
theorem dX2_init_34 : decode cX2_init 34 = .ok (.newarray .int, 2) := by decide +kernel
theorem dX2_init_36 : decode cX2_init 36 = .ok (.putfield 27, 3) := by decide +kernel
theorem dX2_init_39 : decode cX2_init 39 = .ok (.aload_n 0, 1) := by decide +kernel
theorem dX2_init_40 : decode cX2_init 40 = .ok (.iconst 0, 1) := by decide +kernel
theorem dX2_init_41 : decode cX2_init 41 = .ok (.putfield 31, 3) := by decide +kernel
theorem dX2_init_44 : decode cX2_init 44 = .ok (.aload_n 0, 1) := by decide +kernel
theorem dX2_init_45 : decode cX2_init 45 = .ok (.aload_n 1, 1) := by decide +kernel
theorem dX2_init_46 : decode cX2_init 46 = .ok (.putfield 35, 3) := by decide +kernel
theorem dX2_init_49 : decode cX2_init 49 = .ok (.return_, 1) := by decide +kernel
theorem dX2_partsOf_0 : decode cX2_partsOf 0 = .ok (.iload_n 0, 1) := by decide +kernel
theorem dX2_partsOf_1 : decode cX2_partsOf 1 = .ok (.ifCond .lt 19, 3) := by decide +kernel
theorem dX2_partsOf_4 : decode cX2_partsOf 4 = .ok (.iload_n 0, 1) := by decide +kernel
theorem dX2_partsOf_5 : decode cX2_partsOf 5 = .ok (.getstatic 39, 3) := by decide +kernel
theorem dX2_partsOf_8 : decode cX2_partsOf 8 = .ok (.arraylength, 1) := by decide +kernel
theorem dX2_partsOf_9 : decode cX2_partsOf 9 = .ok (.if_icmp .ge 11, 3) := by decide +kernel
theorem dX2_partsOf_12 : decode cX2_partsOf 12 = .ok (.getstatic 39, 3) := by decide +kernel
theorem dX2_partsOf_15 : decode cX2_partsOf 15 = .ok (.iload_n 0, 1) := by decide +kernel
theorem dX2_partsOf_16 : decode cX2_partsOf 16 = .ok (.iaload, 1) := by decide +kernel
theorem dX2_partsOf_17 : decode cX2_partsOf 17 = .ok (.goto 4, 3) := by decide +kernel
theorem dX2_partsOf_20 : decode cX2_partsOf 20 = .ok (.iconst 0, 1) := by decide +kernel
theorem dX2_partsOf_21 : decode cX2_partsOf 21 = .ok (.ireturn, 1) := by decide +kernel
theorem dX2_size_0 : decode cX2_size 0 = .ok (.aload_n 0, 1) := by decide +kernel
theorem dX2_size_1 : decode cX2_size 1 = .ok (.getfield 14, 3) := by decide +kernel
theorem dX2_size_4 : decode cX2_size 4 = .ok (.invokevirtual 42, 3) := by decide +kernel
theorem dX2_size_7 : decode cX2_size 7 = .ok (.ireturn, 1) := by decide +kernel
theorem dX2_holds_0 : decode cX2_holds 0 = .ok (.iload_n 1, 1) := by decide +kernel
theorem dX2_holds_1 : decode cX2_holds 1 = .ok (.iconst 1, 1) := by decide +kernel
theorem dX2_holds_2 : decode cX2_holds 2 = .ok (.if_icmp .lt 18, 3) := by decide +kernel
theorem dX2_holds_5 : decode cX2_holds 5 = .ok (.iload_n 1, 1) := by decide +kernel
theorem dX2_holds_6 : decode cX2_holds 6 = .ok (.aload_n 0, 1) := by decide +kernel
theorem dX2_holds_7 : decode cX2_holds 7 = .ok (.getfield 14, 3) := by decide +kernel
theorem dX2_holds_10 : decode cX2_holds 10 = .ok (.invokevirtual 42, 3) := by decide +kernel
theorem dX2_holds_13 : decode cX2_holds 13 = .ok (.if_icmp .gt 7, 3) := by decide +kernel
theorem dX2_holds_16 : decode cX2_holds 16 = .ok (.iconst 1, 1) := by decide +kernel
theorem dX2_holds_17 : decode cX2_holds 17 = .ok (.goto 4, 3) := by decide +kernel
theorem dX2_holds_20 : decode cX2_holds 20 = .ok (.iconst 0, 1) := by decide +kernel
theorem dX2_holds_21 : decode cX2_holds 21 = .ok (.ireturn, 1) := by decide +kernel
theorem dX2_read_0 : decode cX2_read 0 = .ok (.aload_n 0, 1) := by decide +kernel
theorem dX2_read_1 : decode cX2_read 1 = .ok (.getfield 14, 3) := by decide +kernel
theorem dX2_read_4 : decode cX2_read 4 = .ok (.iload_n 1, 1) := by decide +kernel
theorem dX2_read_5 : decode cX2_read 5 = .ok (.iload_n 2, 1) := by decide +kernel
theorem dX2_read_6 : decode cX2_read 6 = .ok (.invokevirtual 46, 3) := by decide +kernel
theorem dX2_read_9 : decode cX2_read 9 = .ok (.ireturn, 1) := by decide +kernel
theorem dX2_goalOf_0 : decode cX2_goalOf 0 = .ok (.aload_n 0, 1) := by decide +kernel
theorem dX2_goalOf_1 : decode cX2_goalOf 1 = .ok (.getfield 14, 3) := by decide +kernel
theorem dX2_goalOf_4 : decode cX2_goalOf 4 = .ok (.iload_n 1, 1) := by decide +kernel
theorem dX2_goalOf_5 : decode cX2_goalOf 5 = .ok (.iconst 1, 1) := by decide +kernel
theorem dX2_goalOf_6 : decode cX2_goalOf 6 = .ok (.invokevirtual 46, 3) := by decide +kernel
theorem dX2_goalOf_9 : decode cX2_goalOf 9 = .ok (.ireturn, 1) := by decide +kernel
theorem dX2_make_0 : decode cX2_make 0 = .ok (.aload_n 0, 1) := by decide +kernel
theorem dX2_make_1 : decode cX2_make 1 = .ok (.getfield 14, 3) := by decide +kernel
theorem dX2_make_4 : decode cX2_make 4 = .ok (.iload_n 1, 1) := by decide +kernel
theorem dX2_make_5 : decode cX2_make 5 = .ok (.iload_n 2, 1) := by decide +kernel
theorem dX2_make_6 : decode cX2_make 6 = .ok (.iload_n 3, 1) := by decide +kernel
theorem dX2_make_7 : decode cX2_make 7 = .ok (.iload 4, 2) := by decide +kernel
theorem dX2_make_9 : decode cX2_make 9 = .ok (.iload 5, 2) := by decide +kernel
theorem dX2_make_11 : decode cX2_make 11 = .ok (.invokevirtual 50, 3) := by decide +kernel
theorem dX2_make_14 : decode cX2_make 14 = .ok (.istore 6, 2) := by decide +kernel
theorem dX2_make_16 : decode cX2_make 16 = .ok (.iload 6, 2) := by decide +kernel
theorem dX2_make_18 : decode cX2_make 18 = .ok (.ifCond .eq 8, 3) := by decide +kernel
theorem dX2_make_21 : decode cX2_make 21 = .ok (.iload 6, 2) := by decide +kernel
theorem dX2_make_23 : decode cX2_make 23 = .ok (.goto 17, 3) := by decide +kernel
theorem dX2_make_26 : decode cX2_make 26 = .ok (.aload_n 0, 1) := by decide +kernel
theorem dX2_make_27 : decode cX2_make 27 = .ok (.getfield 14, 3) := by decide +kernel
theorem dX2_make_30 : decode cX2_make 30 = .ok (.iload_n 1, 1) := by decide +kernel
theorem dX2_make_31 : decode cX2_make 31 = .ok (.iload_n 2, 1) := by decide +kernel
theorem dX2_make_32 : decode cX2_make 32 = .ok (.iload_n 3, 1) := by decide +kernel
theorem dX2_make_33 : decode cX2_make 33 = .ok (.iload 4, 2) := by decide +kernel
theorem dX2_make_35 : decode cX2_make 35 = .ok (.iload 5, 2) := by decide +kernel
theorem dX2_make_37 : decode cX2_make 37 = .ok (.invokevirtual 54, 3) := by decide +kernel
theorem dX2_make_40 : decode cX2_make 40 = .ok (.ireturn, 1) := by decide +kernel
theorem dX2_isSound_0 : decode cX2_isSound 0 = .ok (.aload_n 0, 1) := by decide +kernel
theorem dX2_isSound_1 : decode cX2_isSound 1 = .ok (.iload_n 1, 1) := by decide +kernel
theorem dX2_isSound_2 : decode cX2_isSound 2 = .ok (.invokevirtual 57, 3) := by decide +kernel
theorem dX2_isSound_5 : decode cX2_isSound 5 = .ok (.iload_n 1, 1) := by decide +kernel
theorem dX2_isSound_6 : decode cX2_isSound 6 = .ok (.iconst 1, 1) := by decide +kernel
theorem dX2_isSound_7 : decode cX2_isSound 7 = .ok (.if_icmp .lt 26, 3) := by decide +kernel
theorem dX2_isSound_10 : decode cX2_isSound 10 = .ok (.iload_n 1, 1) := by decide +kernel
theorem dX2_isSound_11 : decode cX2_isSound 11 = .ok (.aload_n 0, 1) := by decide +kernel
theorem dX2_isSound_12 : decode cX2_isSound 12 = .ok (.getfield 27, 3) := by decide +kernel
theorem dX2_isSound_15 : decode cX2_isSound 15 = .ok (.arraylength, 1) := by decide +kernel
theorem dX2_isSound_16 : decode cX2_isSound 16 = .ok (.if_icmp .ge 17, 3) := by decide +kernel
theorem dX2_isSound_19 : decode cX2_isSound 19 = .ok (.aload_n 0, 1) := by decide +kernel
theorem dX2_isSound_20 : decode cX2_isSound 20 = .ok (.getfield 27, 3) := by decide +kernel
theorem dX2_isSound_23 : decode cX2_isSound 23 = .ok (.iload_n 1, 1) := by decide +kernel
theorem dX2_isSound_24 : decode cX2_isSound 24 = .ok (.iaload, 1) := by decide +kernel
theorem dX2_isSound_25 : decode cX2_isSound 25 = .ok (.iconst 1, 1) := by decide +kernel
theorem dX2_isSound_26 : decode cX2_isSound 26 = .ok (.if_icmp .ne 7, 3) := by decide +kernel
theorem dX2_isSound_29 : decode cX2_isSound 29 = .ok (.iconst 1, 1) := by decide +kernel
theorem dX2_isSound_30 : decode cX2_isSound 30 = .ok (.goto 4, 3) := by decide +kernel
theorem dX2_isSound_33 : decode cX2_isSound 33 = .ok (.iconst 0, 1) := by decide +kernel
theorem dX2_isSound_34 : decode cX2_isSound 34 = .ok (.ireturn, 1) := by decide +kernel
theorem dX2_restCount_0 : decode cX2_restCount 0 = .ok (.aload_n 0, 1) := by decide +kernel
theorem dX2_restCount_1 : decode cX2_restCount 1 = .ok (.iload_n 1, 1) := by decide +kernel
theorem dX2_restCount_2 : decode cX2_restCount 2 = .ok (.invokevirtual 57, 3) := by decide +kernel
theorem dX2_restCount_5 : decode cX2_restCount 5 = .ok (.aload_n 0, 1) := by decide +kernel
theorem dX2_restCount_6 : decode cX2_restCount 6 = .ok (.getfield 23, 3) := by decide +kernel
theorem dX2_restCount_9 : decode cX2_restCount 9 = .ok (.iload_n 1, 1) := by decide +kernel
theorem dX2_restCount_10 : decode cX2_restCount 10 = .ok (.invokevirtual 60, 3) := by decide +kernel
theorem dX2_restCount_13 : decode cX2_restCount 13 = .ok (.ireturn, 1) := by decide +kernel
theorem dX2_restAbove_0 : decode cX2_restAbove 0 = .ok (.aload_n 0, 1) := by decide +kernel
theorem dX2_restAbove_1 : decode cX2_restAbove 1 = .ok (.iload_n 1, 1) := by decide +kernel
theorem dX2_restAbove_2 : decode cX2_restAbove 2 = .ok (.invokevirtual 57, 3) := by decide +kernel
theorem dX2_restAbove_5 : decode cX2_restAbove 5 = .ok (.aload_n 0, 1) := by decide +kernel
theorem dX2_restAbove_6 : decode cX2_restAbove 6 = .ok (.getfield 23, 3) := by decide +kernel
theorem dX2_restAbove_9 : decode cX2_restAbove 9 = .ok (.iload_n 1, 1) := by decide +kernel
theorem dX2_restAbove_10 : decode cX2_restAbove 10 = .ok (.aload_n 0, 1) := by decide +kernel
theorem dX2_restAbove_11 : decode cX2_restAbove 11 = .ok (.getfield 23, 3) := by decide +kernel
theorem dX2_restAbove_14 : decode cX2_restAbove 14 = .ok (.iload_n 1, 1) := by decide +kernel
theorem dX2_restAbove_15 : decode cX2_restAbove 15 = .ok (.iload_n 2, 1) := by decide +kernel
theorem dX2_restAbove_16 : decode cX2_restAbove 16 = .ok (.invokevirtual 64, 3) := by decide +kernel
theorem dX2_restAbove_19 : decode cX2_restAbove 19 = .ok (.ireturn, 1) := by decide +kernel
theorem dX2_judgeUpTo_0 : decode cX2_judgeUpTo 0 = .ok (.iload_n 1, 1) := by decide +kernel
theorem dX2_judgeUpTo_1 : decode cX2_judgeUpTo 1 = .ok (.aload_n 0, 1) := by decide +kernel
theorem dX2_judgeUpTo_2 : decode cX2_judgeUpTo 2 = .ok (.getfield 31, 3) := by decide +kernel
theorem dX2_judgeUpTo_5 : decode cX2_judgeUpTo 5 = .ok (.if_icmp .le 14, 3) := by decide +kernel
theorem dX2_judgeUpTo_8 : decode cX2_judgeUpTo 8 = .ok (.iload_n 1, 1) := by decide +kernel
theorem dX2_judgeUpTo_9 : decode cX2_judgeUpTo 9 = .ok (.aload_n 0, 1) := by decide +kernel
theorem dX2_judgeUpTo_10 : decode cX2_judgeUpTo 10 = .ok (.getfield 14, 3) := by decide +kernel
theorem dX2_judgeUpTo_13 : decode cX2_judgeUpTo 13 = .ok (.invokevirtual 42, 3) := by decide +kernel
theorem dX2_judgeUpTo_16 : decode cX2_judgeUpTo 16 = .ok (.if_icmp .le 4, 3) := by decide +kernel
theorem dX2_judgeUpTo_19 : decode cX2_judgeUpTo 19 = .ok (.return_, 1) := by decide +kernel
theorem dX2_judgeUpTo_20 : decode cX2_judgeUpTo 20 = .ok (.aload_n 0, 1) := by decide +kernel
theorem dX2_judgeUpTo_21 : decode cX2_judgeUpTo 21 = .ok (.getfield 23, 3) := by decide +kernel
theorem dX2_judgeUpTo_24 : decode cX2_judgeUpTo 24 = .ok (.iload_n 1, 1) := by decide +kernel
theorem dX2_judgeUpTo_25 : decode cX2_judgeUpTo 25 = .ok (.invokevirtual 68, 3) := by decide +kernel
theorem dX2_judgeUpTo_28 : decode cX2_judgeUpTo 28 = .ok (.iload_n 1, 1) := by decide +kernel
theorem dX2_judgeUpTo_29 : decode cX2_judgeUpTo 29 = .ok (.aload_n 0, 1) := by decide +kernel
theorem dX2_judgeUpTo_30 : decode cX2_judgeUpTo 30 = .ok (.getfield 27, 3) := by decide +kernel
theorem dX2_judgeUpTo_33 : decode cX2_judgeUpTo 33 = .ok (.arraylength, 1) := by decide +kernel
theorem dX2_judgeUpTo_34 : decode cX2_judgeUpTo 34 = .ok (.if_icmp .lt 27, 3) := by decide +kernel
theorem dX2_judgeUpTo_37 : decode cX2_judgeUpTo 37 = .ok (.aload_n 0, 1) := by decide +kernel
theorem dX2_judgeUpTo_38 : decode cX2_judgeUpTo 38 = .ok (.aload_n 0, 1) := by decide +kernel
theorem dX2_judgeUpTo_39 : decode cX2_judgeUpTo 39 = .ok (.getfield 27, 3) := by decide +kernel
theorem dX2_judgeUpTo_42 : decode cX2_judgeUpTo 42 = .ok (.iload_n 1, 1) := by decide +kernel
theorem dX2_judgeUpTo_43 : decode cX2_judgeUpTo 43 = .ok (.iconst 1, 1) := by decide +kernel
theorem dX2_judgeUpTo_44 : decode cX2_judgeUpTo 44 = .ok (.iadd, 1) := by decide +kernel
theorem dX2_judgeUpTo_45 : decode cX2_judgeUpTo 45 = .ok (.iconst 2, 1) := by decide +kernel
theorem dX2_judgeUpTo_46 : decode cX2_judgeUpTo 46 = .ok (.aload_n 0, 1) := by decide +kernel
theorem dX2_judgeUpTo_47 : decode cX2_judgeUpTo 47 = .ok (.getfield 27, 3) := by decide +kernel
theorem dX2_judgeUpTo_50 : decode cX2_judgeUpTo 50 = .ok (.arraylength, 1) := by decide +kernel
theorem dX2_judgeUpTo_51 : decode cX2_judgeUpTo 51 = .ok (.imul, 1) := by decide +kernel
theorem dX2_judgeUpTo_52 : decode cX2_judgeUpTo 52 = .ok (.invokestatic 71, 3) := by decide +kernel
theorem dX2_judgeUpTo_55 : decode cX2_judgeUpTo 55 = .ok (.invokestatic 76, 3) := by decide +kernel
theorem dX2_judgeUpTo_58 : decode cX2_judgeUpTo 58 = .ok (.putfield 27, 3) := by decide +kernel
theorem dX2_judgeUpTo_61 : decode cX2_judgeUpTo 61 = .ok (.aload_n 0, 1) := by decide +kernel
theorem dX2_judgeUpTo_62 : decode cX2_judgeUpTo 62 = .ok (.getfield 31, 3) := by decide +kernel
theorem dX2_judgeUpTo_65 : decode cX2_judgeUpTo 65 = .ok (.iconst 1, 1) := by decide +kernel
theorem dX2_judgeUpTo_66 : decode cX2_judgeUpTo 66 = .ok (.iadd, 1) := by decide +kernel
theorem dX2_judgeUpTo_67 : decode cX2_judgeUpTo 67 = .ok (.istore_n 2, 1) := by decide +kernel
theorem dX2_judgeUpTo_68 : decode cX2_judgeUpTo 68 = .ok (.iload_n 2, 1) := by decide +kernel
theorem dX2_judgeUpTo_69 : decode cX2_judgeUpTo 69 = .ok (.iload_n 1, 1) := by decide +kernel
theorem dX2_judgeUpTo_70 : decode cX2_judgeUpTo 70 = .ok (.if_icmp .gt 41, 3) := by decide +kernel
theorem dX2_judgeUpTo_73 : decode cX2_judgeUpTo 73 = .ok (.aload_n 0, 1) := by decide +kernel
theorem dX2_judgeUpTo_74 : decode cX2_judgeUpTo 74 = .ok (.getfield 27, 3) := by decide +kernel
theorem dX2_judgeUpTo_77 : decode cX2_judgeUpTo 77 = .ok (.iload_n 2, 1) := by decide +kernel
theorem dX2_judgeUpTo_78 : decode cX2_judgeUpTo 78 = .ok (.aload_n 0, 1) := by decide +kernel
theorem dX2_judgeUpTo_79 : decode cX2_judgeUpTo 79 = .ok (.iload_n 2, 1) := by decide +kernel
theorem dX2_judgeUpTo_80 : decode cX2_judgeUpTo 80 = .ok (.invokevirtual 82, 3) := by decide +kernel
theorem dX2_judgeUpTo_83 : decode cX2_judgeUpTo 83 = .ok (.ifCond .eq 15, 3) := by decide +kernel
theorem dX2_judgeUpTo_86 : decode cX2_judgeUpTo 86 = .ok (.aload_n 0, 1) := by decide +kernel
theorem dX2_judgeUpTo_87 : decode cX2_judgeUpTo 87 = .ok (.iload_n 2, 1) := by decide +kernel
theorem dX2_judgeUpTo_88 : decode cX2_judgeUpTo 88 = .ok (.invokevirtual 86, 3) := by decide +kernel
theorem dX2_judgeUpTo_91 : decode cX2_judgeUpTo 91 = .ok (.ifCond .eq 7, 3) := by decide +kernel
theorem dX2_judgeUpTo_94 : decode cX2_judgeUpTo 94 = .ok (.iconst 1, 1) := by decide +kernel
theorem dX2_judgeUpTo_95 : decode cX2_judgeUpTo 95 = .ok (.goto 4, 3) := by decide +kernel
theorem dX2_judgeUpTo_98 : decode cX2_judgeUpTo 98 = .ok (.iconst 0, 1) := by decide +kernel
theorem dX2_judgeUpTo_99 : decode cX2_judgeUpTo 99 = .ok (.iastore, 1) := by decide +kernel
theorem dX2_judgeUpTo_100 : decode cX2_judgeUpTo 100 = .ok (.aload_n 0, 1) := by decide +kernel
theorem dX2_judgeUpTo_101 : decode cX2_judgeUpTo 101 = .ok (.iload_n 2, 1) := by decide +kernel
theorem dX2_judgeUpTo_102 : decode cX2_judgeUpTo 102 = .ok (.invokevirtual 89, 3) := by decide +kernel
theorem dX2_judgeUpTo_105 : decode cX2_judgeUpTo 105 = .ok (.iinc 2 1, 3) := by decide +kernel
theorem dX2_judgeUpTo_108 : decode cX2_judgeUpTo 108 = .ok (.goto (-40), 3) := by decide +kernel
theorem dX2_judgeUpTo_111 : decode cX2_judgeUpTo 111 = .ok (.aload_n 0, 1) := by decide +kernel
theorem dX2_judgeUpTo_112 : decode cX2_judgeUpTo 112 = .ok (.iload_n 1, 1) := by decide +kernel
theorem dX2_judgeUpTo_113 : decode cX2_judgeUpTo 113 = .ok (.putfield 31, 3) := by decide +kernel
theorem dX2_judgeUpTo_116 : decode cX2_judgeUpTo 116 = .ok (.return_, 1) := by decide +kernel
theorem dX2_partsAreSound_0 : decode cX2_partsAreSound 0 = .ok (.aload_n 0, 1) := by decide +kernel
theorem dX2_partsAreSound_1 : decode cX2_partsAreSound 1 = .ok (.getfield 14, 3) := by decide +kernel
theorem dX2_partsAreSound_4 : decode cX2_partsAreSound 4 = .ok (.iload_n 1, 1) := by decide +kernel
theorem dX2_partsAreSound_5 : decode cX2_partsAreSound 5 = .ok (.iconst 0, 1) := by decide +kernel
theorem dX2_partsAreSound_6 : decode cX2_partsAreSound 6 = .ok (.invokevirtual 46, 3) := by decide +kernel
theorem dX2_partsAreSound_9 : decode cX2_partsAreSound 9 = .ok (.invokestatic 92, 3) := by decide +kernel
theorem dX2_partsAreSound_12 : decode cX2_partsAreSound 12 = .ok (.istore_n 2, 1) := by decide +kernel
theorem dX2_partsAreSound_13 : decode cX2_partsAreSound 13 = .ok (.iconst 1, 1) := by decide +kernel
theorem dX2_partsAreSound_14 : decode cX2_partsAreSound 14 = .ok (.istore_n 3, 1) := by decide +kernel
theorem dX2_partsAreSound_15 : decode cX2_partsAreSound 15 = .ok (.iload_n 3, 1) := by decide +kernel
theorem dX2_partsAreSound_16 : decode cX2_partsAreSound 16 = .ok (.iload_n 2, 1) := by decide +kernel
theorem dX2_partsAreSound_17 : decode cX2_partsAreSound 17 = .ok (.if_icmp .gt 47, 3) := by decide +kernel
theorem dX2_partsAreSound_20 : decode cX2_partsAreSound 20 = .ok (.aload_n 0, 1) := by decide +kernel
theorem dX2_partsAreSound_21 : decode cX2_partsAreSound 21 = .ok (.getfield 14, 3) := by decide +kernel
theorem dX2_partsAreSound_24 : decode cX2_partsAreSound 24 = .ok (.iload_n 1, 1) := by decide +kernel
theorem dX2_partsAreSound_25 : decode cX2_partsAreSound 25 = .ok (.iconst 1, 1) := by decide +kernel
theorem dX2_partsAreSound_26 : decode cX2_partsAreSound 26 = .ok (.iload_n 3, 1) := by decide +kernel
theorem dX2_partsAreSound_27 : decode cX2_partsAreSound 27 = .ok (.iadd, 1) := by decide +kernel
theorem dX2_partsAreSound_28 : decode cX2_partsAreSound 28 = .ok (.invokevirtual 46, 3) := by decide +kernel
theorem dX2_partsAreSound_31 : decode cX2_partsAreSound 31 = .ok (.istore 4, 2) := by decide +kernel
theorem dX2_partsAreSound_33 : decode cX2_partsAreSound 33 = .ok (.iload 4, 2) := by decide +kernel
theorem dX2_partsAreSound_35 : decode cX2_partsAreSound 35 = .ok (.iconst 1, 1) := by decide +kernel
theorem dX2_partsAreSound_36 : decode cX2_partsAreSound 36 = .ok (.if_icmp .lt 20, 3) := by decide +kernel
theorem dX2_partsAreSound_39 : decode cX2_partsAreSound 39 = .ok (.iload 4, 2) := by decide +kernel
theorem dX2_partsAreSound_41 : decode cX2_partsAreSound 41 = .ok (.iload_n 1, 1) := by decide +kernel
theorem dX2_partsAreSound_42 : decode cX2_partsAreSound 42 = .ok (.if_icmp .ge 14, 3) := by decide +kernel
theorem dX2_partsAreSound_45 : decode cX2_partsAreSound 45 = .ok (.aload_n 0, 1) := by decide +kernel
theorem dX2_partsAreSound_46 : decode cX2_partsAreSound 46 = .ok (.getfield 27, 3) := by decide +kernel
theorem dX2_partsAreSound_49 : decode cX2_partsAreSound 49 = .ok (.iload 4, 2) := by decide +kernel
theorem dX2_partsAreSound_51 : decode cX2_partsAreSound 51 = .ok (.iaload, 1) := by decide +kernel
theorem dX2_partsAreSound_52 : decode cX2_partsAreSound 52 = .ok (.iconst 1, 1) := by decide +kernel
theorem dX2_partsAreSound_53 : decode cX2_partsAreSound 53 = .ok (.if_icmp .eq 5, 3) := by decide +kernel
theorem dX2_partsAreSound_56 : decode cX2_partsAreSound 56 = .ok (.iconst 0, 1) := by decide +kernel
theorem dX2_partsAreSound_57 : decode cX2_partsAreSound 57 = .ok (.ireturn, 1) := by decide +kernel
theorem dX2_partsAreSound_58 : decode cX2_partsAreSound 58 = .ok (.iinc 3 1, 3) := by decide +kernel
theorem dX2_partsAreSound_61 : decode cX2_partsAreSound 61 = .ok (.goto (-46), 3) := by decide +kernel
theorem dX2_partsAreSound_64 : decode cX2_partsAreSound 64 = .ok (.iconst 1, 1) := by decide +kernel
theorem dX2_partsAreSound_65 : decode cX2_partsAreSound 65 = .ok (.ireturn, 1) := by decide +kernel
theorem dX2_goalFits_0 : decode cX2_goalFits 0 = .ok (.aload_n 0, 1) := by decide +kernel
theorem dX2_goalFits_1 : decode cX2_goalFits 1 = .ok (.iload_n 1, 1) := by decide +kernel
theorem dX2_goalFits_2 : decode cX2_goalFits 2 = .ok (.invokevirtual 95, 3) := by decide +kernel
theorem dX2_goalFits_5 : decode cX2_goalFits 5 = .ok (.istore_n 2, 1) := by decide +kernel
theorem dX2_goalFits_6 : decode cX2_goalFits 6 = .ok (.aload_n 0, 1) := by decide +kernel
theorem dX2_goalFits_7 : decode cX2_goalFits 7 = .ok (.aload_n 0, 1) := by decide +kernel
theorem dX2_goalFits_8 : decode cX2_goalFits 8 = .ok (.getfield 14, 3) := by decide +kernel
theorem dX2_goalFits_11 : decode cX2_goalFits 11 = .ok (.iload_n 1, 1) := by decide +kernel
theorem dX2_goalFits_12 : decode cX2_goalFits 12 = .ok (.iconst 2, 1) := by decide +kernel
theorem dX2_goalFits_13 : decode cX2_goalFits 13 = .ok (.invokevirtual 46, 3) := by decide +kernel
theorem dX2_goalFits_16 : decode cX2_goalFits 16 = .ok (.invokevirtual 95, 3) := by decide +kernel
theorem dX2_goalFits_19 : decode cX2_goalFits 19 = .ok (.istore_n 3, 1) := by decide +kernel
theorem dX2_goalFits_20 : decode cX2_goalFits 20 = .ok (.aload_n 0, 1) := by decide +kernel
theorem dX2_goalFits_21 : decode cX2_goalFits 21 = .ok (.aload_n 0, 1) := by decide +kernel
theorem dX2_goalFits_22 : decode cX2_goalFits 22 = .ok (.getfield 14, 3) := by decide +kernel
theorem dX2_goalFits_25 : decode cX2_goalFits 25 = .ok (.iload_n 1, 1) := by decide +kernel
theorem dX2_goalFits_26 : decode cX2_goalFits 26 = .ok (.iconst 3, 1) := by decide +kernel
theorem dX2_goalFits_27 : decode cX2_goalFits 27 = .ok (.invokevirtual 46, 3) := by decide +kernel
theorem dX2_goalFits_30 : decode cX2_goalFits 30 = .ok (.invokevirtual 95, 3) := by decide +kernel
theorem dX2_goalFits_33 : decode cX2_goalFits 33 = .ok (.istore 4, 2) := by decide +kernel
theorem dX2_goalFits_35 : decode cX2_goalFits 35 = .ok (.aload_n 0, 1) := by decide +kernel
theorem dX2_goalFits_36 : decode cX2_goalFits 36 = .ok (.aload_n 0, 1) := by decide +kernel
theorem dX2_goalFits_37 : decode cX2_goalFits 37 = .ok (.getfield 14, 3) := by decide +kernel
theorem dX2_goalFits_40 : decode cX2_goalFits 40 = .ok (.iload_n 1, 1) := by decide +kernel
theorem dX2_goalFits_41 : decode cX2_goalFits 41 = .ok (.iconst 4, 1) := by decide +kernel
theorem dX2_goalFits_42 : decode cX2_goalFits 42 = .ok (.invokevirtual 46, 3) := by decide +kernel
theorem dX2_goalFits_45 : decode cX2_goalFits 45 = .ok (.invokevirtual 95, 3) := by decide +kernel
theorem dX2_goalFits_48 : decode cX2_goalFits 48 = .ok (.istore 5, 2) := by decide +kernel
theorem dX2_goalFits_50 : decode cX2_goalFits 50 = .ok (.aload_n 0, 1) := by decide +kernel
theorem dX2_goalFits_51 : decode cX2_goalFits 51 = .ok (.getfield 14, 3) := by decide +kernel
theorem dX2_goalFits_54 : decode cX2_goalFits 54 = .ok (.iload_n 1, 1) := by decide +kernel
theorem dX2_goalFits_55 : decode cX2_goalFits 55 = .ok (.iconst 0, 1) := by decide +kernel
theorem dX2_goalFits_56 : decode cX2_goalFits 56 = .ok (.invokevirtual 46, 3) := by decide +kernel
theorem dX2_goalFits_59 : decode cX2_goalFits 59 = .ok (.tableswitch 195 0 9 #[53, 55, 71, 81, 91, 107, 123, 139, 155, 185], 53) := by decide +kernel
theorem dX2_goalFits_112 : decode cX2_goalFits 112 = .ok (.iconst 1, 1) := by decide +kernel
theorem dX2_goalFits_113 : decode cX2_goalFits 113 = .ok (.ireturn, 1) := by decide +kernel
theorem dX2_goalFits_114 : decode cX2_goalFits 114 = .ok (.aload_n 0, 1) := by decide +kernel
theorem dX2_goalFits_115 : decode cX2_goalFits 115 = .ok (.iconst 4, 1) := by decide +kernel
theorem dX2_goalFits_116 : decode cX2_goalFits 116 = .ok (.iload_n 2, 1) := by decide +kernel
theorem dX2_goalFits_117 : decode cX2_goalFits 117 = .ok (.aload_n 0, 1) := by decide +kernel
theorem dX2_goalFits_118 : decode cX2_goalFits 118 = .ok (.getfield 35, 3) := by decide +kernel
theorem dX2_goalFits_121 : decode cX2_goalFits 121 = .ok (.iload_n 2, 1) := by decide +kernel
theorem dX2_goalFits_122 : decode cX2_goalFits 122 = .ok (.invokevirtual 98, 3) := by decide +kernel
theorem dX2_goalFits_125 : decode cX2_goalFits 125 = .ok (.iload_n 3, 1) := by decide +kernel
theorem dX2_goalFits_126 : decode cX2_goalFits 126 = .ok (.invokevirtual 103, 3) := by decide +kernel
theorem dX2_goalFits_129 : decode cX2_goalFits 129 = .ok (.ireturn, 1) := by decide +kernel
theorem dX2_goalFits_130 : decode cX2_goalFits 130 = .ok (.aload_n 0, 1) := by decide +kernel
theorem dX2_goalFits_131 : decode cX2_goalFits 131 = .ok (.iconst 4, 1) := by decide +kernel
theorem dX2_goalFits_132 : decode cX2_goalFits 132 = .ok (.iload_n 3, 1) := by decide +kernel
theorem dX2_goalFits_133 : decode cX2_goalFits 133 = .ok (.iload 4, 2) := by decide +kernel
theorem dX2_goalFits_135 : decode cX2_goalFits 135 = .ok (.iload_n 2, 1) := by decide +kernel
theorem dX2_goalFits_136 : decode cX2_goalFits 136 = .ok (.invokevirtual 103, 3) := by decide +kernel
theorem dX2_goalFits_139 : decode cX2_goalFits 139 = .ok (.ireturn, 1) := by decide +kernel
theorem dX2_goalFits_140 : decode cX2_goalFits 140 = .ok (.aload_n 0, 1) := by decide +kernel
theorem dX2_goalFits_141 : decode cX2_goalFits 141 = .ok (.iconst 2, 1) := by decide +kernel
theorem dX2_goalFits_142 : decode cX2_goalFits 142 = .ok (.iload_n 2, 1) := by decide +kernel
theorem dX2_goalFits_143 : decode cX2_goalFits 143 = .ok (.iload_n 3, 1) := by decide +kernel
theorem dX2_goalFits_144 : decode cX2_goalFits 144 = .ok (.iload 4, 2) := by decide +kernel
theorem dX2_goalFits_146 : decode cX2_goalFits 146 = .ok (.invokevirtual 103, 3) := by decide +kernel
theorem dX2_goalFits_149 : decode cX2_goalFits 149 = .ok (.ireturn, 1) := by decide +kernel
theorem dX2_goalFits_150 : decode cX2_goalFits 150 = .ok (.aload_n 0, 1) := by decide +kernel
theorem dX2_goalFits_151 : decode cX2_goalFits 151 = .ok (.iconst 2, 1) := by decide +kernel
theorem dX2_goalFits_152 : decode cX2_goalFits 152 = .ok (.iload_n 3, 1) := by decide +kernel
theorem dX2_goalFits_153 : decode cX2_goalFits 153 = .ok (.iload_n 2, 1) := by decide +kernel
theorem dX2_goalFits_154 : decode cX2_goalFits 154 = .ok (.aload_n 0, 1) := by decide +kernel
theorem dX2_goalFits_155 : decode cX2_goalFits 155 = .ok (.getfield 35, 3) := by decide +kernel
theorem dX2_goalFits_158 : decode cX2_goalFits 158 = .ok (.iload_n 3, 1) := by decide +kernel
theorem dX2_goalFits_159 : decode cX2_goalFits 159 = .ok (.invokevirtual 107, 3) := by decide +kernel
theorem dX2_goalFits_162 : decode cX2_goalFits 162 = .ok (.invokevirtual 103, 3) := by decide +kernel
theorem dX2_goalFits_165 : decode cX2_goalFits 165 = .ok (.ireturn, 1) := by decide +kernel
theorem dX2_goalFits_166 : decode cX2_goalFits 166 = .ok (.aload_n 0, 1) := by decide +kernel
theorem dX2_goalFits_167 : decode cX2_goalFits 167 = .ok (.iconst 2, 1) := by decide +kernel
theorem dX2_goalFits_168 : decode cX2_goalFits 168 = .ok (.iload_n 3, 1) := by decide +kernel
theorem dX2_goalFits_169 : decode cX2_goalFits 169 = .ok (.aload_n 0, 1) := by decide +kernel
theorem dX2_goalFits_170 : decode cX2_goalFits 170 = .ok (.getfield 35, 3) := by decide +kernel
theorem dX2_goalFits_173 : decode cX2_goalFits 173 = .ok (.iload_n 3, 1) := by decide +kernel
theorem dX2_goalFits_174 : decode cX2_goalFits 174 = .ok (.invokevirtual 98, 3) := by decide +kernel
theorem dX2_goalFits_177 : decode cX2_goalFits 177 = .ok (.iload_n 2, 1) := by decide +kernel
theorem dX2_goalFits_178 : decode cX2_goalFits 178 = .ok (.invokevirtual 103, 3) := by decide +kernel
theorem dX2_goalFits_181 : decode cX2_goalFits 181 = .ok (.ireturn, 1) := by decide +kernel
theorem dX2_goalFits_182 : decode cX2_goalFits 182 = .ok (.aload_n 0, 1) := by decide +kernel
theorem dX2_goalFits_183 : decode cX2_goalFits 183 = .ok (.iconst 3, 1) := by decide +kernel
theorem dX2_goalFits_184 : decode cX2_goalFits 184 = .ok (.iload_n 2, 1) := by decide +kernel
theorem dX2_goalFits_185 : decode cX2_goalFits 185 = .ok (.iload_n 3, 1) := by decide +kernel
theorem dX2_goalFits_186 : decode cX2_goalFits 186 = .ok (.aload_n 0, 1) := by decide +kernel
theorem dX2_goalFits_187 : decode cX2_goalFits 187 = .ok (.getfield 35, 3) := by decide +kernel
theorem dX2_goalFits_190 : decode cX2_goalFits 190 = .ok (.iload_n 2, 1) := by decide +kernel
theorem dX2_goalFits_191 : decode cX2_goalFits 191 = .ok (.invokevirtual 107, 3) := by decide +kernel
theorem dX2_goalFits_194 : decode cX2_goalFits 194 = .ok (.invokevirtual 103, 3) := by decide +kernel
theorem dX2_goalFits_197 : decode cX2_goalFits 197 = .ok (.ireturn, 1) := by decide +kernel
theorem dX2_goalFits_198 : decode cX2_goalFits 198 = .ok (.aload_n 0, 1) := by decide +kernel
theorem dX2_goalFits_199 : decode cX2_goalFits 199 = .ok (.iconst 3, 1) := by decide +kernel
theorem dX2_goalFits_200 : decode cX2_goalFits 200 = .ok (.iload_n 2, 1) := by decide +kernel
theorem dX2_goalFits_201 : decode cX2_goalFits 201 = .ok (.aload_n 0, 1) := by decide +kernel
theorem dX2_goalFits_202 : decode cX2_goalFits 202 = .ok (.getfield 35, 3) := by decide +kernel
theorem dX2_goalFits_205 : decode cX2_goalFits 205 = .ok (.iload_n 2, 1) := by decide +kernel
theorem dX2_goalFits_206 : decode cX2_goalFits 206 = .ok (.invokevirtual 98, 3) := by decide +kernel
theorem dX2_goalFits_209 : decode cX2_goalFits 209 = .ok (.iload_n 3, 1) := by decide +kernel
theorem dX2_goalFits_210 : decode cX2_goalFits 210 = .ok (.invokevirtual 103, 3) := by decide +kernel
theorem dX2_goalFits_213 : decode cX2_goalFits 213 = .ok (.ireturn, 1) := by decide +kernel
theorem dX2_goalFits_214 : decode cX2_goalFits 214 = .ok (.aload_n 0, 1) := by decide +kernel
theorem dX2_goalFits_215 : decode cX2_goalFits 215 = .ok (.getfield 35, 3) := by decide +kernel
theorem dX2_goalFits_218 : decode cX2_goalFits 218 = .ok (.iconst 3, 1) := by decide +kernel
theorem dX2_goalFits_219 : decode cX2_goalFits 219 = .ok (.iload_n 3, 1) := by decide +kernel
theorem dX2_goalFits_220 : decode cX2_goalFits 220 = .ok (.invokevirtual 110, 3) := by decide +kernel
theorem dX2_goalFits_223 : decode cX2_goalFits 223 = .ok (.ifCond .eq 19, 3) := by decide +kernel
theorem dX2_goalFits_226 : decode cX2_goalFits 226 = .ok (.iload 4, 2) := by decide +kernel
theorem dX2_goalFits_228 : decode cX2_goalFits 228 = .ok (.iload_n 2, 1) := by decide +kernel
theorem dX2_goalFits_229 : decode cX2_goalFits 229 = .ok (.if_icmp .ne 13, 3) := by decide +kernel
theorem dX2_goalFits_232 : decode cX2_goalFits 232 = .ok (.iload 5, 2) := by decide +kernel
theorem dX2_goalFits_234 : decode cX2_goalFits 234 = .ok (.iload_n 2, 1) := by decide +kernel
theorem dX2_goalFits_235 : decode cX2_goalFits 235 = .ok (.if_icmp .ne 7, 3) := by decide +kernel
theorem dX2_goalFits_238 : decode cX2_goalFits 238 = .ok (.iconst 1, 1) := by decide +kernel
theorem dX2_goalFits_239 : decode cX2_goalFits 239 = .ok (.goto 4, 3) := by decide +kernel
theorem dX2_goalFits_242 : decode cX2_goalFits 242 = .ok (.iconst 0, 1) := by decide +kernel
theorem dX2_goalFits_243 : decode cX2_goalFits 243 = .ok (.ireturn, 1) := by decide +kernel
theorem dX2_goalFits_244 : decode cX2_goalFits 244 = .ok (.aload_n 0, 1) := by decide +kernel
theorem dX2_goalFits_245 : decode cX2_goalFits 245 = .ok (.getfield 35, 3) := by decide +kernel
theorem dX2_goalFits_248 : decode cX2_goalFits 248 = .ok (.iconst 1, 1) := by decide +kernel
theorem dX2_goalFits_249 : decode cX2_goalFits 249 = .ok (.iload_n 3, 1) := by decide +kernel
theorem dX2_goalFits_250 : decode cX2_goalFits 250 = .ok (.invokevirtual 110, 3) := by decide +kernel
theorem dX2_goalFits_253 : decode cX2_goalFits 253 = .ok (.ireturn, 1) := by decide +kernel
theorem dX2_goalFits_254 : decode cX2_goalFits 254 = .ok (.iconst 0, 1) := by decide +kernel
theorem dX2_goalFits_255 : decode cX2_goalFits 255 = .ok (.ireturn, 1) := by decide +kernel
theorem dX2_isWhole_0 : decode cX2_isWhole 0 = .ok (.aload_n 0, 1) := by decide +kernel
theorem dX2_isWhole_1 : decode cX2_isWhole 1 = .ok (.getfield 35, 3) := by decide +kernel
theorem dX2_isWhole_4 : decode cX2_isWhole 4 = .ok (.iload_n 1, 1) := by decide +kernel
theorem dX2_isWhole_5 : decode cX2_isWhole 5 = .ok (.iload_n 2, 1) := by decide +kernel
theorem dX2_isWhole_6 : decode cX2_isWhole 6 = .ok (.invokevirtual 110, 3) := by decide +kernel
theorem dX2_isWhole_9 : decode cX2_isWhole 9 = .ok (.ifCond .eq 32, 3) := by decide +kernel
theorem dX2_isWhole_12 : decode cX2_isWhole 12 = .ok (.aload_n 0, 1) := by decide +kernel
theorem dX2_isWhole_13 : decode cX2_isWhole 13 = .ok (.getfield 35, 3) := by decide +kernel
theorem dX2_isWhole_16 : decode cX2_isWhole 16 = .ok (.iload_n 2, 1) := by decide +kernel
theorem dX2_isWhole_17 : decode cX2_isWhole 17 = .ok (.invokevirtual 98, 3) := by decide +kernel
theorem dX2_isWhole_20 : decode cX2_isWhole 20 = .ok (.iload_n 3, 1) := by decide +kernel
theorem dX2_isWhole_21 : decode cX2_isWhole 21 = .ok (.if_icmp .ne 20, 3) := by decide +kernel
theorem dX2_isWhole_24 : decode cX2_isWhole 24 = .ok (.aload_n 0, 1) := by decide +kernel
theorem dX2_isWhole_25 : decode cX2_isWhole 25 = .ok (.getfield 35, 3) := by decide +kernel
theorem dX2_isWhole_28 : decode cX2_isWhole 28 = .ok (.iload_n 2, 1) := by decide +kernel
theorem dX2_isWhole_29 : decode cX2_isWhole 29 = .ok (.invokevirtual 107, 3) := by decide +kernel
theorem dX2_isWhole_32 : decode cX2_isWhole 32 = .ok (.iload 4, 2) := by decide +kernel
theorem dX2_isWhole_34 : decode cX2_isWhole 34 = .ok (.if_icmp .ne 7, 3) := by decide +kernel
theorem dX2_isWhole_37 : decode cX2_isWhole 37 = .ok (.iconst 1, 1) := by decide +kernel
theorem dX2_isWhole_38 : decode cX2_isWhole 38 = .ok (.goto 4, 3) := by decide +kernel
theorem dX2_isWhole_41 : decode cX2_isWhole 41 = .ok (.iconst 0, 1) := by decide +kernel
theorem dX2_isWhole_42 : decode cX2_isWhole 42 = .ok (.ireturn, 1) := by decide +kernel
theorem dX2_gatherRests_0 : decode cX2_gatherRests 0 = .ok (.aload_n 0, 1) := by decide +kernel
theorem dX2_gatherRests_1 : decode cX2_gatherRests 1 = .ok (.iload_n 1, 1) := by decide +kernel
theorem dX2_gatherRests_2 : decode cX2_gatherRests 2 = .ok (.invokevirtual 95, 3) := by decide +kernel
theorem dX2_gatherRests_5 : decode cX2_gatherRests 5 = .ok (.istore_n 2, 1) := by decide +kernel
theorem dX2_gatherRests_6 : decode cX2_gatherRests 6 = .ok (.aload_n 0, 1) := by decide +kernel
theorem dX2_gatherRests_7 : decode cX2_gatherRests 7 = .ok (.getfield 14, 3) := by decide +kernel
theorem dX2_gatherRests_10 : decode cX2_gatherRests 10 = .ok (.iload_n 1, 1) := by decide +kernel
theorem dX2_gatherRests_11 : decode cX2_gatherRests 11 = .ok (.iconst 2, 1) := by decide +kernel
theorem dX2_gatherRests_12 : decode cX2_gatherRests 12 = .ok (.invokevirtual 46, 3) := by decide +kernel
theorem dX2_gatherRests_15 : decode cX2_gatherRests 15 = .ok (.istore_n 3, 1) := by decide +kernel
theorem dX2_gatherRests_16 : decode cX2_gatherRests 16 = .ok (.aload_n 0, 1) := by decide +kernel
theorem dX2_gatherRests_17 : decode cX2_gatherRests 17 = .ok (.iload_n 3, 1) := by decide +kernel
theorem dX2_gatherRests_18 : decode cX2_gatherRests 18 = .ok (.invokevirtual 95, 3) := by decide +kernel
theorem dX2_gatherRests_21 : decode cX2_gatherRests 21 = .ok (.istore 4, 2) := by decide +kernel
theorem dX2_gatherRests_23 : decode cX2_gatherRests 23 = .ok (.aload_n 0, 1) := by decide +kernel
theorem dX2_gatherRests_24 : decode cX2_gatherRests 24 = .ok (.getfield 14, 3) := by decide +kernel
theorem dX2_gatherRests_27 : decode cX2_gatherRests 27 = .ok (.iload_n 1, 1) := by decide +kernel
theorem dX2_gatherRests_28 : decode cX2_gatherRests 28 = .ok (.iconst 0, 1) := by decide +kernel
theorem dX2_gatherRests_29 : decode cX2_gatherRests 29 = .ok (.invokevirtual 46, 3) := by decide +kernel
theorem dX2_gatherRests_32 : decode cX2_gatherRests 32 = .ok (.istore 5, 2) := by decide +kernel
theorem dX2_gatherRests_34 : decode cX2_gatherRests 34 = .ok (.iload 5, 2) := by decide +kernel
theorem dX2_gatherRests_36 : decode cX2_gatherRests 36 = .ok (.ifCond .ne 15, 3) := by decide +kernel
theorem dX2_gatherRests_39 : decode cX2_gatherRests 39 = .ok (.aload_n 0, 1) := by decide +kernel
theorem dX2_gatherRests_40 : decode cX2_gatherRests 40 = .ok (.getfield 23, 3) := by decide +kernel
theorem dX2_gatherRests_43 : decode cX2_gatherRests 43 = .ok (.iload_n 1, 1) := by decide +kernel
theorem dX2_gatherRests_44 : decode cX2_gatherRests 44 = .ok (.iload_n 2, 1) := by decide +kernel
theorem dX2_gatherRests_45 : decode cX2_gatherRests 45 = .ok (.invokevirtual 114, 3) := by decide +kernel
theorem dX2_gatherRests_48 : decode cX2_gatherRests 48 = .ok (.goto 156, 3) := by decide +kernel
theorem dX2_gatherRests_51 : decode cX2_gatherRests 51 = .ok (.iload 5, 2) := by decide +kernel
theorem dX2_gatherRests_53 : decode cX2_gatherRests 53 = .ok (.iconst 1, 1) := by decide +kernel
theorem dX2_gatherRests_54 : decode cX2_gatherRests 54 = .ok (.if_icmp .ne 43, 3) := by decide +kernel
theorem dX2_gatherRests_57 : decode cX2_gatherRests 57 = .ok (.aload_n 0, 1) := by decide +kernel
theorem dX2_gatherRests_58 : decode cX2_gatherRests 58 = .ok (.getfield 35, 3) := by decide +kernel
theorem dX2_gatherRests_61 : decode cX2_gatherRests 61 = .ok (.iconst 4, 1) := by decide +kernel
theorem dX2_gatherRests_62 : decode cX2_gatherRests 62 = .ok (.iload_n 2, 1) := by decide +kernel
theorem dX2_gatherRests_63 : decode cX2_gatherRests 63 = .ok (.invokevirtual 110, 3) := by decide +kernel
theorem dX2_gatherRests_66 : decode cX2_gatherRests 66 = .ok (.istore 6, 2) := by decide +kernel
theorem dX2_gatherRests_68 : decode cX2_gatherRests 68 = .ok (.aload_n 0, 1) := by decide +kernel
theorem dX2_gatherRests_69 : decode cX2_gatherRests 69 = .ok (.getfield 23, 3) := by decide +kernel
theorem dX2_gatherRests_72 : decode cX2_gatherRests 72 = .ok (.iload_n 1, 1) := by decide +kernel
theorem dX2_gatherRests_73 : decode cX2_gatherRests 73 = .ok (.iload_n 3, 1) := by decide +kernel
theorem dX2_gatherRests_74 : decode cX2_gatherRests 74 = .ok (.iload 6, 2) := by decide +kernel
theorem dX2_gatherRests_76 : decode cX2_gatherRests 76 = .ok (.ifCond .eq 14, 3) := by decide +kernel
theorem dX2_gatherRests_79 : decode cX2_gatherRests 79 = .ok (.aload_n 0, 1) := by decide +kernel
theorem dX2_gatherRests_80 : decode cX2_gatherRests 80 = .ok (.getfield 35, 3) := by decide +kernel
theorem dX2_gatherRests_83 : decode cX2_gatherRests 83 = .ok (.iload_n 2, 1) := by decide +kernel
theorem dX2_gatherRests_84 : decode cX2_gatherRests 84 = .ok (.invokevirtual 98, 3) := by decide +kernel
theorem dX2_gatherRests_87 : decode cX2_gatherRests 87 = .ok (.goto 4, 3) := by decide +kernel
theorem dX2_gatherRests_90 : decode cX2_gatherRests 90 = .ok (.iconst 0, 1) := by decide +kernel
theorem dX2_gatherRests_91 : decode cX2_gatherRests 91 = .ok (.invokevirtual 118, 3) := by decide +kernel
theorem dX2_gatherRests_94 : decode cX2_gatherRests 94 = .ok (.goto 110, 3) := by decide +kernel
theorem dX2_gatherRests_97 : decode cX2_gatherRests 97 = .ok (.iload 5, 2) := by decide +kernel
theorem dX2_gatherRests_99 : decode cX2_gatherRests 99 = .ok (.bipush 8, 2) := by decide +kernel
theorem dX2_gatherRests_101 : decode cX2_gatherRests 101 = .ok (.if_icmp .ne 20, 3) := by decide +kernel
theorem dX2_gatherRests_104 : decode cX2_gatherRests 104 = .ok (.aload_n 0, 1) := by decide +kernel
theorem dX2_gatherRests_105 : decode cX2_gatherRests 105 = .ok (.getfield 35, 3) := by decide +kernel
theorem dX2_gatherRests_108 : decode cX2_gatherRests 108 = .ok (.iconst 3, 1) := by decide +kernel
theorem dX2_gatherRests_109 : decode cX2_gatherRests 109 = .ok (.iload 4, 2) := by decide +kernel
theorem dX2_gatherRests_111 : decode cX2_gatherRests 111 = .ok (.invokevirtual 110, 3) := by decide +kernel
theorem dX2_gatherRests_114 : decode cX2_gatherRests 114 = .ok (.ifCond .eq 7, 3) := by decide +kernel
theorem dX2_gatherRests_117 : decode cX2_gatherRests 117 = .ok (.iconst 1, 1) := by decide +kernel
theorem dX2_gatherRests_118 : decode cX2_gatherRests 118 = .ok (.goto 4, 3) := by decide +kernel
theorem dX2_gatherRests_121 : decode cX2_gatherRests 121 = .ok (.iconst 0, 1) := by decide +kernel
theorem dX2_gatherRests_122 : decode cX2_gatherRests 122 = .ok (.istore 6, 2) := by decide +kernel
theorem dX2_gatherRests_124 : decode cX2_gatherRests 124 = .ok (.aload_n 0, 1) := by decide +kernel
theorem dX2_gatherRests_125 : decode cX2_gatherRests 125 = .ok (.getfield 23, 3) := by decide +kernel
theorem dX2_gatherRests_128 : decode cX2_gatherRests 128 = .ok (.iload_n 1, 1) := by decide +kernel
theorem dX2_gatherRests_129 : decode cX2_gatherRests 129 = .ok (.iload_n 3, 1) := by decide +kernel
theorem dX2_gatherRests_130 : decode cX2_gatherRests 130 = .ok (.iconst 0, 1) := by decide +kernel
theorem dX2_gatherRests_131 : decode cX2_gatherRests 131 = .ok (.invokevirtual 118, 3) := by decide +kernel
theorem dX2_gatherRests_134 : decode cX2_gatherRests 134 = .ok (.aload_n 0, 1) := by decide +kernel
theorem dX2_gatherRests_135 : decode cX2_gatherRests 135 = .ok (.getfield 23, 3) := by decide +kernel
theorem dX2_gatherRests_138 : decode cX2_gatherRests 138 = .ok (.iload_n 1, 1) := by decide +kernel
theorem dX2_gatherRests_139 : decode cX2_gatherRests 139 = .ok (.aload_n 0, 1) := by decide +kernel
theorem dX2_gatherRests_140 : decode cX2_gatherRests 140 = .ok (.getfield 14, 3) := by decide +kernel
theorem dX2_gatherRests_143 : decode cX2_gatherRests 143 = .ok (.iload_n 1, 1) := by decide +kernel
theorem dX2_gatherRests_144 : decode cX2_gatherRests 144 = .ok (.iconst 3, 1) := by decide +kernel
theorem dX2_gatherRests_145 : decode cX2_gatherRests 145 = .ok (.invokevirtual 46, 3) := by decide +kernel
theorem dX2_gatherRests_148 : decode cX2_gatherRests 148 = .ok (.iload 6, 2) := by decide +kernel
theorem dX2_gatherRests_150 : decode cX2_gatherRests 150 = .ok (.ifCond .eq 15, 3) := by decide +kernel
theorem dX2_gatherRests_153 : decode cX2_gatherRests 153 = .ok (.aload_n 0, 1) := by decide +kernel
theorem dX2_gatherRests_154 : decode cX2_gatherRests 154 = .ok (.getfield 35, 3) := by decide +kernel
theorem dX2_gatherRests_157 : decode cX2_gatherRests 157 = .ok (.iload 4, 2) := by decide +kernel
theorem dX2_gatherRests_159 : decode cX2_gatherRests 159 = .ok (.invokevirtual 98, 3) := by decide +kernel
theorem dX2_gatherRests_162 : decode cX2_gatherRests 162 = .ok (.goto 4, 3) := by decide +kernel
theorem dX2_gatherRests_165 : decode cX2_gatherRests 165 = .ok (.iconst 0, 1) := by decide +kernel
theorem dX2_gatherRests_166 : decode cX2_gatherRests 166 = .ok (.invokevirtual 118, 3) := by decide +kernel
theorem dX2_gatherRests_169 : decode cX2_gatherRests 169 = .ok (.aload_n 0, 1) := by decide +kernel
theorem dX2_gatherRests_170 : decode cX2_gatherRests 170 = .ok (.getfield 23, 3) := by decide +kernel
theorem dX2_gatherRests_173 : decode cX2_gatherRests 173 = .ok (.iload_n 1, 1) := by decide +kernel
theorem dX2_gatherRests_174 : decode cX2_gatherRests 174 = .ok (.aload_n 0, 1) := by decide +kernel
theorem dX2_gatherRests_175 : decode cX2_gatherRests 175 = .ok (.getfield 14, 3) := by decide +kernel
theorem dX2_gatherRests_178 : decode cX2_gatherRests 178 = .ok (.iload_n 1, 1) := by decide +kernel
theorem dX2_gatherRests_179 : decode cX2_gatherRests 179 = .ok (.iconst 4, 1) := by decide +kernel
theorem dX2_gatherRests_180 : decode cX2_gatherRests 180 = .ok (.invokevirtual 46, 3) := by decide +kernel
theorem dX2_gatherRests_183 : decode cX2_gatherRests 183 = .ok (.iload 6, 2) := by decide +kernel
theorem dX2_gatherRests_185 : decode cX2_gatherRests 185 = .ok (.ifCond .eq 15, 3) := by decide +kernel
theorem dX2_gatherRests_188 : decode cX2_gatherRests 188 = .ok (.aload_n 0, 1) := by decide +kernel
theorem dX2_gatherRests_189 : decode cX2_gatherRests 189 = .ok (.getfield 35, 3) := by decide +kernel
theorem dX2_gatherRests_192 : decode cX2_gatherRests 192 = .ok (.iload 4, 2) := by decide +kernel
theorem dX2_gatherRests_194 : decode cX2_gatherRests 194 = .ok (.invokevirtual 107, 3) := by decide +kernel
theorem dX2_gatherRests_197 : decode cX2_gatherRests 197 = .ok (.goto 4, 3) := by decide +kernel
theorem dX2_gatherRests_200 : decode cX2_gatherRests 200 = .ok (.iconst 0, 1) := by decide +kernel
theorem dX2_gatherRests_201 : decode cX2_gatherRests 201 = .ok (.invokevirtual 118, 3) := by decide +kernel
theorem dX2_gatherRests_204 : decode cX2_gatherRests 204 = .ok (.return_, 1) := by decide +kernel
theorem dX3_init_0 : decode cX3_init 0 = .ok (.aload_n 0, 1) := by decide +kernel
theorem dX3_init_1 : decode cX3_init 1 = .ok (.invokespecial 3, 3) := by decide +kernel
theorem dX3_init_4 : decode cX3_init 4 = .ok (.aload_n 0, 1) := by decide +kernel
theorem dX3_init_5 : decode cX3_init 5 = .ok (.iconst 0, 1) := by decide +kernel
theorem dX3_init_6 : decode cX3_init 6 = .ok (.putfield 9, 3) := by decide +kernel
theorem dX3_init_9 : decode cX3_init 9 = .ok (.aload_n 0, 1) := by decide +kernel
theorem dX3_init_10 : decode cX3_init 10 = .ok (.aload_n 1, 1) := by decide +kernel
theorem dX3_init_11 : decode cX3_init 11 = .ok (.putfield 15, 3) := by decide +kernel
theorem dX3_init_14 : decode cX3_init 14 = .ok (.aload_n 0, 1) := by decide +kernel
theorem dX3_init_15 : decode cX3_init 15 = .ok (.aload_n 2, 1) := by decide +kernel
theorem dX3_init_16 : decode cX3_init 16 = .ok (.putfield 19, 3) := by decide +kernel
theorem dX3_init_19 : decode cX3_init 19 = .ok (.aload_n 0, 1) := by decide +kernel
theorem dX3_init_20 : decode cX3_init 20 = .ok (.aload_n 3, 1) := by decide +kernel
theorem dX3_init_21 : decode cX3_init 21 = .ok (.putfield 23, 3) := by decide +kernel
theorem dX3_init_24 : decode cX3_init 24 = .ok (.return_, 1) := by decide +kernel
theorem dX3_makeAll_0 : decode cX3_makeAll 0 = .ok (.aload_n 0, 1) := by decide +kernel
theorem dX3_makeAll_1 : decode cX3_makeAll 1 = .ok (.iconst 0, 1) := by decide +kernel
theorem dX3_makeAll_2 : decode cX3_makeAll 2 = .ok (.putfield 9, 3) := by decide +kernel
theorem dX3_makeAll_5 : decode cX3_makeAll 5 = .ok (.aload_n 0, 1) := by decide +kernel
theorem dX3_makeAll_6 : decode cX3_makeAll 6 = .ok (.iload_n 1, 1) := by decide +kernel
theorem dX3_makeAll_7 : decode cX3_makeAll 7 = .ok (.iconst 1, 1) := by decide +kernel
theorem dX3_makeAll_8 : decode cX3_makeAll 8 = .ok (.invokevirtual 27, 3) := by decide +kernel
theorem dX3_makeAll_11 : decode cX3_makeAll 11 = .ok (.ireturn, 1) := by decide +kernel
theorem dX3_build_0 : decode cX3_build 0 = .ok (.aload_n 0, 1) := by decide +kernel
theorem dX3_build_1 : decode cX3_build 1 = .ok (.getfield 9, 3) := by decide +kernel
theorem dX3_build_4 : decode cX3_build 4 = .ok (.ifCond .ne 9, 3) := by decide +kernel
theorem dX3_build_7 : decode cX3_build 7 = .ok (.iload_n 2, 1) := by decide +kernel
theorem dX3_build_8 : decode cX3_build 8 = .ok (.bipush 80, 2) := by decide +kernel
theorem dX3_build_10 : decode cX3_build 10 = .ok (.if_icmp .le 6, 3) := by decide +kernel
theorem dX3_build_13 : decode cX3_build 13 = .ok (.bipush (-3), 2) := by decide +kernel
theorem dX3_build_15 : decode cX3_build 15 = .ok (.ireturn, 1) := by decide +kernel
theorem dX3_build_16 : decode cX3_build 16 = .ok (.aload_n 0, 1) := by decide +kernel
theorem dX3_build_17 : decode cX3_build 17 = .ok (.getfield 23, 3) := by decide +kernel
theorem dX3_build_20 : decode cX3_build 20 = .ok (.iload_n 1, 1) := by decide +kernel
theorem dX3_build_21 : decode cX3_build 21 = .ok (.invokevirtual 31, 3) := by decide +kernel
theorem dX3_build_24 : decode cX3_build 24 = .ok (.istore_n 3, 1) := by decide +kernel
theorem dX3_build_25 : decode cX3_build 25 = .ok (.aload_n 0, 1) := by decide +kernel
theorem dX3_build_26 : decode cX3_build 26 = .ok (.getfield 23, 3) := by decide +kernel
theorem dX3_build_29 : decode cX3_build 29 = .ok (.iload_n 1, 1) := by decide +kernel
theorem dX3_build_30 : decode cX3_build 30 = .ok (.invokevirtual 37, 3) := by decide +kernel
theorem dX3_build_33 : decode cX3_build 33 = .ok (.invokestatic 40, 3) := by decide +kernel
theorem dX3_build_36 : decode cX3_build 36 = .ok (.istore 4, 2) := by decide +kernel
theorem dX3_build_38 : decode cX3_build 38 = .ok (.aload_n 0, 1) := by decide +kernel
theorem dX3_build_39 : decode cX3_build 39 = .ok (.getfield 23, 3) := by decide +kernel
theorem dX3_build_42 : decode cX3_build 42 = .ok (.iload_n 1, 1) := by decide +kernel
theorem dX3_build_43 : decode cX3_build 43 = .ok (.iconst 1, 1) := by decide +kernel
theorem dX3_build_44 : decode cX3_build 44 = .ok (.invokevirtual 43, 3) := by decide +kernel
theorem dX3_build_47 : decode cX3_build 47 = .ok (.istore 5, 2) := by decide +kernel
theorem dX3_build_49 : decode cX3_build 49 = .ok (.aload_n 0, 1) := by decide +kernel
theorem dX3_build_50 : decode cX3_build 50 = .ok (.getfield 23, 3) := by decide +kernel
theorem dX3_build_53 : decode cX3_build 53 = .ok (.iload_n 1, 1) := by decide +kernel
theorem dX3_build_54 : decode cX3_build 54 = .ok (.iconst 2, 1) := by decide +kernel
theorem dX3_build_55 : decode cX3_build 55 = .ok (.invokevirtual 43, 3) := by decide +kernel
theorem dX3_build_58 : decode cX3_build 58 = .ok (.istore 6, 2) := by decide +kernel
theorem dX3_build_60 : decode cX3_build 60 = .ok (.iload_n 2, 1) := by decide +kernel
theorem dX3_build_61 : decode cX3_build 61 = .ok (.iconst 1, 1) := by decide +kernel
theorem dX3_build_62 : decode cX3_build 62 = .ok (.iadd, 1) := by decide +kernel
theorem dX3_build_63 : decode cX3_build 63 = .ok (.istore 7, 2) := by decide +kernel
theorem dX3_build_65 : decode cX3_build 65 = .ok (.aload_n 0, 1) := by decide +kernel
theorem dX3_build_66 : decode cX3_build 66 = .ok (.getfield 23, 3) := by decide +kernel
theorem dX3_build_69 : decode cX3_build 69 = .ok (.iload_n 1, 1) := by decide +kernel
theorem dX3_build_70 : decode cX3_build 70 = .ok (.invokevirtual 37, 3) := by decide +kernel
theorem dX3_build_73 : decode cX3_build 73 = .ok (.invokestatic 46, 3) := by decide +kernel
theorem dX3_build_76 : decode cX3_build 76 = .ok (.tableswitch 312 1 13 #[68, 74, 90, 114, 135, 150, 180, 195, 204, 219, 234, 252, 270], 68) := by decide +kernel
theorem dX3_build_144 : decode cX3_build 144 = .ok (.aload_n 0, 1) := by decide +kernel
theorem dX3_build_145 : decode cX3_build 145 = .ok (.iload_n 3, 1) := by decide +kernel
theorem dX3_build_146 : decode cX3_build 146 = .ok (.invokevirtual 49, 3) := by decide +kernel
theorem dX3_build_149 : decode cX3_build 149 = .ok (.ireturn, 1) := by decide +kernel
theorem dX3_build_150 : decode cX3_build 150 = .ok (.aload_n 0, 1) := by decide +kernel
theorem dX3_build_151 : decode cX3_build 151 = .ok (.bipush 9, 2) := by decide +kernel
theorem dX3_build_153 : decode cX3_build 153 = .ok (.iload_n 3, 1) := by decide +kernel
theorem dX3_build_154 : decode cX3_build 154 = .ok (.aload_n 0, 1) := by decide +kernel
theorem dX3_build_155 : decode cX3_build 155 = .ok (.iload 4, 2) := by decide +kernel
theorem dX3_build_157 : decode cX3_build 157 = .ok (.invokevirtual 49, 3) := by decide +kernel
theorem dX3_build_160 : decode cX3_build 160 = .ok (.iconst 0, 1) := by decide +kernel
theorem dX3_build_161 : decode cX3_build 161 = .ok (.iconst 0, 1) := by decide +kernel
theorem dX3_build_162 : decode cX3_build 162 = .ok (.invokevirtual 52, 3) := by decide +kernel
theorem dX3_build_165 : decode cX3_build 165 = .ok (.ireturn, 1) := by decide +kernel
theorem dX3_build_166 : decode cX3_build 166 = .ok (.aload_n 0, 1) := by decide +kernel
theorem dX3_build_167 : decode cX3_build 167 = .ok (.iconst 3, 1) := by decide +kernel
theorem dX3_build_168 : decode cX3_build 168 = .ok (.iload_n 3, 1) := by decide +kernel
theorem dX3_build_169 : decode cX3_build 169 = .ok (.aload_n 0, 1) := by decide +kernel
theorem dX3_build_170 : decode cX3_build 170 = .ok (.iload 5, 2) := by decide +kernel
theorem dX3_build_172 : decode cX3_build 172 = .ok (.iload 7, 2) := by decide +kernel
theorem dX3_build_174 : decode cX3_build 174 = .ok (.invokevirtual 27, 3) := by decide +kernel
theorem dX3_build_177 : decode cX3_build 177 = .ok (.aload_n 0, 1) := by decide +kernel
theorem dX3_build_178 : decode cX3_build 178 = .ok (.iload 6, 2) := by decide +kernel
theorem dX3_build_180 : decode cX3_build 180 = .ok (.iload 7, 2) := by decide +kernel
theorem dX3_build_182 : decode cX3_build 182 = .ok (.invokevirtual 27, 3) := by decide +kernel
theorem dX3_build_185 : decode cX3_build 185 = .ok (.iconst 0, 1) := by decide +kernel
theorem dX3_build_186 : decode cX3_build 186 = .ok (.invokevirtual 52, 3) := by decide +kernel
theorem dX3_build_189 : decode cX3_build 189 = .ok (.ireturn, 1) := by decide +kernel
theorem dX3_build_190 : decode cX3_build 190 = .ok (.aload_n 0, 1) := by decide +kernel
theorem dX3_build_191 : decode cX3_build 191 = .ok (.aload_n 0, 1) := by decide +kernel
theorem dX3_build_192 : decode cX3_build 192 = .ok (.getfield 15, 3) := by decide +kernel
theorem dX3_build_195 : decode cX3_build 195 = .ok (.iload_n 3, 1) := by decide +kernel
theorem dX3_build_196 : decode cX3_build 196 = .ok (.invokevirtual 56, 3) := by decide +kernel
theorem dX3_build_199 : decode cX3_build 199 = .ok (.aload_n 0, 1) := by decide +kernel
theorem dX3_build_200 : decode cX3_build 200 = .ok (.iload 5, 2) := by decide +kernel
theorem dX3_build_202 : decode cX3_build 202 = .ok (.iload 7, 2) := by decide +kernel
theorem dX3_build_204 : decode cX3_build 204 = .ok (.invokevirtual 27, 3) := by decide +kernel
theorem dX3_build_207 : decode cX3_build 207 = .ok (.invokevirtual 61, 3) := by decide +kernel
theorem dX3_build_210 : decode cX3_build 210 = .ok (.ireturn, 1) := by decide +kernel
theorem dX3_build_211 : decode cX3_build 211 = .ok (.aload_n 0, 1) := by decide +kernel
theorem dX3_build_212 : decode cX3_build 212 = .ok (.iload 4, 2) := by decide +kernel
theorem dX3_build_214 : decode cX3_build 214 = .ok (.aload_n 0, 1) := by decide +kernel
theorem dX3_build_215 : decode cX3_build 215 = .ok (.iload 5, 2) := by decide +kernel
theorem dX3_build_217 : decode cX3_build 217 = .ok (.iload 7, 2) := by decide +kernel
theorem dX3_build_219 : decode cX3_build 219 = .ok (.invokevirtual 27, 3) := by decide +kernel
theorem dX3_build_222 : decode cX3_build 222 = .ok (.invokevirtual 64, 3) := by decide +kernel
theorem dX3_build_225 : decode cX3_build 225 = .ok (.ireturn, 1) := by decide +kernel
theorem dX3_build_226 : decode cX3_build 226 = .ok (.aload_n 0, 1) := by decide +kernel
theorem dX3_build_227 : decode cX3_build 227 = .ok (.bipush 8, 2) := by decide +kernel
theorem dX3_build_229 : decode cX3_build 229 = .ok (.iload_n 3, 1) := by decide +kernel
theorem dX3_build_230 : decode cX3_build 230 = .ok (.aload_n 0, 1) := by decide +kernel
theorem dX3_build_231 : decode cX3_build 231 = .ok (.iload 4, 2) := by decide +kernel
theorem dX3_build_233 : decode cX3_build 233 = .ok (.invokevirtual 49, 3) := by decide +kernel
theorem dX3_build_236 : decode cX3_build 236 = .ok (.aload_n 0, 1) := by decide +kernel
theorem dX3_build_237 : decode cX3_build 237 = .ok (.iload 5, 2) := by decide +kernel
theorem dX3_build_239 : decode cX3_build 239 = .ok (.iload 7, 2) := by decide +kernel
theorem dX3_build_241 : decode cX3_build 241 = .ok (.invokevirtual 27, 3) := by decide +kernel
theorem dX3_build_244 : decode cX3_build 244 = .ok (.aload_n 0, 1) := by decide +kernel
theorem dX3_build_245 : decode cX3_build 245 = .ok (.iload 6, 2) := by decide +kernel
theorem dX3_build_247 : decode cX3_build 247 = .ok (.iload 7, 2) := by decide +kernel
theorem dX3_build_249 : decode cX3_build 249 = .ok (.invokevirtual 27, 3) := by decide +kernel
theorem dX3_build_252 : decode cX3_build 252 = .ok (.invokevirtual 52, 3) := by decide +kernel
theorem dX3_build_255 : decode cX3_build 255 = .ok (.ireturn, 1) := by decide +kernel
theorem dX3_build_256 : decode cX3_build 256 = .ok (.aload_n 0, 1) := by decide +kernel
theorem dX3_build_257 : decode cX3_build 257 = .ok (.iload 4, 2) := by decide +kernel
theorem dX3_build_259 : decode cX3_build 259 = .ok (.aload_n 0, 1) := by decide +kernel
theorem dX3_build_260 : decode cX3_build 260 = .ok (.iload 5, 2) := by decide +kernel
theorem dX3_build_262 : decode cX3_build 262 = .ok (.iload 7, 2) := by decide +kernel
theorem dX3_build_264 : decode cX3_build 264 = .ok (.invokevirtual 27, 3) := by decide +kernel
theorem dX3_build_267 : decode cX3_build 267 = .ok (.invokevirtual 67, 3) := by decide +kernel
theorem dX3_build_270 : decode cX3_build 270 = .ok (.ireturn, 1) := by decide +kernel
theorem dX3_build_271 : decode cX3_build 271 = .ok (.aload_n 0, 1) := by decide +kernel
theorem dX3_build_272 : decode cX3_build 272 = .ok (.iload 5, 2) := by decide +kernel
theorem dX3_build_274 : decode cX3_build 274 = .ok (.iload 7, 2) := by decide +kernel
theorem dX3_build_276 : decode cX3_build 276 = .ok (.invokevirtual 27, 3) := by decide +kernel
theorem dX3_build_279 : decode cX3_build 279 = .ok (.ireturn, 1) := by decide +kernel
theorem dX3_build_280 : decode cX3_build 280 = .ok (.aload_n 0, 1) := by decide +kernel
theorem dX3_build_281 : decode cX3_build 281 = .ok (.iload 4, 2) := by decide +kernel
theorem dX3_build_283 : decode cX3_build 283 = .ok (.aload_n 0, 1) := by decide +kernel
theorem dX3_build_284 : decode cX3_build 284 = .ok (.iload 5, 2) := by decide +kernel
theorem dX3_build_286 : decode cX3_build 286 = .ok (.iload 7, 2) := by decide +kernel
theorem dX3_build_288 : decode cX3_build 288 = .ok (.invokevirtual 27, 3) := by decide +kernel
theorem dX3_build_291 : decode cX3_build 291 = .ok (.invokevirtual 70, 3) := by decide +kernel
theorem dX3_build_294 : decode cX3_build 294 = .ok (.ireturn, 1) := by decide +kernel
theorem dX3_build_295 : decode cX3_build 295 = .ok (.aload_n 0, 1) := by decide +kernel
theorem dX3_build_296 : decode cX3_build 296 = .ok (.iload 4, 2) := by decide +kernel
theorem dX3_build_298 : decode cX3_build 298 = .ok (.aload_n 0, 1) := by decide +kernel
theorem dX3_build_299 : decode cX3_build 299 = .ok (.iload 5, 2) := by decide +kernel
theorem dX3_build_301 : decode cX3_build 301 = .ok (.iload 7, 2) := by decide +kernel
theorem dX3_build_303 : decode cX3_build 303 = .ok (.invokevirtual 27, 3) := by decide +kernel
theorem dX3_build_306 : decode cX3_build 306 = .ok (.invokevirtual 73, 3) := by decide +kernel
theorem dX3_build_309 : decode cX3_build 309 = .ok (.ireturn, 1) := by decide +kernel
theorem dX3_build_310 : decode cX3_build 310 = .ok (.aload_n 0, 1) := by decide +kernel
theorem dX3_build_311 : decode cX3_build 311 = .ok (.bipush 6, 2) := by decide +kernel
theorem dX3_build_313 : decode cX3_build 313 = .ok (.iload_n 3, 1) := by decide +kernel
theorem dX3_build_314 : decode cX3_build 314 = .ok (.aload_n 0, 1) := by decide +kernel
theorem dX3_build_315 : decode cX3_build 315 = .ok (.iload 5, 2) := by decide +kernel
theorem dX3_build_317 : decode cX3_build 317 = .ok (.iload 7, 2) := by decide +kernel
theorem dX3_build_319 : decode cX3_build 319 = .ok (.invokevirtual 27, 3) := by decide +kernel
theorem dX3_build_322 : decode cX3_build 322 = .ok (.iconst 0, 1) := by decide +kernel
theorem dX3_build_323 : decode cX3_build 323 = .ok (.iconst 0, 1) := by decide +kernel
theorem dX3_build_324 : decode cX3_build 324 = .ok (.invokevirtual 52, 3) := by decide +kernel
theorem dX3_build_327 : decode cX3_build 327 = .ok (.ireturn, 1) := by decide +kernel
theorem dX3_build_328 : decode cX3_build 328 = .ok (.aload_n 0, 1) := by decide +kernel
theorem dX3_build_329 : decode cX3_build 329 = .ok (.bipush 7, 2) := by decide +kernel
theorem dX3_build_331 : decode cX3_build 331 = .ok (.iload_n 3, 1) := by decide +kernel
theorem dX3_build_332 : decode cX3_build 332 = .ok (.aload_n 0, 1) := by decide +kernel
theorem dX3_build_333 : decode cX3_build 333 = .ok (.iload 5, 2) := by decide +kernel
theorem dX3_build_335 : decode cX3_build 335 = .ok (.iload 7, 2) := by decide +kernel
theorem dX3_build_337 : decode cX3_build 337 = .ok (.invokevirtual 27, 3) := by decide +kernel
theorem dX3_build_340 : decode cX3_build 340 = .ok (.iconst 0, 1) := by decide +kernel
theorem dX3_build_341 : decode cX3_build 341 = .ok (.iconst 0, 1) := by decide +kernel
theorem dX3_build_342 : decode cX3_build 342 = .ok (.invokevirtual 52, 3) := by decide +kernel
theorem dX3_build_345 : decode cX3_build 345 = .ok (.ireturn, 1) := by decide +kernel
theorem dX3_build_346 : decode cX3_build 346 = .ok (.aload_n 0, 1) := by decide +kernel
theorem dX3_build_347 : decode cX3_build 347 = .ok (.iload 4, 2) := by decide +kernel
theorem dX3_build_349 : decode cX3_build 349 = .ok (.aload_n 0, 1) := by decide +kernel
theorem dX3_build_350 : decode cX3_build 350 = .ok (.aload_n 0, 1) := by decide +kernel
theorem dX3_build_351 : decode cX3_build 351 = .ok (.getfield 15, 3) := by decide +kernel
theorem dX3_build_354 : decode cX3_build 354 = .ok (.iload 4, 2) := by decide +kernel
theorem dX3_build_356 : decode cX3_build 356 = .ok (.invokevirtual 76, 3) := by decide +kernel
theorem dX3_build_359 : decode cX3_build 359 = .ok (.aload_n 0, 1) := by decide +kernel
theorem dX3_build_360 : decode cX3_build 360 = .ok (.iload 6, 2) := by decide +kernel
theorem dX3_build_362 : decode cX3_build 362 = .ok (.iload 7, 2) := by decide +kernel
theorem dX3_build_364 : decode cX3_build 364 = .ok (.invokevirtual 27, 3) := by decide +kernel
theorem dX3_build_367 : decode cX3_build 367 = .ok (.invokevirtual 61, 3) := by decide +kernel
theorem dX3_build_370 : decode cX3_build 370 = .ok (.aload_n 0, 1) := by decide +kernel
theorem dX3_build_371 : decode cX3_build 371 = .ok (.iload 4, 2) := by decide +kernel
theorem dX3_build_373 : decode cX3_build 373 = .ok (.invokevirtual 49, 3) := by decide +kernel
theorem dX3_build_376 : decode cX3_build 376 = .ok (.aload_n 0, 1) := by decide +kernel
theorem dX3_build_377 : decode cX3_build 377 = .ok (.iload 5, 2) := by decide +kernel
theorem dX3_build_379 : decode cX3_build 379 = .ok (.iload 7, 2) := by decide +kernel
theorem dX3_build_381 : decode cX3_build 381 = .ok (.invokevirtual 27, 3) := by decide +kernel
theorem dX3_build_384 : decode cX3_build 384 = .ok (.invokevirtual 79, 3) := by decide +kernel
theorem dX3_build_387 : decode cX3_build 387 = .ok (.ireturn, 1) := by decide +kernel
theorem dX3_build_388 : decode cX3_build 388 = .ok (.bipush (-3), 2) := by decide +kernel
theorem dX3_build_390 : decode cX3_build 390 = .ok (.ireturn, 1) := by decide +kernel
theorem dX3_unpack_0 : decode cX3_unpack 0 = .ok (.aload_n 0, 1) := by decide +kernel
theorem dX3_unpack_1 : decode cX3_unpack 1 = .ok (.getfield 15, 3) := by decide +kernel
theorem dX3_unpack_4 : decode cX3_unpack 4 = .ok (.iload_n 1, 1) := by decide +kernel
theorem dX3_unpack_5 : decode cX3_unpack 5 = .ok (.invokevirtual 56, 3) := by decide +kernel
theorem dX3_unpack_8 : decode cX3_unpack 8 = .ok (.istore_n 3, 1) := by decide +kernel
theorem dX3_unpack_9 : decode cX3_unpack 9 = .ok (.aload_n 0, 1) := by decide +kernel
theorem dX3_unpack_10 : decode cX3_unpack 10 = .ok (.getfield 15, 3) := by decide +kernel
theorem dX3_unpack_13 : decode cX3_unpack 13 = .ok (.iload_n 1, 1) := by decide +kernel
theorem dX3_unpack_14 : decode cX3_unpack 14 = .ok (.invokevirtual 76, 3) := by decide +kernel
theorem dX3_unpack_17 : decode cX3_unpack 17 = .ok (.istore 4, 2) := by decide +kernel
theorem dX3_unpack_19 : decode cX3_unpack 19 = .ok (.aload_n 0, 1) := by decide +kernel
theorem dX3_unpack_20 : decode cX3_unpack 20 = .ok (.aload_n 0, 1) := by decide +kernel
theorem dX3_unpack_21 : decode cX3_unpack 21 = .ok (.aload_n 0, 1) := by decide +kernel
theorem dX3_unpack_22 : decode cX3_unpack 22 = .ok (.iload_n 3, 1) := by decide +kernel
theorem dX3_unpack_23 : decode cX3_unpack 23 = .ok (.aload_n 0, 1) := by decide +kernel
theorem dX3_unpack_24 : decode cX3_unpack 24 = .ok (.iload 4, 2) := by decide +kernel
theorem dX3_unpack_26 : decode cX3_unpack 26 = .ok (.iload_n 2, 1) := by decide +kernel
theorem dX3_unpack_27 : decode cX3_unpack 27 = .ok (.invokevirtual 61, 3) := by decide +kernel
theorem dX3_unpack_30 : decode cX3_unpack 30 = .ok (.invokevirtual 61, 3) := by decide +kernel
theorem dX3_unpack_33 : decode cX3_unpack 33 = .ok (.aload_n 0, 1) := by decide +kernel
theorem dX3_unpack_34 : decode cX3_unpack 34 = .ok (.iconst 4, 1) := by decide +kernel
theorem dX3_unpack_35 : decode cX3_unpack 35 = .ok (.iload_n 3, 1) := by decide +kernel
theorem dX3_unpack_36 : decode cX3_unpack 36 = .ok (.aload_n 0, 1) := by decide +kernel
theorem dX3_unpack_37 : decode cX3_unpack 37 = .ok (.iload_n 1, 1) := by decide +kernel
theorem dX3_unpack_38 : decode cX3_unpack 38 = .ok (.invokevirtual 49, 3) := by decide +kernel
theorem dX3_unpack_41 : decode cX3_unpack 41 = .ok (.iconst 0, 1) := by decide +kernel
theorem dX3_unpack_42 : decode cX3_unpack 42 = .ok (.iconst 0, 1) := by decide +kernel
theorem dX3_unpack_43 : decode cX3_unpack 43 = .ok (.invokevirtual 52, 3) := by decide +kernel
theorem dX3_unpack_46 : decode cX3_unpack 46 = .ok (.invokevirtual 83, 3) := by decide +kernel
theorem dX3_unpack_49 : decode cX3_unpack 49 = .ok (.aload_n 0, 1) := by decide +kernel
theorem dX3_unpack_50 : decode cX3_unpack 50 = .ok (.iconst 5, 1) := by decide +kernel
theorem dX3_unpack_51 : decode cX3_unpack 51 = .ok (.iload 4, 2) := by decide +kernel
theorem dX3_unpack_53 : decode cX3_unpack 53 = .ok (.aload_n 0, 1) := by decide +kernel
theorem dX3_unpack_54 : decode cX3_unpack 54 = .ok (.iload_n 1, 1) := by decide +kernel
theorem dX3_unpack_55 : decode cX3_unpack 55 = .ok (.invokevirtual 49, 3) := by decide +kernel
theorem dX3_unpack_58 : decode cX3_unpack 58 = .ok (.iconst 0, 1) := by decide +kernel
theorem dX3_unpack_59 : decode cX3_unpack 59 = .ok (.iconst 0, 1) := by decide +kernel
theorem dX3_unpack_60 : decode cX3_unpack 60 = .ok (.invokevirtual 52, 3) := by decide +kernel
theorem dX3_unpack_63 : decode cX3_unpack 63 = .ok (.invokevirtual 83, 3) := by decide +kernel
theorem dX3_unpack_66 : decode cX3_unpack 66 = .ok (.ireturn, 1) := by decide +kernel
theorem dX3_fire_0 : decode cX3_fire 0 = .ok (.aload_n 0, 1) := by decide +kernel
theorem dX3_fire_1 : decode cX3_fire 1 = .ok (.aload_n 0, 1) := by decide +kernel
theorem dX3_fire_2 : decode cX3_fire 2 = .ok (.aload_n 0, 1) := by decide +kernel
theorem dX3_fire_3 : decode cX3_fire 3 = .ok (.getfield 15, 3) := by decide +kernel
theorem dX3_fire_6 : decode cX3_fire 6 = .ok (.iload_n 1, 1) := by decide +kernel
theorem dX3_fire_7 : decode cX3_fire 7 = .ok (.invokevirtual 76, 3) := by decide +kernel
theorem dX3_fire_10 : decode cX3_fire 10 = .ok (.iload_n 2, 1) := by decide +kernel
theorem dX3_fire_11 : decode cX3_fire 11 = .ok (.invokevirtual 61, 3) := by decide +kernel
theorem dX3_fire_14 : decode cX3_fire 14 = .ok (.aload_n 0, 1) := by decide +kernel
theorem dX3_fire_15 : decode cX3_fire 15 = .ok (.aload_n 0, 1) := by decide +kernel
theorem dX3_fire_16 : decode cX3_fire 16 = .ok (.iload_n 1, 1) := by decide +kernel
theorem dX3_fire_17 : decode cX3_fire 17 = .ok (.invokevirtual 49, 3) := by decide +kernel
theorem dX3_fire_20 : decode cX3_fire 20 = .ok (.aload_n 0, 1) := by decide +kernel
theorem dX3_fire_21 : decode cX3_fire 21 = .ok (.aload_n 0, 1) := by decide +kernel
theorem dX3_fire_22 : decode cX3_fire 22 = .ok (.getfield 15, 3) := by decide +kernel
theorem dX3_fire_25 : decode cX3_fire 25 = .ok (.iload_n 1, 1) := by decide +kernel
theorem dX3_fire_26 : decode cX3_fire 26 = .ok (.invokevirtual 56, 3) := by decide +kernel
theorem dX3_fire_29 : decode cX3_fire 29 = .ok (.invokevirtual 49, 3) := by decide +kernel
theorem dX3_fire_32 : decode cX3_fire 32 = .ok (.invokevirtual 83, 3) := by decide +kernel
theorem dX3_fire_35 : decode cX3_fire 35 = .ok (.invokevirtual 83, 3) := by decide +kernel
theorem dX3_fire_38 : decode cX3_fire 38 = .ok (.ireturn, 1) := by decide +kernel
theorem dX3_uncurry_0 : decode cX3_uncurry 0 = .ok (.aload_n 0, 1) := by decide +kernel
theorem dX3_uncurry_1 : decode cX3_uncurry 1 = .ok (.getfield 15, 3) := by decide +kernel
theorem dX3_uncurry_4 : decode cX3_uncurry 4 = .ok (.iload_n 1, 1) := by decide +kernel
theorem dX3_uncurry_5 : decode cX3_uncurry 5 = .ok (.invokevirtual 56, 3) := by decide +kernel
theorem dX3_uncurry_8 : decode cX3_uncurry 8 = .ok (.istore_n 3, 1) := by decide +kernel
theorem dX3_uncurry_9 : decode cX3_uncurry 9 = .ok (.aload_n 0, 1) := by decide +kernel
theorem dX3_uncurry_10 : decode cX3_uncurry 10 = .ok (.getfield 15, 3) := by decide +kernel
theorem dX3_uncurry_13 : decode cX3_uncurry 13 = .ok (.iload_n 3, 1) := by decide +kernel
theorem dX3_uncurry_14 : decode cX3_uncurry 14 = .ok (.invokevirtual 56, 3) := by decide +kernel
theorem dX3_uncurry_17 : decode cX3_uncurry 17 = .ok (.istore 4, 2) := by decide +kernel
theorem dX3_uncurry_19 : decode cX3_uncurry 19 = .ok (.aload_n 0, 1) := by decide +kernel
theorem dX3_uncurry_20 : decode cX3_uncurry 20 = .ok (.getfield 15, 3) := by decide +kernel
theorem dX3_uncurry_23 : decode cX3_uncurry 23 = .ok (.iload_n 3, 1) := by decide +kernel
theorem dX3_uncurry_24 : decode cX3_uncurry 24 = .ok (.invokevirtual 76, 3) := by decide +kernel
theorem dX3_uncurry_27 : decode cX3_uncurry 27 = .ok (.istore 5, 2) := by decide +kernel
theorem dX3_uncurry_29 : decode cX3_uncurry 29 = .ok (.aload_n 0, 1) := by decide +kernel
theorem dX3_uncurry_30 : decode cX3_uncurry 30 = .ok (.iload 4, 2) := by decide +kernel
theorem dX3_uncurry_32 : decode cX3_uncurry 32 = .ok (.aload_n 0, 1) := by decide +kernel
theorem dX3_uncurry_33 : decode cX3_uncurry 33 = .ok (.iload 5, 2) := by decide +kernel
theorem dX3_uncurry_35 : decode cX3_uncurry 35 = .ok (.aload_n 0, 1) := by decide +kernel
theorem dX3_uncurry_36 : decode cX3_uncurry 36 = .ok (.getfield 15, 3) := by decide +kernel
theorem dX3_uncurry_39 : decode cX3_uncurry 39 = .ok (.iload_n 1, 1) := by decide +kernel
theorem dX3_uncurry_40 : decode cX3_uncurry 40 = .ok (.invokevirtual 76, 3) := by decide +kernel
theorem dX3_uncurry_43 : decode cX3_uncurry 43 = .ok (.invokevirtual 86, 3) := by decide +kernel
theorem dX3_uncurry_46 : decode cX3_uncurry 46 = .ok (.invokevirtual 86, 3) := by decide +kernel
theorem dX3_uncurry_49 : decode cX3_uncurry 49 = .ok (.istore 6, 2) := by decide +kernel
theorem dX3_uncurry_51 : decode cX3_uncurry 51 = .ok (.aload_n 0, 1) := by decide +kernel
theorem dX3_uncurry_52 : decode cX3_uncurry 52 = .ok (.aload_n 0, 1) := by decide +kernel
theorem dX3_uncurry_53 : decode cX3_uncurry 53 = .ok (.iload 6, 2) := by decide +kernel
theorem dX3_uncurry_55 : decode cX3_uncurry 55 = .ok (.iload_n 2, 1) := by decide +kernel
theorem dX3_uncurry_56 : decode cX3_uncurry 56 = .ok (.invokevirtual 61, 3) := by decide +kernel
theorem dX3_uncurry_59 : decode cX3_uncurry 59 = .ok (.aload_n 0, 1) := by decide +kernel
theorem dX3_uncurry_60 : decode cX3_uncurry 60 = .ok (.iload 4, 2) := by decide +kernel
theorem dX3_uncurry_62 : decode cX3_uncurry 62 = .ok (.aload_n 0, 1) := by decide +kernel
theorem dX3_uncurry_63 : decode cX3_uncurry 63 = .ok (.iload 5, 2) := by decide +kernel
theorem dX3_uncurry_65 : decode cX3_uncurry 65 = .ok (.aload_n 0, 1) := by decide +kernel
theorem dX3_uncurry_66 : decode cX3_uncurry 66 = .ok (.aload_n 0, 1) := by decide +kernel
theorem dX3_uncurry_67 : decode cX3_uncurry 67 = .ok (.iload_n 1, 1) := by decide +kernel
theorem dX3_uncurry_68 : decode cX3_uncurry 68 = .ok (.invokevirtual 49, 3) := by decide +kernel
theorem dX3_uncurry_71 : decode cX3_uncurry 71 = .ok (.aload_n 0, 1) := by decide +kernel
theorem dX3_uncurry_72 : decode cX3_uncurry 72 = .ok (.iconst 3, 1) := by decide +kernel
theorem dX3_uncurry_73 : decode cX3_uncurry 73 = .ok (.iload_n 3, 1) := by decide +kernel
theorem dX3_uncurry_74 : decode cX3_uncurry 74 = .ok (.aload_n 0, 1) := by decide +kernel
theorem dX3_uncurry_75 : decode cX3_uncurry 75 = .ok (.iload 4, 2) := by decide +kernel
theorem dX3_uncurry_77 : decode cX3_uncurry 77 = .ok (.invokevirtual 49, 3) := by decide +kernel
theorem dX3_uncurry_80 : decode cX3_uncurry 80 = .ok (.aload_n 0, 1) := by decide +kernel
theorem dX3_uncurry_81 : decode cX3_uncurry 81 = .ok (.iload 5, 2) := by decide +kernel
theorem dX3_uncurry_83 : decode cX3_uncurry 83 = .ok (.invokevirtual 49, 3) := by decide +kernel
theorem dX3_uncurry_86 : decode cX3_uncurry 86 = .ok (.iconst 0, 1) := by decide +kernel
theorem dX3_uncurry_87 : decode cX3_uncurry 87 = .ok (.invokevirtual 52, 3) := by decide +kernel
theorem dX3_uncurry_90 : decode cX3_uncurry 90 = .ok (.invokevirtual 83, 3) := by decide +kernel
theorem dX3_uncurry_93 : decode cX3_uncurry 93 = .ok (.invokevirtual 61, 3) := by decide +kernel
theorem dX3_uncurry_96 : decode cX3_uncurry 96 = .ok (.invokevirtual 61, 3) := by decide +kernel
theorem dX3_uncurry_99 : decode cX3_uncurry 99 = .ok (.invokevirtual 83, 3) := by decide +kernel
theorem dX3_uncurry_102 : decode cX3_uncurry 102 = .ok (.ireturn, 1) := by decide +kernel
theorem dX3_rejoin_0 : decode cX3_rejoin 0 = .ok (.aload_n 0, 1) := by decide +kernel
theorem dX3_rejoin_1 : decode cX3_rejoin 1 = .ok (.getfield 15, 3) := by decide +kernel
theorem dX3_rejoin_4 : decode cX3_rejoin 4 = .ok (.iload_n 1, 1) := by decide +kernel
theorem dX3_rejoin_5 : decode cX3_rejoin 5 = .ok (.invokevirtual 56, 3) := by decide +kernel
theorem dX3_rejoin_8 : decode cX3_rejoin 8 = .ok (.istore_n 3, 1) := by decide +kernel
theorem dX3_rejoin_9 : decode cX3_rejoin 9 = .ok (.aload_n 0, 1) := by decide +kernel
theorem dX3_rejoin_10 : decode cX3_rejoin 10 = .ok (.getfield 15, 3) := by decide +kernel
theorem dX3_rejoin_13 : decode cX3_rejoin 13 = .ok (.iload_n 3, 1) := by decide +kernel
theorem dX3_rejoin_14 : decode cX3_rejoin 14 = .ok (.invokevirtual 56, 3) := by decide +kernel
theorem dX3_rejoin_17 : decode cX3_rejoin 17 = .ok (.istore 4, 2) := by decide +kernel
theorem dX3_rejoin_19 : decode cX3_rejoin 19 = .ok (.aload_n 0, 1) := by decide +kernel
theorem dX3_rejoin_20 : decode cX3_rejoin 20 = .ok (.getfield 15, 3) := by decide +kernel
theorem dX3_rejoin_23 : decode cX3_rejoin 23 = .ok (.iload_n 3, 1) := by decide +kernel
theorem dX3_rejoin_24 : decode cX3_rejoin 24 = .ok (.invokevirtual 76, 3) := by decide +kernel
theorem dX3_rejoin_27 : decode cX3_rejoin 27 = .ok (.istore 5, 2) := by decide +kernel
theorem dX3_rejoin_29 : decode cX3_rejoin 29 = .ok (.aload_n 0, 1) := by decide +kernel
theorem dX3_rejoin_30 : decode cX3_rejoin 30 = .ok (.iload 4, 2) := by decide +kernel
theorem dX3_rejoin_32 : decode cX3_rejoin 32 = .ok (.aload_n 0, 1) := by decide +kernel
theorem dX3_rejoin_33 : decode cX3_rejoin 33 = .ok (.getfield 15, 3) := by decide +kernel
theorem dX3_rejoin_36 : decode cX3_rejoin 36 = .ok (.iload_n 1, 1) := by decide +kernel
theorem dX3_rejoin_37 : decode cX3_rejoin 37 = .ok (.invokevirtual 76, 3) := by decide +kernel
theorem dX3_rejoin_40 : decode cX3_rejoin 40 = .ok (.invokevirtual 86, 3) := by decide +kernel
theorem dX3_rejoin_43 : decode cX3_rejoin 43 = .ok (.istore 6, 2) := by decide +kernel
theorem dX3_rejoin_45 : decode cX3_rejoin 45 = .ok (.aload_n 0, 1) := by decide +kernel
theorem dX3_rejoin_46 : decode cX3_rejoin 46 = .ok (.iload 5, 2) := by decide +kernel
theorem dX3_rejoin_48 : decode cX3_rejoin 48 = .ok (.aload_n 0, 1) := by decide +kernel
theorem dX3_rejoin_49 : decode cX3_rejoin 49 = .ok (.getfield 15, 3) := by decide +kernel
theorem dX3_rejoin_52 : decode cX3_rejoin 52 = .ok (.iload_n 1, 1) := by decide +kernel
theorem dX3_rejoin_53 : decode cX3_rejoin 53 = .ok (.invokevirtual 76, 3) := by decide +kernel
theorem dX3_rejoin_56 : decode cX3_rejoin 56 = .ok (.invokevirtual 86, 3) := by decide +kernel
theorem dX3_rejoin_59 : decode cX3_rejoin 59 = .ok (.istore 7, 2) := by decide +kernel
theorem dX3_rejoin_61 : decode cX3_rejoin 61 = .ok (.aload_n 0, 1) := by decide +kernel
theorem dX3_rejoin_62 : decode cX3_rejoin 62 = .ok (.aload_n 0, 1) := by decide +kernel
theorem dX3_rejoin_63 : decode cX3_rejoin 63 = .ok (.aload_n 0, 1) := by decide +kernel
theorem dX3_rejoin_64 : decode cX3_rejoin 64 = .ok (.iload 6, 2) := by decide +kernel
theorem dX3_rejoin_66 : decode cX3_rejoin 66 = .ok (.aload_n 0, 1) := by decide +kernel
theorem dX3_rejoin_67 : decode cX3_rejoin 67 = .ok (.iload 7, 2) := by decide +kernel
theorem dX3_rejoin_69 : decode cX3_rejoin 69 = .ok (.iload_n 2, 1) := by decide +kernel
theorem dX3_rejoin_70 : decode cX3_rejoin 70 = .ok (.invokevirtual 61, 3) := by decide +kernel
theorem dX3_rejoin_73 : decode cX3_rejoin 73 = .ok (.invokevirtual 61, 3) := by decide +kernel
theorem dX3_rejoin_76 : decode cX3_rejoin 76 = .ok (.aload_n 0, 1) := by decide +kernel
theorem dX3_rejoin_77 : decode cX3_rejoin 77 = .ok (.iload 4, 2) := by decide +kernel
theorem dX3_rejoin_79 : decode cX3_rejoin 79 = .ok (.aload_n 0, 1) := by decide +kernel
theorem dX3_rejoin_80 : decode cX3_rejoin 80 = .ok (.aload_n 0, 1) := by decide +kernel
theorem dX3_rejoin_81 : decode cX3_rejoin 81 = .ok (.iload_n 1, 1) := by decide +kernel
theorem dX3_rejoin_82 : decode cX3_rejoin 82 = .ok (.invokevirtual 49, 3) := by decide +kernel
theorem dX3_rejoin_85 : decode cX3_rejoin 85 = .ok (.aload_n 0, 1) := by decide +kernel
theorem dX3_rejoin_86 : decode cX3_rejoin 86 = .ok (.bipush 6, 2) := by decide +kernel
theorem dX3_rejoin_88 : decode cX3_rejoin 88 = .ok (.iload_n 3, 1) := by decide +kernel
theorem dX3_rejoin_89 : decode cX3_rejoin 89 = .ok (.aload_n 0, 1) := by decide +kernel
theorem dX3_rejoin_90 : decode cX3_rejoin 90 = .ok (.iload 4, 2) := by decide +kernel
theorem dX3_rejoin_92 : decode cX3_rejoin 92 = .ok (.invokevirtual 49, 3) := by decide +kernel
theorem dX3_rejoin_95 : decode cX3_rejoin 95 = .ok (.iconst 0, 1) := by decide +kernel
theorem dX3_rejoin_96 : decode cX3_rejoin 96 = .ok (.iconst 0, 1) := by decide +kernel
theorem dX3_rejoin_97 : decode cX3_rejoin 97 = .ok (.invokevirtual 52, 3) := by decide +kernel
theorem dX3_rejoin_100 : decode cX3_rejoin 100 = .ok (.invokevirtual 83, 3) := by decide +kernel
theorem dX3_rejoin_103 : decode cX3_rejoin 103 = .ok (.invokevirtual 61, 3) := by decide +kernel
theorem dX3_rejoin_106 : decode cX3_rejoin 106 = .ok (.invokevirtual 83, 3) := by decide +kernel
theorem dX3_rejoin_109 : decode cX3_rejoin 109 = .ok (.aload_n 0, 1) := by decide +kernel
theorem dX3_rejoin_110 : decode cX3_rejoin 110 = .ok (.iload 5, 2) := by decide +kernel
theorem dX3_rejoin_112 : decode cX3_rejoin 112 = .ok (.aload_n 0, 1) := by decide +kernel
theorem dX3_rejoin_113 : decode cX3_rejoin 113 = .ok (.aload_n 0, 1) := by decide +kernel
theorem dX3_rejoin_114 : decode cX3_rejoin 114 = .ok (.iload_n 1, 1) := by decide +kernel
theorem dX3_rejoin_115 : decode cX3_rejoin 115 = .ok (.invokevirtual 49, 3) := by decide +kernel
theorem dX3_rejoin_118 : decode cX3_rejoin 118 = .ok (.aload_n 0, 1) := by decide +kernel
theorem dX3_rejoin_119 : decode cX3_rejoin 119 = .ok (.bipush 7, 2) := by decide +kernel
theorem dX3_rejoin_121 : decode cX3_rejoin 121 = .ok (.iload_n 3, 1) := by decide +kernel
theorem dX3_rejoin_122 : decode cX3_rejoin 122 = .ok (.aload_n 0, 1) := by decide +kernel
theorem dX3_rejoin_123 : decode cX3_rejoin 123 = .ok (.iload 5, 2) := by decide +kernel
theorem dX3_rejoin_125 : decode cX3_rejoin 125 = .ok (.invokevirtual 49, 3) := by decide +kernel
theorem dX3_rejoin_128 : decode cX3_rejoin 128 = .ok (.iconst 0, 1) := by decide +kernel
theorem dX3_rejoin_129 : decode cX3_rejoin 129 = .ok (.iconst 0, 1) := by decide +kernel
theorem dX3_rejoin_130 : decode cX3_rejoin 130 = .ok (.invokevirtual 52, 3) := by decide +kernel
theorem dX3_rejoin_133 : decode cX3_rejoin 133 = .ok (.invokevirtual 83, 3) := by decide +kernel
theorem dX3_rejoin_136 : decode cX3_rejoin 136 = .ok (.invokevirtual 61, 3) := by decide +kernel
theorem dX3_rejoin_139 : decode cX3_rejoin 139 = .ok (.invokevirtual 83, 3) := by decide +kernel
theorem dX3_rejoin_142 : decode cX3_rejoin 142 = .ok (.ireturn, 1) := by decide +kernel
theorem dX3_nest_0 : decode cX3_nest 0 = .ok (.aload_n 0, 1) := by decide +kernel
theorem dX3_nest_1 : decode cX3_nest 1 = .ok (.getfield 15, 3) := by decide +kernel
theorem dX3_nest_4 : decode cX3_nest 4 = .ok (.iload_n 1, 1) := by decide +kernel
theorem dX3_nest_5 : decode cX3_nest 5 = .ok (.invokevirtual 56, 3) := by decide +kernel
theorem dX3_nest_8 : decode cX3_nest 8 = .ok (.istore 5, 2) := by decide +kernel
theorem dX3_nest_10 : decode cX3_nest 10 = .ok (.aload_n 0, 1) := by decide +kernel
theorem dX3_nest_11 : decode cX3_nest 11 = .ok (.getfield 15, 3) := by decide +kernel
theorem dX3_nest_14 : decode cX3_nest 14 = .ok (.iload 5, 2) := by decide +kernel
theorem dX3_nest_16 : decode cX3_nest 16 = .ok (.invokevirtual 56, 3) := by decide +kernel
theorem dX3_nest_19 : decode cX3_nest 19 = .ok (.istore 6, 2) := by decide +kernel
theorem dX3_nest_21 : decode cX3_nest 21 = .ok (.aload_n 0, 1) := by decide +kernel
theorem dX3_nest_22 : decode cX3_nest 22 = .ok (.getfield 15, 3) := by decide +kernel
theorem dX3_nest_25 : decode cX3_nest 25 = .ok (.iload 5, 2) := by decide +kernel
theorem dX3_nest_27 : decode cX3_nest 27 = .ok (.invokevirtual 76, 3) := by decide +kernel
theorem dX3_nest_30 : decode cX3_nest 30 = .ok (.istore 7, 2) := by decide +kernel
theorem dX3_nest_32 : decode cX3_nest 32 = .ok (.aload_n 0, 1) := by decide +kernel
theorem dX3_nest_33 : decode cX3_nest 33 = .ok (.iload 7, 2) := by decide +kernel
theorem dX3_nest_35 : decode cX3_nest 35 = .ok (.aload_n 0, 1) := by decide +kernel
theorem dX3_nest_36 : decode cX3_nest 36 = .ok (.getfield 15, 3) := by decide +kernel
theorem dX3_nest_39 : decode cX3_nest 39 = .ok (.iload_n 1, 1) := by decide +kernel
theorem dX3_nest_40 : decode cX3_nest 40 = .ok (.invokevirtual 76, 3) := by decide +kernel
theorem dX3_nest_43 : decode cX3_nest 43 = .ok (.invokevirtual 86, 3) := by decide +kernel
theorem dX3_nest_46 : decode cX3_nest 46 = .ok (.istore 8, 2) := by decide +kernel
theorem dX3_nest_48 : decode cX3_nest 48 = .ok (.aload_n 0, 1) := by decide +kernel
theorem dX3_nest_49 : decode cX3_nest 49 = .ok (.aload_n 0, 1) := by decide +kernel
theorem dX3_nest_50 : decode cX3_nest 50 = .ok (.iload 8, 2) := by decide +kernel
theorem dX3_nest_52 : decode cX3_nest 52 = .ok (.iload 4, 2) := by decide +kernel
theorem dX3_nest_54 : decode cX3_nest 54 = .ok (.invokevirtual 61, 3) := by decide +kernel
theorem dX3_nest_57 : decode cX3_nest 57 = .ok (.aload_n 0, 1) := by decide +kernel
theorem dX3_nest_58 : decode cX3_nest 58 = .ok (.iload 7, 2) := by decide +kernel
theorem dX3_nest_60 : decode cX3_nest 60 = .ok (.aload_n 0, 1) := by decide +kernel
theorem dX3_nest_61 : decode cX3_nest 61 = .ok (.aload_n 0, 1) := by decide +kernel
theorem dX3_nest_62 : decode cX3_nest 62 = .ok (.iload_n 1, 1) := by decide +kernel
theorem dX3_nest_63 : decode cX3_nest 63 = .ok (.invokevirtual 49, 3) := by decide +kernel
theorem dX3_nest_66 : decode cX3_nest 66 = .ok (.aload_n 0, 1) := by decide +kernel
theorem dX3_nest_67 : decode cX3_nest 67 = .ok (.iload 6, 2) := by decide +kernel
theorem dX3_nest_69 : decode cX3_nest 69 = .ok (.aload_n 0, 1) := by decide +kernel
theorem dX3_nest_70 : decode cX3_nest 70 = .ok (.iload 7, 2) := by decide +kernel
theorem dX3_nest_72 : decode cX3_nest 72 = .ok (.invokevirtual 49, 3) := by decide +kernel
theorem dX3_nest_75 : decode cX3_nest 75 = .ok (.invokevirtual 61, 3) := by decide +kernel
theorem dX3_nest_78 : decode cX3_nest 78 = .ok (.invokevirtual 83, 3) := by decide +kernel
theorem dX3_nest_81 : decode cX3_nest 81 = .ok (.invokevirtual 61, 3) := by decide +kernel
theorem dX3_nest_84 : decode cX3_nest 84 = .ok (.invokevirtual 83, 3) := by decide +kernel
theorem dX3_nest_87 : decode cX3_nest 87 = .ok (.istore 9, 2) := by decide +kernel
theorem dX3_nest_89 : decode cX3_nest 89 = .ok (.aload_n 0, 1) := by decide +kernel
theorem dX3_nest_90 : decode cX3_nest 90 = .ok (.iload_n 2, 1) := by decide +kernel
theorem dX3_nest_91 : decode cX3_nest 91 = .ok (.aload_n 0, 1) := by decide +kernel
theorem dX3_nest_92 : decode cX3_nest 92 = .ok (.iload_n 3, 1) := by decide +kernel
theorem dX3_nest_93 : decode cX3_nest 93 = .ok (.iload 9, 2) := by decide +kernel
theorem dX3_nest_95 : decode cX3_nest 95 = .ok (.invokevirtual 83, 3) := by decide +kernel
theorem dX3_nest_98 : decode cX3_nest 98 = .ok (.invokevirtual 83, 3) := by decide +kernel
theorem dX3_nest_101 : decode cX3_nest 101 = .ok (.ireturn, 1) := by decide +kernel
theorem dX3_implication_0 : decode cX3_implication 0 = .ok (.aload_n 0, 1) := by decide +kernel
theorem dX3_implication_1 : decode cX3_implication 1 = .ok (.getfield 15, 3) := by decide +kernel
theorem dX3_implication_4 : decode cX3_implication 4 = .ok (.iconst 4, 1) := by decide +kernel
theorem dX3_implication_5 : decode cX3_implication 5 = .ok (.iload_n 1, 1) := by decide +kernel
theorem dX3_implication_6 : decode cX3_implication 6 = .ok (.iload_n 2, 1) := by decide +kernel
theorem dX3_implication_7 : decode cX3_implication 7 = .ok (.invokevirtual 89, 3) := by decide +kernel
theorem dX3_implication_10 : decode cX3_implication 10 = .ok (.ireturn, 1) := by decide +kernel
theorem dX3_given_0 : decode cX3_given 0 = .ok (.aload_n 0, 1) := by decide +kernel
theorem dX3_given_1 : decode cX3_given 1 = .ok (.getfield 9, 3) := by decide +kernel
theorem dX3_given_4 : decode cX3_given 4 = .ok (.ifCond .eq 8, 3) := by decide +kernel
theorem dX3_given_7 : decode cX3_given 7 = .ok (.bipush (-3), 2) := by decide +kernel
theorem dX3_given_9 : decode cX3_given 9 = .ok (.goto 19, 3) := by decide +kernel
theorem dX3_given_12 : decode cX3_given 12 = .ok (.aload_n 0, 1) := by decide +kernel
theorem dX3_given_13 : decode cX3_given 13 = .ok (.aload_n 0, 1) := by decide +kernel
theorem dX3_given_14 : decode cX3_given 14 = .ok (.getfield 19, 3) := by decide +kernel
theorem dX3_given_17 : decode cX3_given 17 = .ok (.iconst 0, 1) := by decide +kernel
theorem dX3_given_18 : decode cX3_given 18 = .ok (.iload_n 1, 1) := by decide +kernel
theorem dX3_given_19 : decode cX3_given 19 = .ok (.iconst 0, 1) := by decide +kernel
theorem dX3_given_20 : decode cX3_given 20 = .ok (.iconst 0, 1) := by decide +kernel
theorem dX3_given_21 : decode cX3_given 21 = .ok (.iconst 0, 1) := by decide +kernel
theorem dX3_given_22 : decode cX3_given 22 = .ok (.invokevirtual 93, 3) := by decide +kernel
theorem dX3_given_25 : decode cX3_given 25 = .ok (.invokevirtual 96, 3) := by decide +kernel
theorem dX3_given_28 : decode cX3_given 28 = .ok (.ireturn, 1) := by decide +kernel
theorem dX3_lambda_0 : decode cX3_lambda 0 = .ok (.aload_n 0, 1) := by decide +kernel
theorem dX3_lambda_1 : decode cX3_lambda 1 = .ok (.getfield 9, 3) := by decide +kernel
theorem dX3_lambda_4 : decode cX3_lambda 4 = .ok (.ifCond .eq 6, 3) := by decide +kernel
theorem dX3_lambda_7 : decode cX3_lambda 7 = .ok (.bipush (-3), 2) := by decide +kernel
theorem dX3_lambda_9 : decode cX3_lambda 9 = .ok (.ireturn, 1) := by decide +kernel
theorem dX3_lambda_10 : decode cX3_lambda 10 = .ok (.aload_n 0, 1) := by decide +kernel
theorem dX3_lambda_11 : decode cX3_lambda 11 = .ok (.aload_n 0, 1) := by decide +kernel
theorem dX3_lambda_12 : decode cX3_lambda 12 = .ok (.getfield 15, 3) := by decide +kernel
theorem dX3_lambda_15 : decode cX3_lambda 15 = .ok (.iconst 4, 1) := by decide +kernel
theorem dX3_lambda_16 : decode cX3_lambda 16 = .ok (.iload_n 1, 1) := by decide +kernel
theorem dX3_lambda_17 : decode cX3_lambda 17 = .ok (.aload_n 0, 1) := by decide +kernel
theorem dX3_lambda_18 : decode cX3_lambda 18 = .ok (.getfield 19, 3) := by decide +kernel
theorem dX3_lambda_21 : decode cX3_lambda 21 = .ok (.iload_n 2, 1) := by decide +kernel
theorem dX3_lambda_22 : decode cX3_lambda 22 = .ok (.invokevirtual 99, 3) := by decide +kernel
theorem dX3_lambda_25 : decode cX3_lambda 25 = .ok (.invokevirtual 100, 3) := by decide +kernel
theorem dX3_lambda_28 : decode cX3_lambda 28 = .ok (.invokevirtual 96, 3) := by decide +kernel
theorem dX3_lambda_31 : decode cX3_lambda 31 = .ok (.istore_n 3, 1) := by decide +kernel
theorem dX3_lambda_32 : decode cX3_lambda 32 = .ok (.aload_n 0, 1) := by decide +kernel
theorem dX3_lambda_33 : decode cX3_lambda 33 = .ok (.getfield 9, 3) := by decide +kernel
theorem dX3_lambda_36 : decode cX3_lambda 36 = .ok (.ifCond .eq 8, 3) := by decide +kernel
theorem dX3_lambda_39 : decode cX3_lambda 39 = .ok (.bipush (-3), 2) := by decide +kernel
theorem dX3_lambda_41 : decode cX3_lambda 41 = .ok (.goto 19, 3) := by decide +kernel
theorem dX3_lambda_44 : decode cX3_lambda 44 = .ok (.aload_n 0, 1) := by decide +kernel
theorem dX3_lambda_45 : decode cX3_lambda 45 = .ok (.aload_n 0, 1) := by decide +kernel
theorem dX3_lambda_46 : decode cX3_lambda 46 = .ok (.getfield 19, 3) := by decide +kernel
theorem dX3_lambda_49 : decode cX3_lambda 49 = .ok (.iconst 1, 1) := by decide +kernel
theorem dX3_lambda_50 : decode cX3_lambda 50 = .ok (.iload_n 3, 1) := by decide +kernel
theorem dX3_lambda_51 : decode cX3_lambda 51 = .ok (.iload_n 2, 1) := by decide +kernel
theorem dX3_lambda_52 : decode cX3_lambda 52 = .ok (.iconst 0, 1) := by decide +kernel
theorem dX3_lambda_53 : decode cX3_lambda 53 = .ok (.iconst 0, 1) := by decide +kernel
theorem dX3_lambda_54 : decode cX3_lambda 54 = .ok (.invokevirtual 93, 3) := by decide +kernel
theorem dX3_lambda_57 : decode cX3_lambda 57 = .ok (.invokevirtual 96, 3) := by decide +kernel
theorem dX3_lambda_60 : decode cX3_lambda 60 = .ok (.ireturn, 1) := by decide +kernel
theorem dX3_apply_0 : decode cX3_apply 0 = .ok (.aload_n 0, 1) := by decide +kernel
theorem dX3_apply_1 : decode cX3_apply 1 = .ok (.getfield 15, 3) := by decide +kernel
theorem dX3_apply_4 : decode cX3_apply 4 = .ok (.aload_n 0, 1) := by decide +kernel
theorem dX3_apply_5 : decode cX3_apply 5 = .ok (.getfield 19, 3) := by decide +kernel
theorem dX3_apply_8 : decode cX3_apply 8 = .ok (.iload_n 1, 1) := by decide +kernel
theorem dX3_apply_9 : decode cX3_apply 9 = .ok (.invokevirtual 99, 3) := by decide +kernel
theorem dX3_apply_12 : decode cX3_apply 12 = .ok (.invokevirtual 76, 3) := by decide +kernel
theorem dX3_apply_15 : decode cX3_apply 15 = .ok (.istore_n 3, 1) := by decide +kernel
theorem dX3_apply_16 : decode cX3_apply 16 = .ok (.aload_n 0, 1) := by decide +kernel
theorem dX3_apply_17 : decode cX3_apply 17 = .ok (.getfield 9, 3) := by decide +kernel
theorem dX3_apply_20 : decode cX3_apply 20 = .ok (.ifCond .eq 8, 3) := by decide +kernel
theorem dX3_apply_23 : decode cX3_apply 23 = .ok (.bipush (-3), 2) := by decide +kernel
theorem dX3_apply_25 : decode cX3_apply 25 = .ok (.goto 19, 3) := by decide +kernel
theorem dX3_apply_28 : decode cX3_apply 28 = .ok (.aload_n 0, 1) := by decide +kernel
theorem dX3_apply_29 : decode cX3_apply 29 = .ok (.aload_n 0, 1) := by decide +kernel
theorem dX3_apply_30 : decode cX3_apply 30 = .ok (.getfield 19, 3) := by decide +kernel
theorem dX3_apply_33 : decode cX3_apply 33 = .ok (.iconst 2, 1) := by decide +kernel
theorem dX3_apply_34 : decode cX3_apply 34 = .ok (.iload_n 3, 1) := by decide +kernel
theorem dX3_apply_35 : decode cX3_apply 35 = .ok (.iload_n 1, 1) := by decide +kernel
theorem dX3_apply_36 : decode cX3_apply 36 = .ok (.iload_n 2, 1) := by decide +kernel
theorem dX3_apply_37 : decode cX3_apply 37 = .ok (.iconst 0, 1) := by decide +kernel
theorem dX3_apply_38 : decode cX3_apply 38 = .ok (.invokevirtual 93, 3) := by decide +kernel
theorem dX3_apply_41 : decode cX3_apply 41 = .ok (.invokevirtual 96, 3) := by decide +kernel
theorem dX3_apply_44 : decode cX3_apply 44 = .ok (.ireturn, 1) := by decide +kernel
theorem dX3_make_0 : decode cX3_make 0 = .ok (.aload_n 0, 1) := by decide +kernel
theorem dX3_make_1 : decode cX3_make 1 = .ok (.getfield 9, 3) := by decide +kernel
theorem dX3_make_4 : decode cX3_make 4 = .ok (.ifCond .eq 8, 3) := by decide +kernel
theorem dX3_make_7 : decode cX3_make 7 = .ok (.bipush (-3), 2) := by decide +kernel
theorem dX3_make_9 : decode cX3_make 9 = .ok (.goto 21, 3) := by decide +kernel
theorem dX3_make_12 : decode cX3_make 12 = .ok (.aload_n 0, 1) := by decide +kernel
theorem dX3_make_13 : decode cX3_make 13 = .ok (.aload_n 0, 1) := by decide +kernel
theorem dX3_make_14 : decode cX3_make 14 = .ok (.getfield 19, 3) := by decide +kernel
theorem dX3_make_17 : decode cX3_make 17 = .ok (.iload_n 1, 1) := by decide +kernel
theorem dX3_make_18 : decode cX3_make 18 = .ok (.iload_n 2, 1) := by decide +kernel
theorem dX3_make_19 : decode cX3_make 19 = .ok (.iload_n 3, 1) := by decide +kernel
theorem dX3_make_20 : decode cX3_make 20 = .ok (.iload 4, 2) := by decide +kernel
theorem dX3_make_22 : decode cX3_make 22 = .ok (.iload 5, 2) := by decide +kernel
theorem dX3_make_24 : decode cX3_make 24 = .ok (.invokevirtual 93, 3) := by decide +kernel
theorem dX3_make_27 : decode cX3_make 27 = .ok (.invokevirtual 96, 3) := by decide +kernel
theorem dX3_make_30 : decode cX3_make 30 = .ok (.ireturn, 1) := by decide +kernel
theorem dX3_noted_0 : decode cX3_noted 0 = .ok (.aload_n 0, 1) := by decide +kernel
theorem dX3_noted_1 : decode cX3_noted 1 = .ok (.iload_n 1, 1) := by decide +kernel
theorem dX3_noted_2 : decode cX3_noted 2 = .ok (.bipush (-3), 2) := by decide +kernel
theorem dX3_noted_4 : decode cX3_noted 4 = .ok (.if_icmp .ne 7, 3) := by decide +kernel
theorem dX3_noted_7 : decode cX3_noted 7 = .ok (.iconst 1, 1) := by decide +kernel
theorem dX3_noted_8 : decode cX3_noted 8 = .ok (.goto 4, 3) := by decide +kernel
theorem dX3_noted_11 : decode cX3_noted 11 = .ok (.iconst 0, 1) := by decide +kernel
theorem dX3_noted_12 : decode cX3_noted 12 = .ok (.putfield 9, 3) := by decide +kernel
theorem dX3_noted_15 : decode cX3_noted 15 = .ok (.iload_n 1, 1) := by decide +kernel
theorem dX3_noted_16 : decode cX3_noted 16 = .ok (.ireturn, 1) := by decide +kernel
theorem dX4_init_0 : decode cX4_init 0 = .ok (.aload_n 0, 1) := by decide +kernel
theorem dX4_init_1 : decode cX4_init 1 = .ok (.invokespecial 3, 3) := by decide +kernel
theorem dX4_init_4 : decode cX4_init 4 = .ok (.aload_n 0, 1) := by decide +kernel
theorem dX4_init_5 : decode cX4_init 5 = .ok (.new 9, 3) := by decide +kernel
theorem dX4_init_8 : decode cX4_init 8 = .ok (.dup, 1) := by decide +kernel
theorem dX4_init_9 : decode cX4_init 9 = .ok (.bipush 82, 2) := by decide +kernel
theorem dX4_init_11 : decode cX4_init 11 = .ok (.invokespecial 11, 3) := by decide +kernel
theorem dX4_init_14 : decode cX4_init 14 = .ok (.putfield 14, 3) := by decide +kernel
theorem dX4_init_17 : decode cX4_init 17 = .ok (.aload_n 0, 1) := by decide +kernel
theorem dX4_init_18 : decode cX4_init 18 = .ok (.iconst 0, 1) := by decide +kernel
theorem dX4_init_19 : decode cX4_init 19 = .ok (.putfield 20, 3) := by decide +kernel
theorem dX4_init_22 : decode cX4_init 22 = .ok (.aload_n 0, 1) := by decide +kernel
theorem dX4_init_23 : decode cX4_init 23 = .ok (.iconst 0, 1) := by decide +kernel
theorem dX4_init_24 : decode cX4_init 24 = .ok (.putfield 24, 3) := by decide +kernel
theorem dX4_init_27 : decode cX4_init 27 = .ok (.aload_n 0, 1) := by decide +kernel
theorem dX4_init_28 : decode cX4_init 28 = .ok (.aload_n 1, 1) := by decide +kernel
theorem dX4_init_29 : decode cX4_init 29 = .ok (.putfield 27, 3) := by decide +kernel
theorem dX4_init_32 : decode cX4_init 32 = .ok (.aload_n 0, 1) := by decide +kernel
theorem dX4_init_33 : decode cX4_init 33 = .ok (.aload_n 2, 1) := by decide +kernel
theorem dX4_init_34 : decode cX4_init 34 = .ok (.putfield 31, 3) := by decide +kernel
theorem dX4_init_37 : decode cX4_init 37 = .ok (.return_, 1) := by decide +kernel
theorem dX4_fuelSpent_0 : decode cX4_fuelSpent 0 = .ok (.aload_n 0, 1) := by decide +kernel
theorem dX4_fuelSpent_1 : decode cX4_fuelSpent 1 = .ok (.getfield 24, 3) := by decide +kernel
theorem dX4_fuelSpent_4 : decode cX4_fuelSpent 4 = .ok (.ireturn, 1) := by decide +kernel
theorem dX4_run_0 : decode cX4_run 0 = .ok (.aload_n 0, 1) := by decide +kernel
theorem dX4_run_1 : decode cX4_run 1 = .ok (.iload_n 2, 1) := by decide +kernel
theorem dX4_run_2 : decode cX4_run 2 = .ok (.putfield 20, 3) := by decide +kernel
theorem dX4_run_5 : decode cX4_run 5 = .ok (.aload_n 0, 1) := by decide +kernel
theorem dX4_run_6 : decode cX4_run 6 = .ok (.iconst 0, 1) := by decide +kernel
theorem dX4_run_7 : decode cX4_run 7 = .ok (.putfield 24, 3) := by decide +kernel
theorem dX4_run_10 : decode cX4_run 10 = .ok (.aload_n 0, 1) := by decide +kernel
theorem dX4_run_11 : decode cX4_run 11 = .ok (.getfield 14, 3) := by decide +kernel
theorem dX4_run_14 : decode cX4_run 14 = .ok (.iconst 1, 1) := by decide +kernel
theorem dX4_run_15 : decode cX4_run 15 = .ok (.invokevirtual 35, 3) := by decide +kernel
theorem dX4_run_18 : decode cX4_run 18 = .ok (.aload_n 0, 1) := by decide +kernel
theorem dX4_run_19 : decode cX4_run 19 = .ok (.iload_n 1, 1) := by decide +kernel
theorem dX4_run_20 : decode cX4_run 20 = .ok (.iconst 1, 1) := by decide +kernel
theorem dX4_run_21 : decode cX4_run 21 = .ok (.invokevirtual 38, 3) := by decide +kernel
theorem dX4_run_24 : decode cX4_run 24 = .ok (.istore_n 3, 1) := by decide +kernel
theorem dX4_run_25 : decode cX4_run 25 = .ok (.iload_n 3, 1) := by decide +kernel
theorem dX4_run_26 : decode cX4_run 26 = .ok (.bipush (-4), 2) := by decide +kernel
theorem dX4_run_28 : decode cX4_run 28 = .ok (.if_icmp .ne 11, 3) := by decide +kernel
theorem dX4_run_31 : decode cX4_run 31 = .ok (.aload_n 0, 1) := by decide +kernel
theorem dX4_run_32 : decode cX4_run 32 = .ok (.aload_n 0, 1) := by decide +kernel
theorem dX4_run_33 : decode cX4_run 33 = .ok (.getfield 20, 3) := by decide +kernel
theorem dX4_run_36 : decode cX4_run 36 = .ok (.putfield 24, 3) := by decide +kernel
theorem dX4_run_39 : decode cX4_run 39 = .ok (.iload_n 3, 1) := by decide +kernel
theorem dX4_run_40 : decode cX4_run 40 = .ok (.ireturn, 1) := by decide +kernel
theorem dX4_look_0 : decode cX4_look 0 = .ok (.iload_n 2, 1) := by decide +kernel
theorem dX4_look_1 : decode cX4_look 1 = .ok (.bipush 80, 2) := by decide +kernel
theorem dX4_look_3 : decode cX4_look 3 = .ok (.if_icmp .gt 14, 3) := by decide +kernel
theorem dX4_look_6 : decode cX4_look 6 = .ok (.aload_n 0, 1) := by decide +kernel
theorem dX4_look_7 : decode cX4_look 7 = .ok (.getfield 24, 3) := by decide +kernel
theorem dX4_look_10 : decode cX4_look 10 = .ok (.aload_n 0, 1) := by decide +kernel
theorem dX4_look_11 : decode cX4_look 11 = .ok (.getfield 20, 3) := by decide +kernel
theorem dX4_look_14 : decode cX4_look 14 = .ok (.if_icmp .lt 6, 3) := by decide +kernel
theorem dX4_look_17 : decode cX4_look 17 = .ok (.bipush (-4), 2) := by decide +kernel
theorem dX4_look_19 : decode cX4_look 19 = .ok (.ireturn, 1) := by decide +kernel
theorem dX4_look_20 : decode cX4_look 20 = .ok (.aload_n 0, 1) := by decide +kernel
theorem dX4_look_21 : decode cX4_look 21 = .ok (.dup, 1) := by decide +kernel
theorem dX4_look_22 : decode cX4_look 22 = .ok (.getfield 24, 3) := by decide +kernel
theorem dX4_look_25 : decode cX4_look 25 = .ok (.iconst 1, 1) := by decide +kernel
theorem dX4_look_26 : decode cX4_look 26 = .ok (.iadd, 1) := by decide +kernel
theorem dX4_look_27 : decode cX4_look 27 = .ok (.putfield 24, 3) := by decide +kernel
theorem dX4_look_30 : decode cX4_look 30 = .ok (.aload_n 0, 1) := by decide +kernel
theorem dX4_look_31 : decode cX4_look 31 = .ok (.getfield 24, 3) := by decide +kernel
theorem dX4_look_34 : decode cX4_look 34 = .ok (.istore_n 3, 1) := by decide +kernel
theorem dX4_look_35 : decode cX4_look 35 = .ok (.aload_n 0, 1) := by decide +kernel
theorem dX4_look_36 : decode cX4_look 36 = .ok (.getfield 31, 3) := by decide +kernel
theorem dX4_look_39 : decode cX4_look 39 = .ok (.iload_n 3, 1) := by decide +kernel
theorem dX4_look_40 : decode cX4_look 40 = .ok (.iload_n 1, 1) := by decide +kernel
theorem dX4_look_41 : decode cX4_look 41 = .ok (.invokevirtual 42, 3) := by decide +kernel
theorem dX4_look_44 : decode cX4_look 44 = .ok (.aload_n 0, 1) := by decide +kernel
theorem dX4_look_45 : decode cX4_look 45 = .ok (.iload_n 1, 1) := by decide +kernel
theorem dX4_look_46 : decode cX4_look 46 = .ok (.iload_n 2, 1) := by decide +kernel
theorem dX4_look_47 : decode cX4_look 47 = .ok (.invokevirtual 48, 3) := by decide +kernel
theorem dX4_look_50 : decode cX4_look 50 = .ok (.istore 4, 2) := by decide +kernel
theorem dX4_look_52 : decode cX4_look 52 = .ok (.iconst 0, 1) := by decide +kernel
theorem dX4_look_53 : decode cX4_look 53 = .ok (.istore 5, 2) := by decide +kernel
theorem dX4_look_55 : decode cX4_look 55 = .ok (.iload 4, 2) := by decide +kernel
theorem dX4_look_57 : decode cX4_look 57 = .ok (.ifCond .eq 46, 3) := by decide +kernel
theorem dX4_look_60 : decode cX4_look 60 = .ok (.iload 5, 2) := by decide +kernel
theorem dX4_look_62 : decode cX4_look 62 = .ok (.sipush 602, 3) := by decide +kernel
theorem dX4_look_65 : decode cX4_look 65 = .ok (.if_icmp .ge 38, 3) := by decide +kernel
theorem dX4_look_68 : decode cX4_look 68 = .ok (.aload_n 0, 1) := by decide +kernel
theorem dX4_look_69 : decode cX4_look 69 = .ok (.iload_n 3, 1) := by decide +kernel
theorem dX4_look_70 : decode cX4_look 70 = .ok (.iload 4, 2) := by decide +kernel
