theorem dX0_init_0 : decode cX0_init 0 = .ok (.aload_n 0, 1) := by decide +kernel
theorem dX0_init_1 : decode cX0_init 1 = .ok (.invokespecial 3, 3) := by decide +kernel
theorem dX0_init_4 : decode cX0_init 4 = .ok (.aload_n 0, 1) := by decide +kernel
theorem dX0_init_5 : decode cX0_init 5 = .ok (.iconst 4, 1) := by decide +kernel
theorem dX0_init_6 : decode cX0_init 6 = .ok (.newarray .int, 2) := by decide +kernel
theorem dX0_init_8 : decode cX0_init 8 = .ok (.putfield 9, 3) := by decide +kernel
theorem dX0_init_11 : decode cX0_init 11 = .ok (.aload_n 0, 1) := by decide +kernel
theorem dX0_init_12 : decode cX0_init 12 = .ok (.iconst 4, 1) := by decide +kernel
theorem dX0_init_13 : decode cX0_init 13 = .ok (.newarray .int, 2) := by decide +kernel
theorem dX0_init_15 : decode cX0_init 15 = .ok (.putfield 15, 3) := by decide +kernel
theorem dX0_init_18 : decode cX0_init 18 = .ok (.aload_n 0, 1) := by decide +kernel
theorem dX0_init_19 : decode cX0_init 19 = .ok (.iconst 4, 1) := by decide +kernel
theorem dX0_init_20 : decode cX0_init 20 = .ok (.newarray .int, 2) := by decide +kernel
theorem dX0_init_22 : decode cX0_init 22 = .ok (.putfield 18, 3) := by decide +kernel
theorem dX0_init_25 : decode cX0_init 25 = .ok (.return_, 1) := by decide +kernel
theorem dX0_begin_0 : decode cX0_begin 0 = .ok (.aload_n 0, 1) := by decide +kernel
theorem dX0_begin_1 : decode cX0_begin 1 = .ok (.iconst 1, 1) := by decide +kernel
theorem dX0_begin_2 : decode cX0_begin 2 = .ok (.putfield 21, 3) := by decide +kernel
theorem dX0_begin_5 : decode cX0_begin 5 = .ok (.aload_n 0, 1) := by decide +kernel
theorem dX0_begin_6 : decode cX0_begin 6 = .ok (.iload_n 1, 1) := by decide +kernel
theorem dX0_begin_7 : decode cX0_begin 7 = .ok (.putfield 25, 3) := by decide +kernel
theorem dX0_begin_10 : decode cX0_begin 10 = .ok (.aload_n 0, 1) := by decide +kernel
theorem dX0_begin_11 : decode cX0_begin 11 = .ok (.iload_n 2, 1) := by decide +kernel
theorem dX0_begin_12 : decode cX0_begin 12 = .ok (.putfield 29, 3) := by decide +kernel
theorem dX0_begin_15 : decode cX0_begin 15 = .ok (.aload_n 0, 1) := by decide +kernel
theorem dX0_begin_16 : decode cX0_begin 16 = .ok (.iload_n 3, 1) := by decide +kernel
theorem dX0_begin_17 : decode cX0_begin 17 = .ok (.putfield 32, 3) := by decide +kernel
theorem dX0_begin_20 : decode cX0_begin 20 = .ok (.return_, 1) := by decide +kernel
theorem dX0_hasRoom_0 : decode cX0_hasRoom 0 = .ok (.aload_n 0, 1) := by decide +kernel
theorem dX0_hasRoom_1 : decode cX0_hasRoom 1 = .ok (.getfield 35, 3) := by decide +kernel
theorem dX0_hasRoom_4 : decode cX0_hasRoom 4 = .ok (.ifCond .lt 15, 3) := by decide +kernel
theorem dX0_hasRoom_7 : decode cX0_hasRoom 7 = .ok (.aload_n 0, 1) := by decide +kernel
theorem dX0_hasRoom_8 : decode cX0_hasRoom 8 = .ok (.getfield 35, 3) := by decide +kernel
theorem dX0_hasRoom_11 : decode cX0_hasRoom 11 = .ok (.iconst 4, 1) := by decide +kernel
theorem dX0_hasRoom_12 : decode cX0_hasRoom 12 = .ok (.if_icmp .ge 7, 3) := by decide +kernel
theorem dX0_hasRoom_15 : decode cX0_hasRoom 15 = .ok (.iconst 1, 1) := by decide +kernel
theorem dX0_hasRoom_16 : decode cX0_hasRoom 16 = .ok (.goto 4, 3) := by decide +kernel
theorem dX0_hasRoom_19 : decode cX0_hasRoom 19 = .ok (.iconst 0, 1) := by decide +kernel
theorem dX0_hasRoom_20 : decode cX0_hasRoom 20 = .ok (.ireturn, 1) := by decide +kernel
theorem dX0_put_0 : decode cX0_put 0 = .ok (.aload_n 0, 1) := by decide +kernel
theorem dX0_put_1 : decode cX0_put 1 = .ok (.invokevirtual 38, 3) := by decide +kernel
theorem dX0_put_4 : decode cX0_put 4 = .ok (.ifCond .eq 43, 3) := by decide +kernel
theorem dX0_put_7 : decode cX0_put 7 = .ok (.aload_n 0, 1) := by decide +kernel
theorem dX0_put_8 : decode cX0_put 8 = .ok (.getfield 9, 3) := by decide +kernel
theorem dX0_put_11 : decode cX0_put 11 = .ok (.aload_n 0, 1) := by decide +kernel
theorem dX0_put_12 : decode cX0_put 12 = .ok (.getfield 35, 3) := by decide +kernel
theorem dX0_put_15 : decode cX0_put 15 = .ok (.iload_n 1, 1) := by decide +kernel
theorem dX0_put_16 : decode cX0_put 16 = .ok (.iastore, 1) := by decide +kernel
theorem dX0_put_17 : decode cX0_put 17 = .ok (.aload_n 0, 1) := by decide +kernel
theorem dX0_put_18 : decode cX0_put 18 = .ok (.getfield 15, 3) := by decide +kernel
theorem dX0_put_21 : decode cX0_put 21 = .ok (.aload_n 0, 1) := by decide +kernel
theorem dX0_put_22 : decode cX0_put 22 = .ok (.getfield 35, 3) := by decide +kernel
theorem dX0_put_25 : decode cX0_put 25 = .ok (.iload_n 2, 1) := by decide +kernel
theorem dX0_put_26 : decode cX0_put 26 = .ok (.iastore, 1) := by decide +kernel
theorem dX0_put_27 : decode cX0_put 27 = .ok (.aload_n 0, 1) := by decide +kernel
theorem dX0_put_28 : decode cX0_put 28 = .ok (.getfield 18, 3) := by decide +kernel
theorem dX0_put_31 : decode cX0_put 31 = .ok (.aload_n 0, 1) := by decide +kernel
theorem dX0_put_32 : decode cX0_put 32 = .ok (.getfield 35, 3) := by decide +kernel
theorem dX0_put_35 : decode cX0_put 35 = .ok (.iload_n 3, 1) := by decide +kernel
theorem dX0_put_36 : decode cX0_put 36 = .ok (.iastore, 1) := by decide +kernel
theorem dX0_put_37 : decode cX0_put 37 = .ok (.aload_n 0, 1) := by decide +kernel
theorem dX0_put_38 : decode cX0_put 38 = .ok (.dup, 1) := by decide +kernel
theorem dX0_put_39 : decode cX0_put 39 = .ok (.getfield 35, 3) := by decide +kernel
theorem dX0_put_42 : decode cX0_put 42 = .ok (.iconst 1, 1) := by decide +kernel
theorem dX0_put_43 : decode cX0_put 43 = .ok (.iadd, 1) := by decide +kernel
theorem dX0_put_44 : decode cX0_put 44 = .ok (.putfield 35, 3) := by decide +kernel
theorem dX0_put_47 : decode cX0_put 47 = .ok (.return_, 1) := by decide +kernel
theorem dX0_moveUp_0 : decode cX0_moveUp 0 = .ok (.iconst 1, 1) := by decide +kernel
theorem dX0_moveUp_1 : decode cX0_moveUp 1 = .ok (.istore_n 1, 1) := by decide +kernel
theorem dX0_moveUp_2 : decode cX0_moveUp 2 = .ok (.iload_n 1, 1) := by decide +kernel
theorem dX0_moveUp_3 : decode cX0_moveUp 3 = .ok (.iconst 4, 1) := by decide +kernel
theorem dX0_moveUp_4 : decode cX0_moveUp 4 = .ok (.if_icmp .ge 51, 3) := by decide +kernel
theorem dX0_moveUp_7 : decode cX0_moveUp 7 = .ok (.aload_n 0, 1) := by decide +kernel
theorem dX0_moveUp_8 : decode cX0_moveUp 8 = .ok (.getfield 9, 3) := by decide +kernel
theorem dX0_moveUp_11 : decode cX0_moveUp 11 = .ok (.iload_n 1, 1) := by decide +kernel
theorem dX0_moveUp_12 : decode cX0_moveUp 12 = .ok (.iconst 1, 1) := by decide +kernel
theorem dX0_moveUp_13 : decode cX0_moveUp 13 = .ok (.isub, 1) := by decide +kernel
theorem dX0_moveUp_14 : decode cX0_moveUp 14 = .ok (.aload_n 0, 1) := by decide +kernel
theorem dX0_moveUp_15 : decode cX0_moveUp 15 = .ok (.getfield 9, 3) := by decide +kernel
theorem dX0_moveUp_18 : decode cX0_moveUp 18 = .ok (.iload_n 1, 1) := by decide +kernel
theorem dX0_moveUp_19 : decode cX0_moveUp 19 = .ok (.iaload, 1) := by decide +kernel
theorem dX0_moveUp_20 : decode cX0_moveUp 20 = .ok (.iastore, 1) := by decide +kernel
theorem dX0_moveUp_21 : decode cX0_moveUp 21 = .ok (.aload_n 0, 1) := by decide +kernel
theorem dX0_moveUp_22 : decode cX0_moveUp 22 = .ok (.getfield 15, 3) := by decide +kernel
theorem dX0_moveUp_25 : decode cX0_moveUp 25 = .ok (.iload_n 1, 1) := by decide +kernel
theorem dX0_moveUp_26 : decode cX0_moveUp 26 = .ok (.iconst 1, 1) := by decide +kernel
theorem dX0_moveUp_27 : decode cX0_moveUp 27 = .ok (.isub, 1) := by decide +kernel
theorem dX0_moveUp_28 : decode cX0_moveUp 28 = .ok (.aload_n 0, 1) := by decide +kernel
theorem dX0_moveUp_29 : decode cX0_moveUp 29 = .ok (.getfield 15, 3) := by decide +kernel
theorem dX0_moveUp_32 : decode cX0_moveUp 32 = .ok (.iload_n 1, 1) := by decide +kernel
theorem dX0_moveUp_33 : decode cX0_moveUp 33 = .ok (.iaload, 1) := by decide +kernel
theorem dX0_moveUp_34 : decode cX0_moveUp 34 = .ok (.iastore, 1) := by decide +kernel
theorem dX0_moveUp_35 : decode cX0_moveUp 35 = .ok (.aload_n 0, 1) := by decide +kernel
theorem dX0_moveUp_36 : decode cX0_moveUp 36 = .ok (.getfield 18, 3) := by decide +kernel
theorem dX0_moveUp_39 : decode cX0_moveUp 39 = .ok (.iload_n 1, 1) := by decide +kernel
theorem dX0_moveUp_40 : decode cX0_moveUp 40 = .ok (.iconst 1, 1) := by decide +kernel
theorem dX0_moveUp_41 : decode cX0_moveUp 41 = .ok (.isub, 1) := by decide +kernel
theorem dX0_moveUp_42 : decode cX0_moveUp 42 = .ok (.aload_n 0, 1) := by decide +kernel
theorem dX0_moveUp_43 : decode cX0_moveUp 43 = .ok (.getfield 18, 3) := by decide +kernel
theorem dX0_moveUp_46 : decode cX0_moveUp 46 = .ok (.iload_n 1, 1) := by decide +kernel
theorem dX0_moveUp_47 : decode cX0_moveUp 47 = .ok (.iaload, 1) := by decide +kernel
theorem dX0_moveUp_48 : decode cX0_moveUp 48 = .ok (.iastore, 1) := by decide +kernel
theorem dX0_moveUp_49 : decode cX0_moveUp 49 = .ok (.iinc 1 1, 3) := by decide +kernel
theorem dX0_moveUp_52 : decode cX0_moveUp 52 = .ok (.goto (-50), 3) := by decide +kernel
theorem dX0_moveUp_55 : decode cX0_moveUp 55 = .ok (.aload_n 0, 1) := by decide +kernel
theorem dX0_moveUp_56 : decode cX0_moveUp 56 = .ok (.dup, 1) := by decide +kernel
theorem dX0_moveUp_57 : decode cX0_moveUp 57 = .ok (.getfield 35, 3) := by decide +kernel
theorem dX0_moveUp_60 : decode cX0_moveUp 60 = .ok (.iconst 1, 1) := by decide +kernel
theorem dX0_moveUp_61 : decode cX0_moveUp 61 = .ok (.isub, 1) := by decide +kernel
theorem dX0_moveUp_62 : decode cX0_moveUp 62 = .ok (.putfield 35, 3) := by decide +kernel
theorem dX0_moveUp_65 : decode cX0_moveUp 65 = .ok (.return_, 1) := by decide +kernel
theorem dX1_init_0 : decode cX1_init 0 = .ok (.aload_n 0, 1) := by decide +kernel
theorem dX1_init_1 : decode cX1_init 1 = .ok (.invokespecial 3, 3) := by decide +kernel
theorem dX1_init_4 : decode cX1_init 4 = .ok (.aload_n 0, 1) := by decide +kernel
theorem dX1_init_5 : decode cX1_init 5 = .ok (.bipush 32, 2) := by decide +kernel
theorem dX1_init_7 : decode cX1_init 7 = .ok (.newarray .int, 2) := by decide +kernel
theorem dX1_init_9 : decode cX1_init 9 = .ok (.putfield 9, 3) := by decide +kernel
theorem dX1_init_12 : decode cX1_init 12 = .ok (.return_, 1) := by decide +kernel
theorem dX1_begin_0 : decode cX1_begin 0 = .ok (.aload_n 0, 1) := by decide +kernel
theorem dX1_begin_1 : decode cX1_begin 1 = .ok (.iconst 1, 1) := by decide +kernel
theorem dX1_begin_2 : decode cX1_begin 2 = .ok (.putfield 15, 3) := by decide +kernel
theorem dX1_begin_5 : decode cX1_begin 5 = .ok (.aload_n 0, 1) := by decide +kernel
theorem dX1_begin_6 : decode cX1_begin 6 = .ok (.iload_n 1, 1) := by decide +kernel
theorem dX1_begin_7 : decode cX1_begin 7 = .ok (.putfield 19, 3) := by decide +kernel
theorem dX1_begin_10 : decode cX1_begin 10 = .ok (.aload_n 0, 1) := by decide +kernel
theorem dX1_begin_11 : decode cX1_begin 11 = .ok (.iload_n 2, 1) := by decide +kernel
theorem dX1_begin_12 : decode cX1_begin 12 = .ok (.putfield 22, 3) := by decide +kernel
theorem dX1_begin_15 : decode cX1_begin 15 = .ok (.aload_n 0, 1) := by decide +kernel
theorem dX1_begin_16 : decode cX1_begin 16 = .ok (.iload_n 3, 1) := by decide +kernel
theorem dX1_begin_17 : decode cX1_begin 17 = .ok (.putfield 26, 3) := by decide +kernel
theorem dX1_begin_20 : decode cX1_begin 20 = .ok (.aload_n 0, 1) := by decide +kernel
theorem dX1_begin_21 : decode cX1_begin 21 = .ok (.iload 4, 2) := by decide +kernel
theorem dX1_begin_23 : decode cX1_begin 23 = .ok (.putfield 29, 3) := by decide +kernel
theorem dX1_begin_26 : decode cX1_begin 26 = .ok (.aload_n 0, 1) := by decide +kernel
theorem dX1_begin_27 : decode cX1_begin 27 = .ok (.iload 5, 2) := by decide +kernel
theorem dX1_begin_29 : decode cX1_begin 29 = .ok (.putfield 32, 3) := by decide +kernel
theorem dX1_begin_32 : decode cX1_begin 32 = .ok (.aload_n 0, 1) := by decide +kernel
theorem dX1_begin_33 : decode cX1_begin 33 = .ok (.iload 6, 2) := by decide +kernel
theorem dX1_begin_35 : decode cX1_begin 35 = .ok (.putfield 35, 3) := by decide +kernel
theorem dX1_begin_38 : decode cX1_begin 38 = .ok (.return_, 1) := by decide +kernel
theorem dX1_blocksTaken_0 : decode cX1_blocksTaken 0 = .ok (.aload_n 0, 1) := by decide +kernel
theorem dX1_blocksTaken_1 : decode cX1_blocksTaken 1 = .ok (.getfield 19, 3) := by decide +kernel
theorem dX1_blocksTaken_4 : decode cX1_blocksTaken 4 = .ok (.ifCond .eq 10, 3) := by decide +kernel
theorem dX1_blocksTaken_7 : decode cX1_blocksTaken 7 = .ok (.aload_n 0, 1) := by decide +kernel
theorem dX1_blocksTaken_8 : decode cX1_blocksTaken 8 = .ok (.getfield 32, 3) := by decide +kernel
theorem dX1_blocksTaken_11 : decode cX1_blocksTaken 11 = .ok (.goto 10, 3) := by decide +kernel
theorem dX1_blocksTaken_14 : decode cX1_blocksTaken 14 = .ok (.aload_n 0, 1) := by decide +kernel
theorem dX1_blocksTaken_15 : decode cX1_blocksTaken 15 = .ok (.getfield 38, 3) := by decide +kernel
theorem dX1_blocksTaken_18 : decode cX1_blocksTaken 18 = .ok (.invokestatic 41, 3) := by decide +kernel
theorem dX1_blocksTaken_21 : decode cX1_blocksTaken 21 = .ok (.ireturn, 1) := by decide +kernel
theorem dX1_put_0 : decode cX1_put 0 = .ok (.iload_n 1, 1) := by decide +kernel
theorem dX1_put_1 : decode cX1_put 1 = .ok (.ifCond .lt 33, 3) := by decide +kernel
theorem dX1_put_4 : decode cX1_put 4 = .ok (.iload_n 1, 1) := by decide +kernel
theorem dX1_put_5 : decode cX1_put 5 = .ok (.aload_n 0, 1) := by decide +kernel
theorem dX1_put_6 : decode cX1_put 6 = .ok (.getfield 9, 3) := by decide +kernel
theorem dX1_put_9 : decode cX1_put 9 = .ok (.arraylength, 1) := by decide +kernel
theorem dX1_put_10 : decode cX1_put 10 = .ok (.if_icmp .ge 24, 3) := by decide +kernel
theorem dX1_put_13 : decode cX1_put 13 = .ok (.aload_n 0, 1) := by decide +kernel
theorem dX1_put_14 : decode cX1_put 14 = .ok (.getfield 9, 3) := by decide +kernel
theorem dX1_put_17 : decode cX1_put 17 = .ok (.iload_n 1, 1) := by decide +kernel
theorem dX1_put_18 : decode cX1_put 18 = .ok (.iload_n 2, 1) := by decide +kernel
theorem dX1_put_19 : decode cX1_put 19 = .ok (.iastore, 1) := by decide +kernel
theorem dX1_put_20 : decode cX1_put 20 = .ok (.aload_n 0, 1) := by decide +kernel
theorem dX1_put_21 : decode cX1_put 21 = .ok (.aload_n 0, 1) := by decide +kernel
theorem dX1_put_22 : decode cX1_put 22 = .ok (.getfield 38, 3) := by decide +kernel
theorem dX1_put_25 : decode cX1_put 25 = .ok (.iload_n 1, 1) := by decide +kernel
theorem dX1_put_26 : decode cX1_put 26 = .ok (.iconst 1, 1) := by decide +kernel
theorem dX1_put_27 : decode cX1_put 27 = .ok (.iadd, 1) := by decide +kernel
theorem dX1_put_28 : decode cX1_put 28 = .ok (.invokestatic 45, 3) := by decide +kernel
theorem dX1_put_31 : decode cX1_put 31 = .ok (.putfield 38, 3) := by decide +kernel
theorem dX1_put_34 : decode cX1_put 34 = .ok (.return_, 1) := by decide +kernel
theorem dX2_init_0 : decode cX2_init 0 = .ok (.aload_n 0, 1) := by decide +kernel
theorem dX2_init_1 : decode cX2_init 1 = .ok (.invokespecial 1, 3) := by decide +kernel
theorem dX2_init_4 : decode cX2_init 4 = .ok (.return_, 1) := by decide +kernel
theorem dX2_begin_0 : decode cX2_begin 0 = .ok (.aload_n 0, 1) := by decide +kernel
theorem dX2_begin_1 : decode cX2_begin 1 = .ok (.iconst 1, 1) := by decide +kernel
theorem dX2_begin_2 : decode cX2_begin 2 = .ok (.putfield 7, 3) := by decide +kernel
theorem dX2_begin_5 : decode cX2_begin 5 = .ok (.aload_n 0, 1) := by decide +kernel
theorem dX2_begin_6 : decode cX2_begin 6 = .ok (.iload_n 1, 1) := by decide +kernel
theorem dX2_begin_7 : decode cX2_begin 7 = .ok (.putfield 13, 3) := by decide +kernel
theorem dX2_begin_10 : decode cX2_begin 10 = .ok (.aload_n 0, 1) := by decide +kernel
theorem dX2_begin_11 : decode cX2_begin 11 = .ok (.iload_n 2, 1) := by decide +kernel
theorem dX2_begin_12 : decode cX2_begin 12 = .ok (.putfield 17, 3) := by decide +kernel
theorem dX2_begin_15 : decode cX2_begin 15 = .ok (.aload_n 0, 1) := by decide +kernel
theorem dX2_begin_16 : decode cX2_begin 16 = .ok (.iload_n 3, 1) := by decide +kernel
theorem dX2_begin_17 : decode cX2_begin 17 = .ok (.putfield 20, 3) := by decide +kernel
theorem dX2_begin_20 : decode cX2_begin 20 = .ok (.aload_n 0, 1) := by decide +kernel
theorem dX2_begin_21 : decode cX2_begin 21 = .ok (.iload 4, 2) := by decide +kernel
theorem dX2_begin_23 : decode cX2_begin 23 = .ok (.putfield 23, 3) := by decide +kernel
theorem dX2_begin_26 : decode cX2_begin 26 = .ok (.aload_n 0, 1) := by decide +kernel
theorem dX2_begin_27 : decode cX2_begin 27 = .ok (.iload 5, 2) := by decide +kernel
theorem dX2_begin_29 : decode cX2_begin 29 = .ok (.putfield 26, 3) := by decide +kernel
theorem dX2_begin_32 : decode cX2_begin 32 = .ok (.aload_n 0, 1) := by decide +kernel
theorem dX2_begin_33 : decode cX2_begin 33 = .ok (.iconst 0, 1) := by decide +kernel
theorem dX2_begin_34 : decode cX2_begin 34 = .ok (.putfield 29, 3) := by decide +kernel
theorem dX2_begin_37 : decode cX2_begin 37 = .ok (.aload_n 0, 1) := by decide +kernel
theorem dX2_begin_38 : decode cX2_begin 38 = .ok (.iconst 0, 1) := by decide +kernel
theorem dX2_begin_39 : decode cX2_begin 39 = .ok (.putfield 32, 3) := by decide +kernel
theorem dX2_begin_42 : decode cX2_begin 42 = .ok (.aload_n 0, 1) := by decide +kernel
theorem dX2_begin_43 : decode cX2_begin 43 = .ok (.iconst 0, 1) := by decide +kernel
theorem dX2_begin_44 : decode cX2_begin 44 = .ok (.putfield 35, 3) := by decide +kernel
theorem dX2_begin_47 : decode cX2_begin 47 = .ok (.return_, 1) := by decide +kernel
theorem dX2_take_0 : decode cX2_take 0 = .ok (.aload_n 0, 1) := by decide +kernel
theorem dX2_take_1 : decode cX2_take 1 = .ok (.iload_n 1, 1) := by decide +kernel
theorem dX2_take_2 : decode cX2_take 2 = .ok (.putfield 29, 3) := by decide +kernel
theorem dX2_take_5 : decode cX2_take 5 = .ok (.aload_n 0, 1) := by decide +kernel
theorem dX2_take_6 : decode cX2_take 6 = .ok (.iload_n 2, 1) := by decide +kernel
theorem dX2_take_7 : decode cX2_take 7 = .ok (.putfield 32, 3) := by decide +kernel
theorem dX2_take_10 : decode cX2_take 10 = .ok (.aload_n 0, 1) := by decide +kernel
theorem dX2_take_11 : decode cX2_take 11 = .ok (.iload_n 3, 1) := by decide +kernel
theorem dX2_take_12 : decode cX2_take 12 = .ok (.putfield 35, 3) := by decide +kernel
theorem dX2_take_15 : decode cX2_take 15 = .ok (.aload_n 0, 1) := by decide +kernel
theorem dX2_take_16 : decode cX2_take 16 = .ok (.dup, 1) := by decide +kernel
theorem dX2_take_17 : decode cX2_take 17 = .ok (.getfield 23, 3) := by decide +kernel
theorem dX2_take_20 : decode cX2_take 20 = .ok (.iload_n 2, 1) := by decide +kernel
theorem dX2_take_21 : decode cX2_take 21 = .ok (.ior, 1) := by decide +kernel
theorem dX2_take_22 : decode cX2_take 22 = .ok (.putfield 23, 3) := by decide +kernel
theorem dX2_take_25 : decode cX2_take 25 = .ok (.aload_n 0, 1) := by decide +kernel
theorem dX2_take_26 : decode cX2_take 26 = .ok (.dup, 1) := by decide +kernel
theorem dX2_take_27 : decode cX2_take 27 = .ok (.getfield 26, 3) := by decide +kernel
theorem dX2_take_30 : decode cX2_take 30 = .ok (.iload_n 3, 1) := by decide +kernel
theorem dX2_take_31 : decode cX2_take 31 = .ok (.ior, 1) := by decide +kernel
theorem dX2_take_32 : decode cX2_take 32 = .ok (.putfield 26, 3) := by decide +kernel
theorem dX2_take_35 : decode cX2_take 35 = .ok (.return_, 1) := by decide +kernel
theorem dX3_init_0 : decode cX3_init 0 = .ok (.aload_n 0, 1) := by decide +kernel
theorem dX3_init_1 : decode cX3_init 1 = .ok (.invokespecial 1, 3) := by decide +kernel
theorem dX3_init_4 : decode cX3_init 4 = .ok (.aload_n 0, 1) := by decide +kernel
theorem dX3_init_5 : decode cX3_init 5 = .ok (.bipush 24, 2) := by decide +kernel
theorem dX3_init_7 : decode cX3_init 7 = .ok (.anewarray 9, 3) := by decide +kernel
theorem dX3_init_10 : decode cX3_init 10 = .ok (.putfield 11, 3) := by decide +kernel
theorem dX3_init_13 : decode cX3_init 13 = .ok (.iconst 0, 1) := by decide +kernel
theorem dX3_init_14 : decode cX3_init 14 = .ok (.istore_n 1, 1) := by decide +kernel
theorem dX3_init_15 : decode cX3_init 15 = .ok (.iload_n 1, 1) := by decide +kernel
theorem dX3_init_16 : decode cX3_init 16 = .ok (.aload_n 0, 1) := by decide +kernel
theorem dX3_init_17 : decode cX3_init 17 = .ok (.getfield 11, 3) := by decide +kernel
theorem dX3_init_20 : decode cX3_init 20 = .ok (.arraylength, 1) := by decide +kernel
theorem dX3_init_21 : decode cX3_init 21 = .ok (.if_icmp .ge 22, 3) := by decide +kernel
theorem dX3_init_24 : decode cX3_init 24 = .ok (.aload_n 0, 1) := by decide +kernel
theorem dX3_init_25 : decode cX3_init 25 = .ok (.getfield 11, 3) := by decide +kernel
theorem dX3_init_28 : decode cX3_init 28 = .ok (.iload_n 1, 1) := by decide +kernel
theorem dX3_init_29 : decode cX3_init 29 = .ok (.new 9, 3) := by decide +kernel
theorem dX3_init_32 : decode cX3_init 32 = .ok (.dup, 1) := by decide +kernel
theorem dX3_init_33 : decode cX3_init 33 = .ok (.invokespecial 15, 3) := by decide +kernel
theorem dX3_init_36 : decode cX3_init 36 = .ok (.aastore, 1) := by decide +kernel
theorem dX3_init_37 : decode cX3_init 37 = .ok (.iinc 1 1, 3) := by decide +kernel
theorem dX3_init_40 : decode cX3_init 40 = .ok (.goto (-25), 3) := by decide +kernel
theorem dX3_init_43 : decode cX3_init 43 = .ok (.aload_n 0, 1) := by decide +kernel
theorem dX3_init_44 : decode cX3_init 44 = .ok (.bipush 40, 2) := by decide +kernel
theorem dX3_init_46 : decode cX3_init 46 = .ok (.anewarray 16, 3) := by decide +kernel
theorem dX3_init_49 : decode cX3_init 49 = .ok (.putfield 18, 3) := by decide +kernel
theorem dX3_init_52 : decode cX3_init 52 = .ok (.iconst 0, 1) := by decide +kernel
theorem dX3_init_53 : decode cX3_init 53 = .ok (.istore_n 1, 1) := by decide +kernel
theorem dX3_init_54 : decode cX3_init 54 = .ok (.iload_n 1, 1) := by decide +kernel
theorem dX3_init_55 : decode cX3_init 55 = .ok (.aload_n 0, 1) := by decide +kernel
theorem dX3_init_56 : decode cX3_init 56 = .ok (.getfield 18, 3) := by decide +kernel
theorem dX3_init_59 : decode cX3_init 59 = .ok (.arraylength, 1) := by decide +kernel
theorem dX3_init_60 : decode cX3_init 60 = .ok (.if_icmp .ge 22, 3) := by decide +kernel
theorem dX3_init_63 : decode cX3_init 63 = .ok (.aload_n 0, 1) := by decide +kernel
theorem dX3_init_64 : decode cX3_init 64 = .ok (.getfield 18, 3) := by decide +kernel
theorem dX3_init_67 : decode cX3_init 67 = .ok (.iload_n 1, 1) := by decide +kernel
theorem dX3_init_68 : decode cX3_init 68 = .ok (.new 16, 3) := by decide +kernel
theorem dX3_init_71 : decode cX3_init 71 = .ok (.dup, 1) := by decide +kernel
theorem dX3_init_72 : decode cX3_init 72 = .ok (.invokespecial 22, 3) := by decide +kernel
theorem dX3_init_75 : decode cX3_init 75 = .ok (.aastore, 1) := by decide +kernel
theorem dX3_init_76 : decode cX3_init 76 = .ok (.iinc 1 1, 3) := by decide +kernel
theorem dX3_init_79 : decode cX3_init 79 = .ok (.goto (-25), 3) := by decide +kernel
theorem dX3_init_82 : decode cX3_init 82 = .ok (.aload_n 0, 1) := by decide +kernel
theorem dX3_init_83 : decode cX3_init 83 = .ok (.bipush 60, 2) := by decide +kernel
theorem dX3_init_85 : decode cX3_init 85 = .ok (.anewarray 23, 3) := by decide +kernel
theorem dX3_init_88 : decode cX3_init 88 = .ok (.putfield 25, 3) := by decide +kernel
theorem dX3_init_91 : decode cX3_init 91 = .ok (.iconst 0, 1) := by decide +kernel
theorem dX3_init_92 : decode cX3_init 92 = .ok (.istore_n 1, 1) := by decide +kernel
theorem dX3_init_93 : decode cX3_init 93 = .ok (.iload_n 1, 1) := by decide +kernel
theorem dX3_init_94 : decode cX3_init 94 = .ok (.aload_n 0, 1) := by decide +kernel
theorem dX3_init_95 : decode cX3_init 95 = .ok (.getfield 25, 3) := by decide +kernel
theorem dX3_init_98 : decode cX3_init 98 = .ok (.arraylength, 1) := by decide +kernel
theorem dX3_init_99 : decode cX3_init 99 = .ok (.if_icmp .ge 22, 3) := by decide +kernel
theorem dX3_init_102 : decode cX3_init 102 = .ok (.aload_n 0, 1) := by decide +kernel
theorem dX3_init_103 : decode cX3_init 103 = .ok (.getfield 25, 3) := by decide +kernel
theorem dX3_init_106 : decode cX3_init 106 = .ok (.iload_n 1, 1) := by decide +kernel
theorem dX3_init_107 : decode cX3_init 107 = .ok (.new 23, 3) := by decide +kernel
theorem dX3_init_110 : decode cX3_init 110 = .ok (.dup, 1) := by decide +kernel
theorem dX3_init_111 : decode cX3_init 111 = .ok (.invokespecial 29, 3) := by decide +kernel
theorem dX3_init_114 : decode cX3_init 114 = .ok (.aastore, 1) := by decide +kernel
theorem dX3_init_115 : decode cX3_init 115 = .ok (.iinc 1 1, 3) := by decide +kernel
theorem dX3_init_118 : decode cX3_init 118 = .ok (.goto (-25), 3) := by decide +kernel
theorem dX3_init_121 : decode cX3_init 121 = .ok (.aload_n 0, 1) := by decide +kernel
theorem dX3_init_122 : decode cX3_init 122 = .ok (.getfield 11, 3) := by decide +kernel
theorem dX3_init_125 : decode cX3_init 125 = .ok (.iconst 0, 1) := by decide +kernel
theorem dX3_init_126 : decode cX3_init 126 = .ok (.aaload, 1) := by decide +kernel
theorem dX3_init_127 : decode cX3_init 127 = .ok (.iconst (-1), 1) := by decide +kernel
theorem dX3_init_128 : decode cX3_init 128 = .ok (.iconst 0, 1) := by decide +kernel
theorem dX3_init_129 : decode cX3_init 129 = .ok (.iconst 0, 1) := by decide +kernel
theorem dX3_init_130 : decode cX3_init 130 = .ok (.iconst 0, 1) := by decide +kernel
theorem dX3_init_131 : decode cX3_init 131 = .ok (.iconst 0, 1) := by decide +kernel
theorem dX3_init_132 : decode cX3_init 132 = .ok (.invokevirtual 30, 3) := by decide +kernel
theorem dX3_init_135 : decode cX3_init 135 = .ok (.aload_n 0, 1) := by decide +kernel
theorem dX3_init_136 : decode cX3_init 136 = .ok (.iconst 1, 1) := by decide +kernel
theorem dX3_init_137 : decode cX3_init 137 = .ok (.putfield 34, 3) := by decide +kernel
theorem dX3_init_140 : decode cX3_init 140 = .ok (.aload_n 0, 1) := by decide +kernel
theorem dX3_init_141 : decode cX3_init 141 = .ok (.getfield 25, 3) := by decide +kernel
theorem dX3_init_144 : decode cX3_init 144 = .ok (.iconst 0, 1) := by decide +kernel
theorem dX3_init_145 : decode cX3_init 145 = .ok (.aaload, 1) := by decide +kernel
theorem dX3_init_146 : decode cX3_init 146 = .ok (.iconst 1, 1) := by decide +kernel
theorem dX3_init_147 : decode cX3_init 147 = .ok (.iconst (-1), 1) := by decide +kernel
theorem dX3_init_148 : decode cX3_init 148 = .ok (.iconst 0, 1) := by decide +kernel
theorem dX3_init_149 : decode cX3_init 149 = .ok (.iconst 0, 1) := by decide +kernel
theorem dX3_init_150 : decode cX3_init 150 = .ok (.sipush 200, 3) := by decide +kernel
theorem dX3_init_153 : decode cX3_init 153 = .ok (.bipush 50, 2) := by decide +kernel
theorem dX3_init_155 : decode cX3_init 155 = .ok (.invokevirtual 38, 3) := by decide +kernel
theorem dX3_init_158 : decode cX3_init 158 = .ok (.aload_n 0, 1) := by decide +kernel
theorem dX3_init_159 : decode cX3_init 159 = .ok (.iconst 1, 1) := by decide +kernel
theorem dX3_init_160 : decode cX3_init 160 = .ok (.putfield 41, 3) := by decide +kernel
theorem dX3_init_163 : decode cX3_init 163 = .ok (.aload_n 0, 1) := by decide +kernel
theorem dX3_init_164 : decode cX3_init 164 = .ok (.iconst (-1), 1) := by decide +kernel
theorem dX3_init_165 : decode cX3_init 165 = .ok (.putfield 44, 3) := by decide +kernel
theorem dX3_init_168 : decode cX3_init 168 = .ok (.return_, 1) := by decide +kernel
theorem dX3_tag_0 : decode cX3_tag 0 = .ok (.aload_n 0, 1) := by decide +kernel
theorem dX3_tag_1 : decode cX3_tag 1 = .ok (.iload_n 1, 1) := by decide +kernel
theorem dX3_tag_2 : decode cX3_tag 2 = .ok (.invokevirtual 47, 3) := by decide +kernel
theorem dX3_tag_5 : decode cX3_tag 5 = .ok (.astore_n 3, 1) := by decide +kernel
theorem dX3_tag_6 : decode cX3_tag 6 = .ok (.aload_n 3, 1) := by decide +kernel
theorem dX3_tag_7 : decode cX3_tag 7 = .ok (.ifnonnull 6, 3) := by decide +kernel
theorem dX3_tag_10 : decode cX3_tag 10 = .ok (.ldc 51, 2) := by decide +kernel
theorem dX3_tag_12 : decode cX3_tag 12 = .ok (.ireturn, 1) := by decide +kernel
theorem dX3_tag_13 : decode cX3_tag 13 = .ok (.iload_n 2, 1) := by decide +kernel
theorem dX3_tag_14 : decode cX3_tag 14 = .ok (.ifCond .lt 8, 3) := by decide +kernel
theorem dX3_tag_17 : decode cX3_tag 17 = .ok (.iload_n 2, 1) := by decide +kernel
theorem dX3_tag_18 : decode cX3_tag 18 = .ok (.iconst 2, 1) := by decide +kernel
theorem dX3_tag_19 : decode cX3_tag 19 = .ok (.if_icmp .le 6, 3) := by decide +kernel
theorem dX3_tag_22 : decode cX3_tag 22 = .ok (.ldc 52, 2) := by decide +kernel
theorem dX3_tag_24 : decode cX3_tag 24 = .ok (.ireturn, 1) := by decide +kernel
theorem dX3_tag_25 : decode cX3_tag 25 = .ok (.aload_n 0, 1) := by decide +kernel
theorem dX3_tag_26 : decode cX3_tag 26 = .ok (.getfield 53, 3) := by decide +kernel
theorem dX3_tag_29 : decode cX3_tag 29 = .ok (.bipush 24, 2) := by decide +kernel
theorem dX3_tag_31 : decode cX3_tag 31 = .ok (.if_icmp .lt 6, 3) := by decide +kernel
theorem dX3_tag_34 : decode cX3_tag 34 = .ok (.ldc 56, 2) := by decide +kernel
theorem dX3_tag_36 : decode cX3_tag 36 = .ok (.ireturn, 1) := by decide +kernel
theorem dX3_tag_37 : decode cX3_tag 37 = .ok (.iconst 1, 1) := by decide +kernel
theorem dX3_tag_38 : decode cX3_tag 38 = .ok (.aload_n 0, 1) := by decide +kernel
theorem dX3_tag_39 : decode cX3_tag 39 = .ok (.getfield 53, 3) := by decide +kernel
theorem dX3_tag_42 : decode cX3_tag 42 = .ok (.ishl, 1) := by decide +kernel
theorem dX3_tag_43 : decode cX3_tag 43 = .ok (.istore 4, 2) := by decide +kernel
theorem dX3_tag_45 : decode cX3_tag 45 = .ok (.iload_n 2, 1) := by decide +kernel
theorem dX3_tag_46 : decode cX3_tag 46 = .ok (.ifCond .ne 17, 3) := by decide +kernel
theorem dX3_tag_49 : decode cX3_tag 49 = .ok (.aload_n 0, 1) := by decide +kernel
theorem dX3_tag_50 : decode cX3_tag 50 = .ok (.dup, 1) := by decide +kernel
theorem dX3_tag_51 : decode cX3_tag 51 = .ok (.getfield 57, 3) := by decide +kernel
theorem dX3_tag_54 : decode cX3_tag 54 = .ok (.iload 4, 2) := by decide +kernel
theorem dX3_tag_56 : decode cX3_tag 56 = .ok (.ior, 1) := by decide +kernel
theorem dX3_tag_57 : decode cX3_tag 57 = .ok (.putfield 57, 3) := by decide +kernel
theorem dX3_tag_60 : decode cX3_tag 60 = .ok (.goto 14, 3) := by decide +kernel
theorem dX3_tag_63 : decode cX3_tag 63 = .ok (.aload_n 3, 1) := by decide +kernel
theorem dX3_tag_64 : decode cX3_tag 64 = .ok (.dup, 1) := by decide +kernel
theorem dX3_tag_65 : decode cX3_tag 65 = .ok (.getfield 60, 3) := by decide +kernel
theorem dX3_tag_68 : decode cX3_tag 68 = .ok (.iload 4, 2) := by decide +kernel
theorem dX3_tag_70 : decode cX3_tag 70 = .ok (.ior, 1) := by decide +kernel
theorem dX3_tag_71 : decode cX3_tag 71 = .ok (.putfield 60, 3) := by decide +kernel
theorem dX3_tag_74 : decode cX3_tag 74 = .ok (.iload_n 2, 1) := by decide +kernel
theorem dX3_tag_75 : decode cX3_tag 75 = .ok (.iconst 1, 1) := by decide +kernel
theorem dX3_tag_76 : decode cX3_tag 76 = .ok (.if_icmp .ne 17, 3) := by decide +kernel
theorem dX3_tag_79 : decode cX3_tag 79 = .ok (.aload_n 0, 1) := by decide +kernel
theorem dX3_tag_80 : decode cX3_tag 80 = .ok (.dup, 1) := by decide +kernel
theorem dX3_tag_81 : decode cX3_tag 81 = .ok (.getfield 63, 3) := by decide +kernel
theorem dX3_tag_84 : decode cX3_tag 84 = .ok (.iload 4, 2) := by decide +kernel
theorem dX3_tag_86 : decode cX3_tag 86 = .ok (.ior, 1) := by decide +kernel
theorem dX3_tag_87 : decode cX3_tag 87 = .ok (.putfield 63, 3) := by decide +kernel
theorem dX3_tag_90 : decode cX3_tag 90 = .ok (.goto 14, 3) := by decide +kernel
theorem dX3_tag_93 : decode cX3_tag 93 = .ok (.aload_n 3, 1) := by decide +kernel
theorem dX3_tag_94 : decode cX3_tag 94 = .ok (.dup, 1) := by decide +kernel
theorem dX3_tag_95 : decode cX3_tag 95 = .ok (.getfield 66, 3) := by decide +kernel
theorem dX3_tag_98 : decode cX3_tag 98 = .ok (.iload 4, 2) := by decide +kernel
theorem dX3_tag_100 : decode cX3_tag 100 = .ok (.ior, 1) := by decide +kernel
theorem dX3_tag_101 : decode cX3_tag 101 = .ok (.putfield 66, 3) := by decide +kernel
theorem dX3_tag_104 : decode cX3_tag 104 = .ok (.aload_n 0, 1) := by decide +kernel
theorem dX3_tag_105 : decode cX3_tag 105 = .ok (.dup, 1) := by decide +kernel
theorem dX3_tag_106 : decode cX3_tag 106 = .ok (.getfield 53, 3) := by decide +kernel
theorem dX3_tag_109 : decode cX3_tag 109 = .ok (.iconst 1, 1) := by decide +kernel
theorem dX3_tag_110 : decode cX3_tag 110 = .ok (.iadd, 1) := by decide +kernel
theorem dX3_tag_111 : decode cX3_tag 111 = .ok (.putfield 53, 3) := by decide +kernel
theorem dX3_tag_114 : decode cX3_tag 114 = .ok (.aload_n 0, 1) := by decide +kernel
theorem dX3_tag_115 : decode cX3_tag 115 = .ok (.getfield 53, 3) := by decide +kernel
theorem dX3_tag_118 : decode cX3_tag 118 = .ok (.iconst 1, 1) := by decide +kernel
theorem dX3_tag_119 : decode cX3_tag 119 = .ok (.isub, 1) := by decide +kernel
theorem dX3_tag_120 : decode cX3_tag 120 = .ok (.ireturn, 1) := by decide +kernel
theorem dX3_everybody_0 : decode cX3_everybody 0 = .ok (.iload_n 1, 1) := by decide +kernel
theorem dX3_everybody_1 : decode cX3_everybody 1 = .ok (.lookupswitch 37 #[(0, 27), (1, 32)], 27) := by decide +kernel
theorem dX3_everybody_28 : decode cX3_everybody 28 = .ok (.aload_n 0, 1) := by decide +kernel
theorem dX3_everybody_29 : decode cX3_everybody 29 = .ok (.getfield 57, 3) := by decide +kernel
theorem dX3_everybody_32 : decode cX3_everybody 32 = .ok (.ireturn, 1) := by decide +kernel
theorem dX3_everybody_33 : decode cX3_everybody 33 = .ok (.aload_n 0, 1) := by decide +kernel
theorem dX3_everybody_34 : decode cX3_everybody 34 = .ok (.getfield 63, 3) := by decide +kernel
theorem dX3_everybody_37 : decode cX3_everybody 37 = .ok (.ireturn, 1) := by decide +kernel
theorem dX3_everybody_38 : decode cX3_everybody 38 = .ok (.ldc 52, 2) := by decide +kernel
theorem dX3_everybody_40 : decode cX3_everybody 40 = .ok (.ireturn, 1) := by decide +kernel
theorem dX3_told_0 : decode cX3_told 0 = .ok (.aload_n 0, 1) := by decide +kernel
theorem dX3_told_1 : decode cX3_told 1 = .ok (.iload_n 1, 1) := by decide +kernel
theorem dX3_told_2 : decode cX3_told 2 = .ok (.invokevirtual 47, 3) := by decide +kernel
theorem dX3_told_5 : decode cX3_told 5 = .ok (.astore_n 3, 1) := by decide +kernel
theorem dX3_told_6 : decode cX3_told 6 = .ok (.aload_n 3, 1) := by decide +kernel
theorem dX3_told_7 : decode cX3_told 7 = .ok (.ifnonnull 6, 3) := by decide +kernel
theorem dX3_told_10 : decode cX3_told 10 = .ok (.ldc 51, 2) := by decide +kernel
theorem dX3_told_12 : decode cX3_told 12 = .ok (.ireturn, 1) := by decide +kernel
theorem dX3_told_13 : decode cX3_told 13 = .ok (.iload_n 2, 1) := by decide +kernel
theorem dX3_told_14 : decode cX3_told 14 = .ok (.tableswitch 86 0 6 #[42, 47, 52, 57, 62, 67, 73], 42) := by decide +kernel
theorem dX3_told_56 : decode cX3_told 56 = .ok (.aload_n 3, 1) := by decide +kernel
theorem dX3_told_57 : decode cX3_told 57 = .ok (.getfield 69, 3) := by decide +kernel
theorem dX3_told_60 : decode cX3_told 60 = .ok (.ireturn, 1) := by decide +kernel
theorem dX3_told_61 : decode cX3_told 61 = .ok (.aload_n 3, 1) := by decide +kernel
theorem dX3_told_62 : decode cX3_told 62 = .ok (.getfield 72, 3) := by decide +kernel
theorem dX3_told_65 : decode cX3_told 65 = .ok (.ireturn, 1) := by decide +kernel
theorem dX3_told_66 : decode cX3_told 66 = .ok (.aload_n 3, 1) := by decide +kernel
theorem dX3_told_67 : decode cX3_told 67 = .ok (.getfield 60, 3) := by decide +kernel
theorem dX3_told_70 : decode cX3_told 70 = .ok (.ireturn, 1) := by decide +kernel
theorem dX3_told_71 : decode cX3_told 71 = .ok (.aload_n 3, 1) := by decide +kernel
theorem dX3_told_72 : decode cX3_told 72 = .ok (.getfield 66, 3) := by decide +kernel
theorem dX3_told_75 : decode cX3_told 75 = .ok (.ireturn, 1) := by decide +kernel
theorem dX3_told_76 : decode cX3_told 76 = .ok (.aload_n 3, 1) := by decide +kernel
theorem dX3_told_77 : decode cX3_told 77 = .ok (.getfield 75, 3) := by decide +kernel
theorem dX3_told_80 : decode cX3_told 80 = .ok (.ireturn, 1) := by decide +kernel
theorem dX3_told_81 : decode cX3_told 81 = .ok (.aload_n 0, 1) := by decide +kernel
theorem dX3_told_82 : decode cX3_told 82 = .ok (.iload_n 1, 1) := by decide +kernel
theorem dX3_told_83 : decode cX3_told 83 = .ok (.invokevirtual 78, 3) := by decide +kernel
theorem dX3_told_86 : decode cX3_told 86 = .ok (.ireturn, 1) := by decide +kernel
theorem dX3_told_87 : decode cX3_told 87 = .ok (.aload_n 0, 1) := by decide +kernel
theorem dX3_told_88 : decode cX3_told 88 = .ok (.aload_n 3, 1) := by decide +kernel
theorem dX3_told_89 : decode cX3_told 89 = .ok (.getfield 60, 3) := by decide +kernel
theorem dX3_told_92 : decode cX3_told 92 = .ok (.aload_n 3, 1) := by decide +kernel
theorem dX3_told_93 : decode cX3_told 93 = .ok (.getfield 66, 3) := by decide +kernel
theorem dX3_told_96 : decode cX3_told 96 = .ok (.invokevirtual 82, 3) := by decide +kernel
theorem dX3_told_99 : decode cX3_told 99 = .ok (.ireturn, 1) := by decide +kernel
theorem dX3_told_100 : decode cX3_told 100 = .ok (.ldc 52, 2) := by decide +kernel
theorem dX3_told_102 : decode cX3_told 102 = .ok (.ireturn, 1) := by decide +kernel
theorem dX3_label_0 : decode cX3_label 0 = .ok (.aload_n 0, 1) := by decide +kernel
theorem dX3_label_1 : decode cX3_label 1 = .ok (.iload_n 1, 1) := by decide +kernel
theorem dX3_label_2 : decode cX3_label 2 = .ok (.invokevirtual 47, 3) := by decide +kernel
theorem dX3_label_5 : decode cX3_label 5 = .ok (.astore 4, 2) := by decide +kernel
theorem dX3_label_7 : decode cX3_label 7 = .ok (.aload 4, 2) := by decide +kernel
theorem dX3_label_9 : decode cX3_label 9 = .ok (.ifnonnull 6, 3) := by decide +kernel
theorem dX3_label_12 : decode cX3_label 12 = .ok (.ldc 51, 2) := by decide +kernel
theorem dX3_label_14 : decode cX3_label 14 = .ok (.ireturn, 1) := by decide +kernel
theorem dX3_label_15 : decode cX3_label 15 = .ok (.iload_n 2, 1) := by decide +kernel
theorem dX3_label_16 : decode cX3_label 16 = .ok (.ifCond .lt 16, 3) := by decide +kernel
theorem dX3_label_19 : decode cX3_label 19 = .ok (.iload_n 2, 1) := by decide +kernel
theorem dX3_label_20 : decode cX3_label 20 = .ok (.iconst 1, 1) := by decide +kernel
theorem dX3_label_21 : decode cX3_label 21 = .ok (.if_icmp .gt 11, 3) := by decide +kernel
theorem dX3_label_24 : decode cX3_label 24 = .ok (.aload_n 0, 1) := by decide +kernel
theorem dX3_label_25 : decode cX3_label 25 = .ok (.iload_n 3, 1) := by decide +kernel
theorem dX3_label_26 : decode cX3_label 26 = .ok (.invokevirtual 86, 3) := by decide +kernel
theorem dX3_label_29 : decode cX3_label 29 = .ok (.ifCond .ne 6, 3) := by decide +kernel
theorem dX3_label_32 : decode cX3_label 32 = .ok (.ldc 52, 2) := by decide +kernel
theorem dX3_label_34 : decode cX3_label 34 = .ok (.ireturn, 1) := by decide +kernel
theorem dX3_label_35 : decode cX3_label 35 = .ok (.iload_n 2, 1) := by decide +kernel
theorem dX3_label_36 : decode cX3_label 36 = .ok (.ifCond .ne 11, 3) := by decide +kernel
theorem dX3_label_39 : decode cX3_label 39 = .ok (.aload 4, 2) := by decide +kernel
theorem dX3_label_41 : decode cX3_label 41 = .ok (.getfield 69, 3) := by decide +kernel
theorem dX3_label_44 : decode cX3_label 44 = .ok (.goto 8, 3) := by decide +kernel
theorem dX3_label_47 : decode cX3_label 47 = .ok (.aload 4, 2) := by decide +kernel
theorem dX3_label_49 : decode cX3_label 49 = .ok (.getfield 72, 3) := by decide +kernel
theorem dX3_label_52 : decode cX3_label 52 = .ok (.istore 5, 2) := by decide +kernel
theorem dX3_label_54 : decode cX3_label 54 = .ok (.iload_n 2, 1) := by decide +kernel
theorem dX3_label_55 : decode cX3_label 55 = .ok (.ifCond .ne 7, 3) := by decide +kernel
theorem dX3_label_58 : decode cX3_label 58 = .ok (.iload_n 3, 1) := by decide +kernel
theorem dX3_label_59 : decode cX3_label 59 = .ok (.goto 8, 3) := by decide +kernel
theorem dX3_label_62 : decode cX3_label 62 = .ok (.aload 4, 2) := by decide +kernel
theorem dX3_label_64 : decode cX3_label 64 = .ok (.getfield 69, 3) := by decide +kernel
theorem dX3_label_67 : decode cX3_label 67 = .ok (.istore 6, 2) := by decide +kernel
theorem dX3_label_69 : decode cX3_label 69 = .ok (.iload_n 2, 1) := by decide +kernel
theorem dX3_label_70 : decode cX3_label 70 = .ok (.ifCond .ne 11, 3) := by decide +kernel
theorem dX3_label_73 : decode cX3_label 73 = .ok (.aload 4, 2) := by decide +kernel
theorem dX3_label_75 : decode cX3_label 75 = .ok (.getfield 72, 3) := by decide +kernel
theorem dX3_label_78 : decode cX3_label 78 = .ok (.goto 4, 3) := by decide +kernel
theorem dX3_label_81 : decode cX3_label 81 = .ok (.iload_n 3, 1) := by decide +kernel
theorem dX3_label_82 : decode cX3_label 82 = .ok (.istore 7, 2) := by decide +kernel
theorem dX3_label_84 : decode cX3_label 84 = .ok (.aload_n 0, 1) := by decide +kernel
theorem dX3_label_85 : decode cX3_label 85 = .ok (.aload 4, 2) := by decide +kernel
theorem dX3_label_87 : decode cX3_label 87 = .ok (.iload 5, 2) := by decide +kernel
theorem dX3_label_89 : decode cX3_label 89 = .ok (.iload_n 3, 1) := by decide +kernel
theorem dX3_label_90 : decode cX3_label 90 = .ok (.invokevirtual 90, 3) := by decide +kernel
theorem dX3_label_93 : decode cX3_label 93 = .ok (.ifCond .eq 29, 3) := by decide +kernel
theorem dX3_label_96 : decode cX3_label 96 = .ok (.aload_n 0, 1) := by decide +kernel
theorem dX3_label_97 : decode cX3_label 97 = .ok (.iload_n 1, 1) := by decide +kernel
theorem dX3_label_98 : decode cX3_label 98 = .ok (.iload 6, 2) := by decide +kernel
theorem dX3_label_100 : decode cX3_label 100 = .ok (.iload 7, 2) := by decide +kernel
theorem dX3_label_102 : decode cX3_label 102 = .ok (.aload_n 0, 1) := by decide +kernel
theorem dX3_label_103 : decode cX3_label 103 = .ok (.aload 4, 2) := by decide +kernel
theorem dX3_label_105 : decode cX3_label 105 = .ok (.getfield 60, 3) := by decide +kernel
theorem dX3_label_108 : decode cX3_label 108 = .ok (.aload 4, 2) := by decide +kernel
theorem dX3_label_110 : decode cX3_label 110 = .ok (.getfield 66, 3) := by decide +kernel
theorem dX3_label_113 : decode cX3_label 113 = .ok (.invokevirtual 82, 3) := by decide +kernel
theorem dX3_label_116 : decode cX3_label 116 = .ok (.invokevirtual 94, 3) := by decide +kernel
theorem dX3_label_119 : decode cX3_label 119 = .ok (.ifCond .ne 6, 3) := by decide +kernel
theorem dX3_label_122 : decode cX3_label 122 = .ok (.ldc 98, 2) := by decide +kernel
theorem dX3_label_124 : decode cX3_label 124 = .ok (.ireturn, 1) := by decide +kernel
theorem dX3_label_125 : decode cX3_label 125 = .ok (.aload 4, 2) := by decide +kernel
theorem dX3_label_127 : decode cX3_label 127 = .ok (.iload 6, 2) := by decide +kernel
theorem dX3_label_129 : decode cX3_label 129 = .ok (.putfield 69, 3) := by decide +kernel
theorem dX3_label_132 : decode cX3_label 132 = .ok (.aload 4, 2) := by decide +kernel
theorem dX3_label_134 : decode cX3_label 134 = .ok (.iload 7, 2) := by decide +kernel
theorem dX3_label_136 : decode cX3_label 136 = .ok (.putfield 72, 3) := by decide +kernel
theorem dX3_label_139 : decode cX3_label 139 = .ok (.iload 5, 2) := by decide +kernel
theorem dX3_label_141 : decode cX3_label 141 = .ok (.ireturn, 1) := by decide +kernel
theorem dX3_drop_0 : decode cX3_drop 0 = .ok (.aload_n 0, 1) := by decide +kernel
theorem dX3_drop_1 : decode cX3_drop 1 = .ok (.iload_n 1, 1) := by decide +kernel
theorem dX3_drop_2 : decode cX3_drop 2 = .ok (.invokevirtual 47, 3) := by decide +kernel
theorem dX3_drop_5 : decode cX3_drop 5 = .ok (.astore 4, 2) := by decide +kernel
theorem dX3_drop_7 : decode cX3_drop 7 = .ok (.aload 4, 2) := by decide +kernel
theorem dX3_drop_9 : decode cX3_drop 9 = .ok (.ifnonnull 6, 3) := by decide +kernel
theorem dX3_drop_12 : decode cX3_drop 12 = .ok (.ldc 51, 2) := by decide +kernel
theorem dX3_drop_14 : decode cX3_drop 14 = .ok (.ireturn, 1) := by decide +kernel
theorem dX3_drop_15 : decode cX3_drop 15 = .ok (.iload_n 2, 1) := by decide +kernel
theorem dX3_drop_16 : decode cX3_drop 16 = .ok (.ifCond .lt 16, 3) := by decide +kernel
theorem dX3_drop_19 : decode cX3_drop 19 = .ok (.iload_n 2, 1) := by decide +kernel
theorem dX3_drop_20 : decode cX3_drop 20 = .ok (.iconst 1, 1) := by decide +kernel
theorem dX3_drop_21 : decode cX3_drop 21 = .ok (.if_icmp .gt 11, 3) := by decide +kernel
theorem dX3_drop_24 : decode cX3_drop 24 = .ok (.aload_n 0, 1) := by decide +kernel
theorem dX3_drop_25 : decode cX3_drop 25 = .ok (.iload_n 3, 1) := by decide +kernel
theorem dX3_drop_26 : decode cX3_drop 26 = .ok (.invokevirtual 86, 3) := by decide +kernel
theorem dX3_drop_29 : decode cX3_drop 29 = .ok (.ifCond .ne 6, 3) := by decide +kernel
theorem dX3_drop_32 : decode cX3_drop 32 = .ok (.ldc 52, 2) := by decide +kernel
theorem dX3_drop_34 : decode cX3_drop 34 = .ok (.ireturn, 1) := by decide +kernel
theorem dX3_drop_35 : decode cX3_drop 35 = .ok (.iload_n 2, 1) := by decide +kernel
theorem dX3_drop_36 : decode cX3_drop 36 = .ok (.ifCond .ne 15, 3) := by decide +kernel
theorem dX3_drop_39 : decode cX3_drop 39 = .ok (.aload 4, 2) := by decide +kernel
theorem dX3_drop_41 : decode cX3_drop 41 = .ok (.getfield 60, 3) := by decide +kernel
theorem dX3_drop_44 : decode cX3_drop 44 = .ok (.iload_n 3, 1) := by decide +kernel
theorem dX3_drop_45 : decode cX3_drop 45 = .ok (.iconst (-1), 1) := by decide +kernel
theorem dX3_drop_46 : decode cX3_drop 46 = .ok (.ixor, 1) := by decide +kernel
theorem dX3_drop_47 : decode cX3_drop 47 = .ok (.iand, 1) := by decide +kernel
theorem dX3_drop_48 : decode cX3_drop 48 = .ok (.goto 8, 3) := by decide +kernel
theorem dX3_drop_51 : decode cX3_drop 51 = .ok (.aload 4, 2) := by decide +kernel
theorem dX3_drop_53 : decode cX3_drop 53 = .ok (.getfield 60, 3) := by decide +kernel
theorem dX3_drop_56 : decode cX3_drop 56 = .ok (.istore 5, 2) := by decide +kernel
theorem dX3_drop_58 : decode cX3_drop 58 = .ok (.iload_n 2, 1) := by decide +kernel
theorem dX3_drop_59 : decode cX3_drop 59 = .ok (.ifCond .ne 11, 3) := by decide +kernel
theorem dX3_drop_62 : decode cX3_drop 62 = .ok (.aload 4, 2) := by decide +kernel
theorem dX3_drop_64 : decode cX3_drop 64 = .ok (.getfield 66, 3) := by decide +kernel
theorem dX3_drop_67 : decode cX3_drop 67 = .ok (.goto 12, 3) := by decide +kernel
theorem dX3_drop_70 : decode cX3_drop 70 = .ok (.aload 4, 2) := by decide +kernel
theorem dX3_drop_72 : decode cX3_drop 72 = .ok (.getfield 66, 3) := by decide +kernel
theorem dX3_drop_75 : decode cX3_drop 75 = .ok (.iload_n 3, 1) := by decide +kernel
theorem dX3_drop_76 : decode cX3_drop 76 = .ok (.iconst (-1), 1) := by decide +kernel
theorem dX3_drop_77 : decode cX3_drop 77 = .ok (.ixor, 1) := by decide +kernel
theorem dX3_drop_78 : decode cX3_drop 78 = .ok (.iand, 1) := by decide +kernel
theorem dX3_drop_79 : decode cX3_drop 79 = .ok (.istore 6, 2) := by decide +kernel
theorem dX3_drop_81 : decode cX3_drop 81 = .ok (.aload_n 0, 1) := by decide +kernel
theorem dX3_drop_82 : decode cX3_drop 82 = .ok (.iload_n 1, 1) := by decide +kernel
theorem dX3_drop_83 : decode cX3_drop 83 = .ok (.aload 4, 2) := by decide +kernel
theorem dX3_drop_85 : decode cX3_drop 85 = .ok (.getfield 69, 3) := by decide +kernel
theorem dX3_drop_88 : decode cX3_drop 88 = .ok (.aload 4, 2) := by decide +kernel
theorem dX3_drop_90 : decode cX3_drop 90 = .ok (.getfield 72, 3) := by decide +kernel
theorem dX3_drop_93 : decode cX3_drop 93 = .ok (.aload_n 0, 1) := by decide +kernel
theorem dX3_drop_94 : decode cX3_drop 94 = .ok (.iload 5, 2) := by decide +kernel
theorem dX3_drop_96 : decode cX3_drop 96 = .ok (.iload 6, 2) := by decide +kernel
theorem dX3_drop_98 : decode cX3_drop 98 = .ok (.invokevirtual 82, 3) := by decide +kernel
theorem dX3_drop_101 : decode cX3_drop 101 = .ok (.invokevirtual 94, 3) := by decide +kernel
theorem dX3_drop_104 : decode cX3_drop 104 = .ok (.ifCond .ne 6, 3) := by decide +kernel
theorem dX3_drop_107 : decode cX3_drop 107 = .ok (.ldc 98, 2) := by decide +kernel
theorem dX3_drop_109 : decode cX3_drop 109 = .ok (.ireturn, 1) := by decide +kernel
theorem dX3_drop_110 : decode cX3_drop 110 = .ok (.aload 4, 2) := by decide +kernel
theorem dX3_drop_112 : decode cX3_drop 112 = .ok (.iload 5, 2) := by decide +kernel
theorem dX3_drop_114 : decode cX3_drop 114 = .ok (.putfield 60, 3) := by decide +kernel
theorem dX3_drop_117 : decode cX3_drop 117 = .ok (.aload 4, 2) := by decide +kernel
theorem dX3_drop_119 : decode cX3_drop 119 = .ok (.iload 6, 2) := by decide +kernel
theorem dX3_drop_121 : decode cX3_drop 121 = .ok (.putfield 66, 3) := by decide +kernel
theorem dX3_drop_124 : decode cX3_drop 124 = .ok (.iload_n 2, 1) := by decide +kernel
theorem dX3_drop_125 : decode cX3_drop 125 = .ok (.ifCond .ne 8, 3) := by decide +kernel
theorem dX3_drop_128 : decode cX3_drop 128 = .ok (.iload 5, 2) := by decide +kernel
theorem dX3_drop_130 : decode cX3_drop 130 = .ok (.goto 5, 3) := by decide +kernel
theorem dX3_drop_133 : decode cX3_drop 133 = .ok (.iload 6, 2) := by decide +kernel
theorem dX3_drop_135 : decode cX3_drop 135 = .ok (.ireturn, 1) := by decide +kernel
theorem dX3_spawn_0 : decode cX3_spawn 0 = .ok (.aload_n 0, 1) := by decide +kernel
theorem dX3_spawn_1 : decode cX3_spawn 1 = .ok (.iload_n 1, 1) := by decide +kernel
theorem dX3_spawn_2 : decode cX3_spawn 2 = .ok (.invokevirtual 47, 3) := by decide +kernel
theorem dX3_spawn_5 : decode cX3_spawn 5 = .ok (.astore 6, 2) := by decide +kernel
theorem dX3_spawn_7 : decode cX3_spawn 7 = .ok (.aload 6, 2) := by decide +kernel
theorem dX3_spawn_9 : decode cX3_spawn 9 = .ok (.ifnonnull 6, 3) := by decide +kernel
theorem dX3_spawn_12 : decode cX3_spawn 12 = .ok (.ldc 51, 2) := by decide +kernel
theorem dX3_spawn_14 : decode cX3_spawn 14 = .ok (.ireturn, 1) := by decide +kernel
theorem dX3_spawn_15 : decode cX3_spawn 15 = .ok (.aload_n 0, 1) := by decide +kernel
theorem dX3_spawn_16 : decode cX3_spawn 16 = .ok (.iload_n 2, 1) := by decide +kernel
theorem dX3_spawn_17 : decode cX3_spawn 17 = .ok (.invokevirtual 86, 3) := by decide +kernel
theorem dX3_spawn_20 : decode cX3_spawn 20 = .ok (.ifCond .eq 29, 3) := by decide +kernel
theorem dX3_spawn_23 : decode cX3_spawn 23 = .ok (.aload_n 0, 1) := by decide +kernel
theorem dX3_spawn_24 : decode cX3_spawn 24 = .ok (.iload_n 3, 1) := by decide +kernel
theorem dX3_spawn_25 : decode cX3_spawn 25 = .ok (.invokevirtual 86, 3) := by decide +kernel
theorem dX3_spawn_28 : decode cX3_spawn 28 = .ok (.ifCond .eq 21, 3) := by decide +kernel
theorem dX3_spawn_31 : decode cX3_spawn 31 = .ok (.aload_n 0, 1) := by decide +kernel
theorem dX3_spawn_32 : decode cX3_spawn 32 = .ok (.iload 4, 2) := by decide +kernel
theorem dX3_spawn_34 : decode cX3_spawn 34 = .ok (.invokevirtual 86, 3) := by decide +kernel
theorem dX3_spawn_37 : decode cX3_spawn 37 = .ok (.ifCond .eq 12, 3) := by decide +kernel
theorem dX3_spawn_40 : decode cX3_spawn 40 = .ok (.aload_n 0, 1) := by decide +kernel
theorem dX3_spawn_41 : decode cX3_spawn 41 = .ok (.iload 5, 2) := by decide +kernel
theorem dX3_spawn_43 : decode cX3_spawn 43 = .ok (.invokevirtual 86, 3) := by decide +kernel
theorem dX3_spawn_46 : decode cX3_spawn 46 = .ok (.ifCond .ne 6, 3) := by decide +kernel
theorem dX3_spawn_49 : decode cX3_spawn 49 = .ok (.ldc 52, 2) := by decide +kernel
theorem dX3_spawn_51 : decode cX3_spawn 51 = .ok (.ireturn, 1) := by decide +kernel
theorem dX3_spawn_52 : decode cX3_spawn 52 = .ok (.aload_n 0, 1) := by decide +kernel
theorem dX3_spawn_53 : decode cX3_spawn 53 = .ok (.aload 6, 2) := by decide +kernel
theorem dX3_spawn_55 : decode cX3_spawn 55 = .ok (.aload 6, 2) := by decide +kernel
theorem dX3_spawn_57 : decode cX3_spawn 57 = .ok (.getfield 69, 3) := by decide +kernel
theorem dX3_spawn_60 : decode cX3_spawn 60 = .ok (.iload_n 2, 1) := by decide +kernel
theorem dX3_spawn_61 : decode cX3_spawn 61 = .ok (.invokevirtual 90, 3) := by decide +kernel
theorem dX3_spawn_64 : decode cX3_spawn 64 = .ok (.ifCond .eq 22, 3) := by decide +kernel
theorem dX3_spawn_67 : decode cX3_spawn 67 = .ok (.aload_n 0, 1) := by decide +kernel
theorem dX3_spawn_68 : decode cX3_spawn 68 = .ok (.aload 6, 2) := by decide +kernel
theorem dX3_spawn_70 : decode cX3_spawn 70 = .ok (.aload 6, 2) := by decide +kernel
theorem dX3_spawn_72 : decode cX3_spawn 72 = .ok (.getfield 72, 3) := by decide +kernel
theorem dX3_spawn_75 : decode cX3_spawn 75 = .ok (.iload_n 3, 1) := by decide +kernel
theorem dX3_spawn_76 : decode cX3_spawn 76 = .ok (.invokevirtual 90, 3) := by decide +kernel
theorem dX3_spawn_79 : decode cX3_spawn 79 = .ok (.ifCond .eq 7, 3) := by decide +kernel
theorem dX3_spawn_82 : decode cX3_spawn 82 = .ok (.iconst 1, 1) := by decide +kernel
theorem dX3_spawn_83 : decode cX3_spawn 83 = .ok (.goto 4, 3) := by decide +kernel
theorem dX3_spawn_86 : decode cX3_spawn 86 = .ok (.iconst 0, 1) := by decide +kernel
theorem dX3_spawn_87 : decode cX3_spawn 87 = .ok (.istore 7, 2) := by decide +kernel
theorem dX3_spawn_89 : decode cX3_spawn 89 = .ok (.iload 7, 2) := by decide +kernel
theorem dX3_spawn_91 : decode cX3_spawn 91 = .ok (.ifCond .eq 15, 3) := by decide +kernel
theorem dX3_spawn_94 : decode cX3_spawn 94 = .ok (.aload 6, 2) := by decide +kernel
theorem dX3_spawn_96 : decode cX3_spawn 96 = .ok (.iload 4, 2) := by decide +kernel
theorem dX3_spawn_98 : decode cX3_spawn 98 = .ok (.iload 5, 2) := by decide +kernel
theorem dX3_spawn_100 : decode cX3_spawn 100 = .ok (.invokestatic 99, 3) := by decide +kernel
theorem dX3_spawn_103 : decode cX3_spawn 103 = .ok (.ifCond .ne 6, 3) := by decide +kernel
theorem dX3_spawn_106 : decode cX3_spawn 106 = .ok (.ldc 98, 2) := by decide +kernel
theorem dX3_spawn_108 : decode cX3_spawn 108 = .ok (.ireturn, 1) := by decide +kernel
theorem dX3_spawn_109 : decode cX3_spawn 109 = .ok (.aload_n 0, 1) := by decide +kernel
theorem dX3_spawn_110 : decode cX3_spawn 110 = .ok (.getfield 34, 3) := by decide +kernel
theorem dX3_spawn_113 : decode cX3_spawn 113 = .ok (.istore 8, 2) := by decide +kernel
theorem dX3_spawn_115 : decode cX3_spawn 115 = .ok (.iload 8, 2) := by decide +kernel
theorem dX3_spawn_117 : decode cX3_spawn 117 = .ok (.aload_n 0, 1) := by decide +kernel
theorem dX3_spawn_118 : decode cX3_spawn 118 = .ok (.getfield 11, 3) := by decide +kernel
theorem dX3_spawn_121 : decode cX3_spawn 121 = .ok (.arraylength, 1) := by decide +kernel
theorem dX3_spawn_122 : decode cX3_spawn 122 = .ok (.if_icmp .lt 6, 3) := by decide +kernel
theorem dX3_spawn_125 : decode cX3_spawn 125 = .ok (.ldc 56, 2) := by decide +kernel
theorem dX3_spawn_127 : decode cX3_spawn 127 = .ok (.ireturn, 1) := by decide +kernel
theorem dX3_spawn_128 : decode cX3_spawn 128 = .ok (.aload_n 0, 1) := by decide +kernel
theorem dX3_spawn_129 : decode cX3_spawn 129 = .ok (.getfield 11, 3) := by decide +kernel
theorem dX3_spawn_132 : decode cX3_spawn 132 = .ok (.iload 8, 2) := by decide +kernel
theorem dX3_spawn_134 : decode cX3_spawn 134 = .ok (.aaload, 1) := by decide +kernel
theorem dX3_spawn_135 : decode cX3_spawn 135 = .ok (.iload_n 1, 1) := by decide +kernel
theorem dX3_spawn_136 : decode cX3_spawn 136 = .ok (.iload_n 2, 1) := by decide +kernel
theorem dX3_spawn_137 : decode cX3_spawn 137 = .ok (.iload_n 3, 1) := by decide +kernel
theorem dX3_spawn_138 : decode cX3_spawn 138 = .ok (.iload 4, 2) := by decide +kernel
theorem dX3_spawn_140 : decode cX3_spawn 140 = .ok (.iload 5, 2) := by decide +kernel
theorem dX3_spawn_142 : decode cX3_spawn 142 = .ok (.invokevirtual 30, 3) := by decide +kernel
theorem dX3_spawn_145 : decode cX3_spawn 145 = .ok (.aload_n 0, 1) := by decide +kernel
theorem dX3_spawn_146 : decode cX3_spawn 146 = .ok (.iload 8, 2) := by decide +kernel
theorem dX3_spawn_148 : decode cX3_spawn 148 = .ok (.iconst 1, 1) := by decide +kernel
theorem dX3_spawn_149 : decode cX3_spawn 149 = .ok (.iadd, 1) := by decide +kernel
theorem dX3_spawn_150 : decode cX3_spawn 150 = .ok (.putfield 34, 3) := by decide +kernel
theorem dX3_spawn_153 : decode cX3_spawn 153 = .ok (.iload 8, 2) := by decide +kernel
theorem dX3_spawn_155 : decode cX3_spawn 155 = .ok (.ireturn, 1) := by decide +kernel
theorem dX3_exit_0 : decode cX3_exit 0 = .ok (.aload_n 0, 1) := by decide +kernel
theorem dX3_exit_1 : decode cX3_exit 1 = .ok (.iload_n 1, 1) := by decide +kernel
theorem dX3_exit_2 : decode cX3_exit 2 = .ok (.invokevirtual 47, 3) := by decide +kernel
theorem dX3_exit_5 : decode cX3_exit 5 = .ok (.astore_n 2, 1) := by decide +kernel
theorem dX3_exit_6 : decode cX3_exit 6 = .ok (.aload_n 2, 1) := by decide +kernel
theorem dX3_exit_7 : decode cX3_exit 7 = .ok (.ifnonnull 6, 3) := by decide +kernel
theorem dX3_exit_10 : decode cX3_exit 10 = .ok (.ldc 51, 2) := by decide +kernel
theorem dX3_exit_12 : decode cX3_exit 12 = .ok (.ireturn, 1) := by decide +kernel
theorem dX3_exit_13 : decode cX3_exit 13 = .ok (.iload_n 1, 1) := by decide +kernel
theorem dX3_exit_14 : decode cX3_exit 14 = .ok (.ifCond .ne 6, 3) := by decide +kernel
theorem dX3_exit_17 : decode cX3_exit 17 = .ok (.ldc 98, 2) := by decide +kernel
theorem dX3_exit_19 : decode cX3_exit 19 = .ok (.ireturn, 1) := by decide +kernel
theorem dX3_exit_20 : decode cX3_exit 20 = .ok (.aload_n 0, 1) := by decide +kernel
theorem dX3_exit_21 : decode cX3_exit 21 = .ok (.iload_n 1, 1) := by decide +kernel
theorem dX3_exit_22 : decode cX3_exit 22 = .ok (.invokevirtual 78, 3) := by decide +kernel
theorem dX3_exit_25 : decode cX3_exit 25 = .ok (.istore_n 3, 1) := by decide +kernel
theorem dX3_exit_26 : decode cX3_exit 26 = .ok (.aload_n 2, 1) := by decide +kernel
theorem dX3_exit_27 : decode cX3_exit 27 = .ok (.iconst 0, 1) := by decide +kernel
theorem dX3_exit_28 : decode cX3_exit 28 = .ok (.putfield 102, 3) := by decide +kernel
theorem dX3_exit_31 : decode cX3_exit 31 = .ok (.aload_n 0, 1) := by decide +kernel
theorem dX3_exit_32 : decode cX3_exit 32 = .ok (.iload_n 1, 1) := by decide +kernel
theorem dX3_exit_33 : decode cX3_exit 33 = .ok (.invokevirtual 106, 3) := by decide +kernel
theorem dX3_exit_36 : decode cX3_exit 36 = .ok (.iload_n 3, 1) := by decide +kernel
theorem dX3_exit_37 : decode cX3_exit 37 = .ok (.ireturn, 1) := by decide +kernel
theorem dX3_endpoint_0 : decode cX3_endpoint 0 = .ok (.aload_n 0, 1) := by decide +kernel
theorem dX3_endpoint_1 : decode cX3_endpoint 1 = .ok (.iload_n 1, 1) := by decide +kernel
theorem dX3_endpoint_2 : decode cX3_endpoint 2 = .ok (.invokevirtual 47, 3) := by decide +kernel
theorem dX3_endpoint_5 : decode cX3_endpoint 5 = .ok (.astore 4, 2) := by decide +kernel
theorem dX3_endpoint_7 : decode cX3_endpoint 7 = .ok (.aload 4, 2) := by decide +kernel
theorem dX3_endpoint_9 : decode cX3_endpoint 9 = .ok (.ifnonnull 6, 3) := by decide +kernel
theorem dX3_endpoint_12 : decode cX3_endpoint 12 = .ok (.ldc 51, 2) := by decide +kernel
theorem dX3_endpoint_14 : decode cX3_endpoint 14 = .ok (.ireturn, 1) := by decide +kernel
theorem dX3_endpoint_15 : decode cX3_endpoint 15 = .ok (.aload_n 0, 1) := by decide +kernel
theorem dX3_endpoint_16 : decode cX3_endpoint 16 = .ok (.iload_n 2, 1) := by decide +kernel
theorem dX3_endpoint_17 : decode cX3_endpoint 17 = .ok (.invokevirtual 86, 3) := by decide +kernel
theorem dX3_endpoint_20 : decode cX3_endpoint 20 = .ok (.ifCond .eq 11, 3) := by decide +kernel
theorem dX3_endpoint_23 : decode cX3_endpoint 23 = .ok (.aload_n 0, 1) := by decide +kernel
theorem dX3_endpoint_24 : decode cX3_endpoint 24 = .ok (.iload_n 3, 1) := by decide +kernel
theorem dX3_endpoint_25 : decode cX3_endpoint 25 = .ok (.invokevirtual 86, 3) := by decide +kernel
theorem dX3_endpoint_28 : decode cX3_endpoint 28 = .ok (.ifCond .ne 6, 3) := by decide +kernel
theorem dX3_endpoint_31 : decode cX3_endpoint 31 = .ok (.ldc 52, 2) := by decide +kernel
theorem dX3_endpoint_33 : decode cX3_endpoint 33 = .ok (.ireturn, 1) := by decide +kernel
theorem dX3_endpoint_34 : decode cX3_endpoint 34 = .ok (.iload_n 2, 1) := by decide +kernel
theorem dX3_endpoint_35 : decode cX3_endpoint 35 = .ok (.aload 4, 2) := by decide +kernel
theorem dX3_endpoint_37 : decode cX3_endpoint 37 = .ok (.getfield 69, 3) := by decide +kernel
theorem dX3_endpoint_40 : decode cX3_endpoint 40 = .ok (.ixor, 1) := by decide +kernel
theorem dX3_endpoint_41 : decode cX3_endpoint 41 = .ok (.iload_n 3, 1) := by decide +kernel
theorem dX3_endpoint_42 : decode cX3_endpoint 42 = .ok (.aload 4, 2) := by decide +kernel
theorem dX3_endpoint_44 : decode cX3_endpoint 44 = .ok (.getfield 72, 3) := by decide +kernel
theorem dX3_endpoint_47 : decode cX3_endpoint 47 = .ok (.ixor, 1) := by decide +kernel
theorem dX3_endpoint_48 : decode cX3_endpoint 48 = .ok (.ior, 1) := by decide +kernel
theorem dX3_endpoint_49 : decode cX3_endpoint 49 = .ok (.istore 5, 2) := by decide +kernel
theorem dX3_endpoint_51 : decode cX3_endpoint 51 = .ok (.iload 5, 2) := by decide +kernel
theorem dX3_endpoint_53 : decode cX3_endpoint 53 = .ok (.aload_n 0, 1) := by decide +kernel
theorem dX3_endpoint_54 : decode cX3_endpoint 54 = .ok (.aload 4, 2) := by decide +kernel
theorem dX3_endpoint_56 : decode cX3_endpoint 56 = .ok (.getfield 60, 3) := by decide +kernel
theorem dX3_endpoint_59 : decode cX3_endpoint 59 = .ok (.aload 4, 2) := by decide +kernel
theorem dX3_endpoint_61 : decode cX3_endpoint 61 = .ok (.getfield 66, 3) := by decide +kernel
theorem dX3_endpoint_64 : decode cX3_endpoint 64 = .ok (.invokevirtual 82, 3) := by decide +kernel
theorem dX3_endpoint_67 : decode cX3_endpoint 67 = .ok (.invokestatic 110, 3) := by decide +kernel
theorem dX3_endpoint_70 : decode cX3_endpoint 70 = .ok (.ifCond .ne 6, 3) := by decide +kernel
theorem dX3_endpoint_73 : decode cX3_endpoint 73 = .ok (.ldc 98, 2) := by decide +kernel
theorem dX3_endpoint_75 : decode cX3_endpoint 75 = .ok (.ireturn, 1) := by decide +kernel
theorem dX3_endpoint_76 : decode cX3_endpoint 76 = .ok (.aload_n 0, 1) := by decide +kernel
theorem dX3_endpoint_77 : decode cX3_endpoint 77 = .ok (.getfield 114, 3) := by decide +kernel
theorem dX3_endpoint_80 : decode cX3_endpoint 80 = .ok (.istore 6, 2) := by decide +kernel
theorem dX3_endpoint_82 : decode cX3_endpoint 82 = .ok (.iload 6, 2) := by decide +kernel
theorem dX3_endpoint_84 : decode cX3_endpoint 84 = .ok (.aload_n 0, 1) := by decide +kernel
theorem dX3_endpoint_85 : decode cX3_endpoint 85 = .ok (.getfield 18, 3) := by decide +kernel
theorem dX3_endpoint_88 : decode cX3_endpoint 88 = .ok (.arraylength, 1) := by decide +kernel
theorem dX3_endpoint_89 : decode cX3_endpoint 89 = .ok (.if_icmp .lt 6, 3) := by decide +kernel
theorem dX3_endpoint_92 : decode cX3_endpoint 92 = .ok (.ldc 56, 2) := by decide +kernel
theorem dX3_endpoint_94 : decode cX3_endpoint 94 = .ok (.ireturn, 1) := by decide +kernel
theorem dX3_endpoint_95 : decode cX3_endpoint 95 = .ok (.aload_n 0, 1) := by decide +kernel
theorem dX3_endpoint_96 : decode cX3_endpoint 96 = .ok (.getfield 18, 3) := by decide +kernel
theorem dX3_endpoint_99 : decode cX3_endpoint 99 = .ok (.iload 6, 2) := by decide +kernel
theorem dX3_endpoint_101 : decode cX3_endpoint 101 = .ok (.aaload, 1) := by decide +kernel
theorem dX3_endpoint_102 : decode cX3_endpoint 102 = .ok (.iload_n 1, 1) := by decide +kernel
theorem dX3_endpoint_103 : decode cX3_endpoint 103 = .ok (.iload_n 2, 1) := by decide +kernel
theorem dX3_endpoint_104 : decode cX3_endpoint 104 = .ok (.iload_n 3, 1) := by decide +kernel
theorem dX3_endpoint_105 : decode cX3_endpoint 105 = .ok (.invokevirtual 117, 3) := by decide +kernel
theorem dX3_endpoint_108 : decode cX3_endpoint 108 = .ok (.aload_n 0, 1) := by decide +kernel
theorem dX3_endpoint_109 : decode cX3_endpoint 109 = .ok (.iload 6, 2) := by decide +kernel
theorem dX3_endpoint_111 : decode cX3_endpoint 111 = .ok (.iconst 1, 1) := by decide +kernel
theorem dX3_endpoint_112 : decode cX3_endpoint 112 = .ok (.iadd, 1) := by decide +kernel
theorem dX3_endpoint_113 : decode cX3_endpoint 113 = .ok (.putfield 114, 3) := by decide +kernel
theorem dX3_endpoint_116 : decode cX3_endpoint 116 = .ok (.iload 6, 2) := by decide +kernel
theorem dX3_endpoint_118 : decode cX3_endpoint 118 = .ok (.ireturn, 1) := by decide +kernel
theorem dX3_close_0 : decode cX3_close 0 = .ok (.aload_n 0, 1) := by decide +kernel
theorem dX3_close_1 : decode cX3_close 1 = .ok (.iload_n 2, 1) := by decide +kernel
theorem dX3_close_2 : decode cX3_close 2 = .ok (.invokevirtual 120, 3) := by decide +kernel
theorem dX3_close_5 : decode cX3_close 5 = .ok (.astore_n 3, 1) := by decide +kernel
theorem dX3_close_6 : decode cX3_close 6 = .ok (.aload_n 0, 1) := by decide +kernel
theorem dX3_close_7 : decode cX3_close 7 = .ok (.iload_n 1, 1) := by decide +kernel
theorem dX3_close_8 : decode cX3_close 8 = .ok (.invokevirtual 47, 3) := by decide +kernel
theorem dX3_close_11 : decode cX3_close 11 = .ok (.ifnull 7, 3) := by decide +kernel
theorem dX3_close_14 : decode cX3_close 14 = .ok (.aload_n 3, 1) := by decide +kernel
theorem dX3_close_15 : decode cX3_close 15 = .ok (.ifnonnull 6, 3) := by decide +kernel
theorem dX3_close_18 : decode cX3_close 18 = .ok (.ldc 51, 2) := by decide +kernel
theorem dX3_close_20 : decode cX3_close 20 = .ok (.ireturn, 1) := by decide +kernel
theorem dX3_close_21 : decode cX3_close 21 = .ok (.aload_n 3, 1) := by decide +kernel
theorem dX3_close_22 : decode cX3_close 22 = .ok (.getfield 124, 3) := by decide +kernel
theorem dX3_close_25 : decode cX3_close 25 = .ok (.iload_n 1, 1) := by decide +kernel
theorem dX3_close_26 : decode cX3_close 26 = .ok (.if_icmp .eq 6, 3) := by decide +kernel
theorem dX3_close_29 : decode cX3_close 29 = .ok (.ldc 98, 2) := by decide +kernel
theorem dX3_close_31 : decode cX3_close 31 = .ok (.ireturn, 1) := by decide +kernel
theorem dX3_close_32 : decode cX3_close 32 = .ok (.aload_n 3, 1) := by decide +kernel
theorem dX3_close_33 : decode cX3_close 33 = .ok (.iconst 0, 1) := by decide +kernel
theorem dX3_close_34 : decode cX3_close 34 = .ok (.putfield 127, 3) := by decide +kernel
theorem dX3_close_37 : decode cX3_close 37 = .ok (.aload_n 3, 1) := by decide +kernel
theorem dX3_close_38 : decode cX3_close 38 = .ok (.getfield 130, 3) := by decide +kernel
theorem dX3_close_41 : decode cX3_close 41 = .ok (.ireturn, 1) := by decide +kernel
theorem dX3_port_0 : decode cX3_port 0 = .ok (.aload_n 0, 1) := by decide +kernel
theorem dX3_port_1 : decode cX3_port 1 = .ok (.iload_n 1, 1) := by decide +kernel
theorem dX3_port_2 : decode cX3_port 2 = .ok (.invokevirtual 120, 3) := by decide +kernel
theorem dX3_port_5 : decode cX3_port 5 = .ok (.astore_n 3, 1) := by decide +kernel
theorem dX3_port_6 : decode cX3_port 6 = .ok (.aload_n 3, 1) := by decide +kernel
theorem dX3_port_7 : decode cX3_port 7 = .ok (.ifnonnull 6, 3) := by decide +kernel
theorem dX3_port_10 : decode cX3_port 10 = .ok (.ldc 51, 2) := by decide +kernel
theorem dX3_port_12 : decode cX3_port 12 = .ok (.ireturn, 1) := by decide +kernel
theorem dX3_port_13 : decode cX3_port 13 = .ok (.iload_n 2, 1) := by decide +kernel
theorem dX3_port_14 : decode cX3_port 14 = .ok (.tableswitch 50 0 3 #[30, 35, 40, 45], 30) := by decide +kernel
theorem dX3_port_44 : decode cX3_port 44 = .ok (.aload_n 3, 1) := by decide +kernel
theorem dX3_port_45 : decode cX3_port 45 = .ok (.getfield 124, 3) := by decide +kernel
theorem dX3_port_48 : decode cX3_port 48 = .ok (.ireturn, 1) := by decide +kernel
theorem dX3_port_49 : decode cX3_port 49 = .ok (.aload_n 3, 1) := by decide +kernel
theorem dX3_port_50 : decode cX3_port 50 = .ok (.getfield 133, 3) := by decide +kernel
theorem dX3_port_53 : decode cX3_port 53 = .ok (.ireturn, 1) := by decide +kernel
theorem dX3_port_54 : decode cX3_port 54 = .ok (.aload_n 3, 1) := by decide +kernel
theorem dX3_port_55 : decode cX3_port 55 = .ok (.getfield 134, 3) := by decide +kernel
theorem dX3_port_58 : decode cX3_port 58 = .ok (.ireturn, 1) := by decide +kernel
theorem dX3_port_59 : decode cX3_port 59 = .ok (.aload_n 3, 1) := by decide +kernel
theorem dX3_port_60 : decode cX3_port 60 = .ok (.getfield 130, 3) := by decide +kernel
theorem dX3_port_63 : decode cX3_port 63 = .ok (.ireturn, 1) := by decide +kernel
theorem dX3_port_64 : decode cX3_port 64 = .ok (.ldc 52, 2) := by decide +kernel
theorem dX3_port_66 : decode cX3_port 66 = .ok (.ireturn, 1) := by decide +kernel
theorem dX3_send_0 : decode cX3_send 0 = .ok (.aload_n 0, 1) := by decide +kernel
theorem dX3_send_1 : decode cX3_send 1 = .ok (.iload_n 1, 1) := by decide +kernel
theorem dX3_send_2 : decode cX3_send 2 = .ok (.invokevirtual 47, 3) := by decide +kernel
theorem dX3_send_5 : decode cX3_send 5 = .ok (.astore 7, 2) := by decide +kernel
theorem dX3_send_7 : decode cX3_send 7 = .ok (.aload_n 0, 1) := by decide +kernel
theorem dX3_send_8 : decode cX3_send 8 = .ok (.iload_n 2, 1) := by decide +kernel
theorem dX3_send_9 : decode cX3_send 9 = .ok (.invokevirtual 120, 3) := by decide +kernel
theorem dX3_send_12 : decode cX3_send 12 = .ok (.astore 8, 2) := by decide +kernel
theorem dX3_send_14 : decode cX3_send 14 = .ok (.aload 7, 2) := by decide +kernel
theorem dX3_send_16 : decode cX3_send 16 = .ok (.ifnull 8, 3) := by decide +kernel
theorem dX3_send_19 : decode cX3_send 19 = .ok (.aload 8, 2) := by decide +kernel
theorem dX3_send_21 : decode cX3_send 21 = .ok (.ifnonnull 6, 3) := by decide +kernel
theorem dX3_send_24 : decode cX3_send 24 = .ok (.ldc 51, 2) := by decide +kernel
theorem dX3_send_26 : decode cX3_send 26 = .ok (.ireturn, 1) := by decide +kernel
theorem dX3_send_27 : decode cX3_send 27 = .ok (.iload_n 3, 1) := by decide +kernel
theorem dX3_send_28 : decode cX3_send 28 = .ok (.ifCond .lt 27, 3) := by decide +kernel
theorem dX3_send_31 : decode cX3_send 31 = .ok (.iload_n 3, 1) := by decide +kernel
theorem dX3_send_32 : decode cX3_send 32 = .ok (.bipush 40, 2) := by decide +kernel
theorem dX3_send_34 : decode cX3_send 34 = .ok (.if_icmp .ge 21, 3) := by decide +kernel
theorem dX3_send_37 : decode cX3_send 37 = .ok (.aload_n 0, 1) := by decide +kernel
theorem dX3_send_38 : decode cX3_send 38 = .ok (.iload 5, 2) := by decide +kernel
theorem dX3_send_40 : decode cX3_send 40 = .ok (.invokevirtual 86, 3) := by decide +kernel
theorem dX3_send_43 : decode cX3_send 43 = .ok (.ifCond .eq 12, 3) := by decide +kernel
theorem dX3_send_46 : decode cX3_send 46 = .ok (.aload_n 0, 1) := by decide +kernel
theorem dX3_send_47 : decode cX3_send 47 = .ok (.iload 6, 2) := by decide +kernel
theorem dX3_send_49 : decode cX3_send 49 = .ok (.invokevirtual 86, 3) := by decide +kernel
theorem dX3_send_52 : decode cX3_send 52 = .ok (.ifCond .ne 6, 3) := by decide +kernel
theorem dX3_send_55 : decode cX3_send 55 = .ok (.ldc 52, 2) := by decide +kernel
theorem dX3_send_57 : decode cX3_send 57 = .ok (.ireturn, 1) := by decide +kernel
theorem dX3_send_58 : decode cX3_send 58 = .ok (.aload 8, 2) := by decide +kernel
theorem dX3_send_60 : decode cX3_send 60 = .ok (.getfield 124, 3) := by decide +kernel
theorem dX3_send_63 : decode cX3_send 63 = .ok (.iload_n 1, 1) := by decide +kernel
theorem dX3_send_64 : decode cX3_send 64 = .ok (.if_icmp .ne 15, 3) := by decide +kernel
theorem dX3_send_67 : decode cX3_send 67 = .ok (.aload 7, 2) := by decide +kernel
theorem dX3_send_69 : decode cX3_send 69 = .ok (.iload 5, 2) := by decide +kernel
theorem dX3_send_71 : decode cX3_send 71 = .ok (.iload 6, 2) := by decide +kernel
theorem dX3_send_73 : decode cX3_send 73 = .ok (.invokestatic 99, 3) := by decide +kernel
theorem dX3_send_76 : decode cX3_send 76 = .ok (.ifCond .ne 6, 3) := by decide +kernel
theorem dX3_send_79 : decode cX3_send 79 = .ok (.ldc 98, 2) := by decide +kernel
theorem dX3_send_81 : decode cX3_send 81 = .ok (.ireturn, 1) := by decide +kernel
theorem dX3_send_82 : decode cX3_send 82 = .ok (.aload_n 0, 1) := by decide +kernel
theorem dX3_send_83 : decode cX3_send 83 = .ok (.iload_n 3, 1) := by decide +kernel
theorem dX3_send_84 : decode cX3_send 84 = .ok (.invokevirtual 120, 3) := by decide +kernel
theorem dX3_send_87 : decode cX3_send 87 = .ok (.astore 9, 2) := by decide +kernel
theorem dX3_send_89 : decode cX3_send 89 = .ok (.aload 9, 2) := by decide +kernel
theorem dX3_send_91 : decode cX3_send 91 = .ok (.ifnull 51, 3) := by decide +kernel
theorem dX3_send_94 : decode cX3_send 94 = .ok (.aload 9, 2) := by decide +kernel
theorem dX3_send_96 : decode cX3_send 96 = .ok (.invokevirtual 135, 3) := by decide +kernel
theorem dX3_send_99 : decode cX3_send 99 = .ok (.ifCond .eq 43, 3) := by decide +kernel
theorem dX3_send_102 : decode cX3_send 102 = .ok (.aload 8, 2) := by decide +kernel
theorem dX3_send_104 : decode cX3_send 104 = .ok (.getfield 133, 3) := by decide +kernel
theorem dX3_send_107 : decode cX3_send 107 = .ok (.aload 8, 2) := by decide +kernel
theorem dX3_send_109 : decode cX3_send 109 = .ok (.getfield 134, 3) := by decide +kernel
theorem dX3_send_112 : decode cX3_send 112 = .ok (.aload 9, 2) := by decide +kernel
theorem dX3_send_114 : decode cX3_send 114 = .ok (.getfield 133, 3) := by decide +kernel
theorem dX3_send_117 : decode cX3_send 117 = .ok (.aload 9, 2) := by decide +kernel
theorem dX3_send_119 : decode cX3_send 119 = .ok (.getfield 134, 3) := by decide +kernel
theorem dX3_send_122 : decode cX3_send 122 = .ok (.invokestatic 139, 3) := by decide +kernel
theorem dX3_send_125 : decode cX3_send 125 = .ok (.ifCond .eq 17, 3) := by decide +kernel
theorem dX3_send_128 : decode cX3_send 128 = .ok (.aload 9, 2) := by decide +kernel
theorem dX3_send_130 : decode cX3_send 130 = .ok (.iload 4, 2) := by decide +kernel
theorem dX3_send_132 : decode cX3_send 132 = .ok (.iload 5, 2) := by decide +kernel
theorem dX3_send_134 : decode cX3_send 134 = .ok (.iload 6, 2) := by decide +kernel
theorem dX3_send_136 : decode cX3_send 136 = .ok (.invokevirtual 142, 3) := by decide +kernel
theorem dX3_send_139 : decode cX3_send 139 = .ok (.goto 13, 3) := by decide +kernel
theorem dX3_send_142 : decode cX3_send 142 = .ok (.aload_n 0, 1) := by decide +kernel
theorem dX3_send_143 : decode cX3_send 143 = .ok (.dup, 1) := by decide +kernel
theorem dX3_send_144 : decode cX3_send 144 = .ok (.getfield 145, 3) := by decide +kernel
theorem dX3_send_147 : decode cX3_send 147 = .ok (.iconst 1, 1) := by decide +kernel
theorem dX3_send_148 : decode cX3_send 148 = .ok (.iadd, 1) := by decide +kernel
theorem dX3_send_149 : decode cX3_send 149 = .ok (.putfield 145, 3) := by decide +kernel
theorem dX3_send_152 : decode cX3_send 152 = .ok (.iconst 1, 1) := by decide +kernel
theorem dX3_send_153 : decode cX3_send 153 = .ok (.ireturn, 1) := by decide +kernel
theorem dX3_receive_0 : decode cX3_receive 0 = .ok (.aload_n 0, 1) := by decide +kernel
theorem dX3_receive_1 : decode cX3_receive 1 = .ok (.iload_n 1, 1) := by decide +kernel
theorem dX3_receive_2 : decode cX3_receive 2 = .ok (.invokevirtual 47, 3) := by decide +kernel
theorem dX3_receive_5 : decode cX3_receive 5 = .ok (.astore_n 3, 1) := by decide +kernel
theorem dX3_receive_6 : decode cX3_receive 6 = .ok (.aload_n 0, 1) := by decide +kernel
theorem dX3_receive_7 : decode cX3_receive 7 = .ok (.iload_n 2, 1) := by decide +kernel
theorem dX3_receive_8 : decode cX3_receive 8 = .ok (.invokevirtual 120, 3) := by decide +kernel
theorem dX3_receive_11 : decode cX3_receive 11 = .ok (.astore 4, 2) := by decide +kernel
theorem dX3_receive_13 : decode cX3_receive 13 = .ok (.aload_n 3, 1) := by decide +kernel
theorem dX3_receive_14 : decode cX3_receive 14 = .ok (.ifnull 8, 3) := by decide +kernel
theorem dX3_receive_17 : decode cX3_receive 17 = .ok (.aload 4, 2) := by decide +kernel
theorem dX3_receive_19 : decode cX3_receive 19 = .ok (.ifnonnull 6, 3) := by decide +kernel
theorem dX3_receive_22 : decode cX3_receive 22 = .ok (.ldc 51, 2) := by decide +kernel
theorem dX3_receive_24 : decode cX3_receive 24 = .ok (.ireturn, 1) := by decide +kernel
theorem dX3_receive_25 : decode cX3_receive 25 = .ok (.aload 4, 2) := by decide +kernel
theorem dX3_receive_27 : decode cX3_receive 27 = .ok (.getfield 124, 3) := by decide +kernel
theorem dX3_receive_30 : decode cX3_receive 30 = .ok (.iload_n 1, 1) := by decide +kernel
theorem dX3_receive_31 : decode cX3_receive 31 = .ok (.if_icmp .eq 6, 3) := by decide +kernel
theorem dX3_receive_34 : decode cX3_receive 34 = .ok (.ldc 98, 2) := by decide +kernel
theorem dX3_receive_36 : decode cX3_receive 36 = .ok (.ireturn, 1) := by decide +kernel
theorem dX3_receive_37 : decode cX3_receive 37 = .ok (.aload 4, 2) := by decide +kernel
theorem dX3_receive_39 : decode cX3_receive 39 = .ok (.getfield 130, 3) := by decide +kernel
theorem dX3_receive_42 : decode cX3_receive 42 = .ok (.ifCond .ne 5, 3) := by decide +kernel
theorem dX3_receive_45 : decode cX3_receive 45 = .ok (.iconst 0, 1) := by decide +kernel
theorem dX3_receive_46 : decode cX3_receive 46 = .ok (.ireturn, 1) := by decide +kernel
theorem dX3_receive_47 : decode cX3_receive 47 = .ok (.aload_n 3, 1) := by decide +kernel
theorem dX3_receive_48 : decode cX3_receive 48 = .ok (.aload 4, 2) := by decide +kernel
theorem dX3_receive_50 : decode cX3_receive 50 = .ok (.getfield 148, 3) := by decide +kernel
theorem dX3_receive_53 : decode cX3_receive 53 = .ok (.iconst 0, 1) := by decide +kernel
theorem dX3_receive_54 : decode cX3_receive 54 = .ok (.iaload, 1) := by decide +kernel
theorem dX3_receive_55 : decode cX3_receive 55 = .ok (.aload 4, 2) := by decide +kernel
theorem dX3_receive_57 : decode cX3_receive 57 = .ok (.getfield 152, 3) := by decide +kernel
theorem dX3_receive_60 : decode cX3_receive 60 = .ok (.iconst 0, 1) := by decide +kernel
theorem dX3_receive_61 : decode cX3_receive 61 = .ok (.iaload, 1) := by decide +kernel
theorem dX3_receive_62 : decode cX3_receive 62 = .ok (.aload 4, 2) := by decide +kernel
theorem dX3_receive_64 : decode cX3_receive 64 = .ok (.getfield 155, 3) := by decide +kernel
theorem dX3_receive_67 : decode cX3_receive 67 = .ok (.iconst 0, 1) := by decide +kernel
theorem dX3_receive_68 : decode cX3_receive 68 = .ok (.iaload, 1) := by decide +kernel
theorem dX3_receive_69 : decode cX3_receive 69 = .ok (.invokevirtual 158, 3) := by decide +kernel
theorem dX3_receive_72 : decode cX3_receive 72 = .ok (.aload 4, 2) := by decide +kernel
theorem dX3_receive_74 : decode cX3_receive 74 = .ok (.invokevirtual 161, 3) := by decide +kernel
theorem dX3_receive_77 : decode cX3_receive 77 = .ok (.iconst 1, 1) := by decide +kernel
theorem dX3_receive_78 : decode cX3_receive 78 = .ok (.ireturn, 1) := by decide +kernel
theorem dX3_message_0 : decode cX3_message 0 = .ok (.aload_n 0, 1) := by decide +kernel
theorem dX3_message_1 : decode cX3_message 1 = .ok (.iload_n 1, 1) := by decide +kernel
theorem dX3_message_2 : decode cX3_message 2 = .ok (.invokevirtual 47, 3) := by decide +kernel
theorem dX3_message_5 : decode cX3_message 5 = .ok (.astore_n 3, 1) := by decide +kernel
theorem dX3_message_6 : decode cX3_message 6 = .ok (.aload_n 3, 1) := by decide +kernel
theorem dX3_message_7 : decode cX3_message 7 = .ok (.ifnonnull 6, 3) := by decide +kernel
theorem dX3_message_10 : decode cX3_message 10 = .ok (.ldc 51, 2) := by decide +kernel
theorem dX3_message_12 : decode cX3_message 12 = .ok (.ireturn, 1) := by decide +kernel
theorem dX3_message_13 : decode cX3_message 13 = .ok (.iload_n 2, 1) := by decide +kernel
theorem dX3_message_14 : decode cX3_message 14 = .ok (.tableswitch 41 0 2 #[26, 31, 36], 26) := by decide +kernel
theorem dX3_message_40 : decode cX3_message 40 = .ok (.aload_n 3, 1) := by decide +kernel
theorem dX3_message_41 : decode cX3_message 41 = .ok (.getfield 164, 3) := by decide +kernel
theorem dX3_message_44 : decode cX3_message 44 = .ok (.ireturn, 1) := by decide +kernel
theorem dX3_message_45 : decode cX3_message 45 = .ok (.aload_n 3, 1) := by decide +kernel
theorem dX3_message_46 : decode cX3_message 46 = .ok (.getfield 167, 3) := by decide +kernel
theorem dX3_message_49 : decode cX3_message 49 = .ok (.ireturn, 1) := by decide +kernel
theorem dX3_message_50 : decode cX3_message 50 = .ok (.aload_n 3, 1) := by decide +kernel
theorem dX3_message_51 : decode cX3_message 51 = .ok (.getfield 170, 3) := by decide +kernel
theorem dX3_message_54 : decode cX3_message 54 = .ok (.ireturn, 1) := by decide +kernel
theorem dX3_message_55 : decode cX3_message 55 = .ok (.ldc 52, 2) := by decide +kernel
theorem dX3_message_57 : decode cX3_message 57 = .ok (.ireturn, 1) := by decide +kernel
theorem dX3_container_0 : decode cX3_container 0 = .ok (.aload_n 0, 1) := by decide +kernel
theorem dX3_container_1 : decode cX3_container 1 = .ok (.iload_n 1, 1) := by decide +kernel
theorem dX3_container_2 : decode cX3_container 2 = .ok (.invokevirtual 47, 3) := by decide +kernel
theorem dX3_container_5 : decode cX3_container 5 = .ok (.astore 7, 2) := by decide +kernel
theorem dX3_container_7 : decode cX3_container 7 = .ok (.aload_n 0, 1) := by decide +kernel
theorem dX3_container_8 : decode cX3_container 8 = .ok (.iload_n 2, 1) := by decide +kernel
theorem dX3_container_9 : decode cX3_container 9 = .ok (.invokevirtual 173, 3) := by decide +kernel
theorem dX3_container_12 : decode cX3_container 12 = .ok (.astore 8, 2) := by decide +kernel
theorem dX3_container_14 : decode cX3_container 14 = .ok (.aload 7, 2) := by decide +kernel
theorem dX3_container_16 : decode cX3_container 16 = .ok (.ifnull 8, 3) := by decide +kernel
theorem dX3_container_19 : decode cX3_container 19 = .ok (.aload 8, 2) := by decide +kernel
theorem dX3_container_21 : decode cX3_container 21 = .ok (.ifnonnull 6, 3) := by decide +kernel
theorem dX3_container_24 : decode cX3_container 24 = .ok (.ldc 51, 2) := by decide +kernel
theorem dX3_container_26 : decode cX3_container 26 = .ok (.ireturn, 1) := by decide +kernel
theorem dX3_container_27 : decode cX3_container 27 = .ok (.iload 5, 2) := by decide +kernel
theorem dX3_container_29 : decode cX3_container 29 = .ok (.ifCond .lt 27, 3) := by decide +kernel
theorem dX3_container_32 : decode cX3_container 32 = .ok (.iload 5, 2) := by decide +kernel
theorem dX3_container_34 : decode cX3_container 34 = .ok (.sipush 200, 3) := by decide +kernel
theorem dX3_container_37 : decode cX3_container 37 = .ok (.if_icmp .gt 19, 3) := by decide +kernel
theorem dX3_container_40 : decode cX3_container 40 = .ok (.iload 6, 2) := by decide +kernel
theorem dX3_container_42 : decode cX3_container 42 = .ok (.ifCond .lt 14, 3) := by decide +kernel
theorem dX3_container_45 : decode cX3_container 45 = .ok (.iload 6, 2) := by decide +kernel
theorem dX3_container_47 : decode cX3_container 47 = .ok (.bipush 50, 2) := by decide +kernel
theorem dX3_container_49 : decode cX3_container 49 = .ok (.if_icmp .gt 7, 3) := by decide +kernel
theorem dX3_container_52 : decode cX3_container 52 = .ok (.iconst 1, 1) := by decide +kernel
theorem dX3_container_53 : decode cX3_container 53 = .ok (.goto 4, 3) := by decide +kernel
theorem dX3_container_56 : decode cX3_container 56 = .ok (.iconst 0, 1) := by decide +kernel
theorem dX3_container_57 : decode cX3_container 57 = .ok (.istore 9, 2) := by decide +kernel
theorem dX3_container_59 : decode cX3_container 59 = .ok (.aload_n 0, 1) := by decide +kernel
theorem dX3_container_60 : decode cX3_container 60 = .ok (.iload_n 3, 1) := by decide +kernel
theorem dX3_container_61 : decode cX3_container 61 = .ok (.invokevirtual 86, 3) := by decide +kernel
theorem dX3_container_64 : decode cX3_container 64 = .ok (.ifCond .eq 17, 3) := by decide +kernel
theorem dX3_container_67 : decode cX3_container 67 = .ok (.aload_n 0, 1) := by decide +kernel
theorem dX3_container_68 : decode cX3_container 68 = .ok (.iload 4, 2) := by decide +kernel
theorem dX3_container_70 : decode cX3_container 70 = .ok (.invokevirtual 86, 3) := by decide +kernel
theorem dX3_container_73 : decode cX3_container 73 = .ok (.ifCond .eq 8, 3) := by decide +kernel
theorem dX3_container_76 : decode cX3_container 76 = .ok (.iload 9, 2) := by decide +kernel
theorem dX3_container_78 : decode cX3_container 78 = .ok (.ifCond .ne 6, 3) := by decide +kernel
theorem dX3_container_81 : decode cX3_container 81 = .ok (.ldc 52, 2) := by decide +kernel
theorem dX3_container_83 : decode cX3_container 83 = .ok (.ireturn, 1) := by decide +kernel
theorem dX3_container_84 : decode cX3_container 84 = .ok (.aload 7, 2) := by decide +kernel
theorem dX3_container_86 : decode cX3_container 86 = .ok (.aload 8, 2) := by decide +kernel
theorem dX3_container_88 : decode cX3_container 88 = .ok (.iload_n 3, 1) := by decide +kernel
theorem dX3_container_89 : decode cX3_container 89 = .ok (.iload 4, 2) := by decide +kernel
theorem dX3_container_91 : decode cX3_container 91 = .ok (.invokestatic 177, 3) := by decide +kernel
theorem dX3_container_94 : decode cX3_container 94 = .ok (.ifCond .ne 6, 3) := by decide +kernel
theorem dX3_container_97 : decode cX3_container 97 = .ok (.ldc 98, 2) := by decide +kernel
theorem dX3_container_99 : decode cX3_container 99 = .ok (.ireturn, 1) := by decide +kernel
theorem dX3_container_100 : decode cX3_container 100 = .ok (.iload 5, 2) := by decide +kernel
theorem dX3_container_102 : decode cX3_container 102 = .ok (.aload_n 0, 1) := by decide +kernel
theorem dX3_container_103 : decode cX3_container 103 = .ok (.iload_n 2, 1) := by decide +kernel
theorem dX3_container_104 : decode cX3_container 104 = .ok (.invokevirtual 181, 3) := by decide +kernel
theorem dX3_container_107 : decode cX3_container 107 = .ok (.if_icmp .gt 15, 3) := by decide +kernel
theorem dX3_container_110 : decode cX3_container 110 = .ok (.iconst 1, 1) := by decide +kernel
theorem dX3_container_111 : decode cX3_container 111 = .ok (.iload 6, 2) := by decide +kernel
theorem dX3_container_113 : decode cX3_container 113 = .ok (.iadd, 1) := by decide +kernel
theorem dX3_container_114 : decode cX3_container 114 = .ok (.aload_n 0, 1) := by decide +kernel
theorem dX3_container_115 : decode cX3_container 115 = .ok (.iload_n 2, 1) := by decide +kernel
theorem dX3_container_116 : decode cX3_container 116 = .ok (.invokevirtual 184, 3) := by decide +kernel
theorem dX3_container_119 : decode cX3_container 119 = .ok (.if_icmp .le 6, 3) := by decide +kernel
theorem dX3_container_122 : decode cX3_container 122 = .ok (.ldc 56, 2) := by decide +kernel
theorem dX3_container_124 : decode cX3_container 124 = .ok (.ireturn, 1) := by decide +kernel
theorem dX3_container_125 : decode cX3_container 125 = .ok (.aload_n 0, 1) := by decide +kernel
theorem dX3_container_126 : decode cX3_container 126 = .ok (.iconst 1, 1) := by decide +kernel
theorem dX3_container_127 : decode cX3_container 127 = .ok (.iload_n 2, 1) := by decide +kernel
theorem dX3_container_128 : decode cX3_container 128 = .ok (.iload_n 3, 1) := by decide +kernel
theorem dX3_container_129 : decode cX3_container 129 = .ok (.iload 4, 2) := by decide +kernel
theorem dX3_container_131 : decode cX3_container 131 = .ok (.iload 5, 2) := by decide +kernel
theorem dX3_container_133 : decode cX3_container 133 = .ok (.iload 6, 2) := by decide +kernel
theorem dX3_container_135 : decode cX3_container 135 = .ok (.invokevirtual 187, 3) := by decide +kernel
theorem dX3_container_138 : decode cX3_container 138 = .ok (.ireturn, 1) := by decide +kernel
theorem dX3_file_0 : decode cX3_file 0 = .ok (.aload_n 0, 1) := by decide +kernel
theorem dX3_file_1 : decode cX3_file 1 = .ok (.iload_n 1, 1) := by decide +kernel
theorem dX3_file_2 : decode cX3_file 2 = .ok (.invokevirtual 47, 3) := by decide +kernel
theorem dX3_file_5 : decode cX3_file 5 = .ok (.astore 5, 2) := by decide +kernel
theorem dX3_file_7 : decode cX3_file 7 = .ok (.aload_n 0, 1) := by decide +kernel
theorem dX3_file_8 : decode cX3_file 8 = .ok (.iload_n 2, 1) := by decide +kernel
theorem dX3_file_9 : decode cX3_file 9 = .ok (.invokevirtual 173, 3) := by decide +kernel
theorem dX3_file_12 : decode cX3_file 12 = .ok (.astore 6, 2) := by decide +kernel
theorem dX3_file_14 : decode cX3_file 14 = .ok (.aload 5, 2) := by decide +kernel
theorem dX3_file_16 : decode cX3_file 16 = .ok (.ifnull 8, 3) := by decide +kernel
theorem dX3_file_19 : decode cX3_file 19 = .ok (.aload 6, 2) := by decide +kernel
theorem dX3_file_21 : decode cX3_file 21 = .ok (.ifnonnull 6, 3) := by decide +kernel
theorem dX3_file_24 : decode cX3_file 24 = .ok (.ldc 51, 2) := by decide +kernel
theorem dX3_file_26 : decode cX3_file 26 = .ok (.ireturn, 1) := by decide +kernel
theorem dX3_file_27 : decode cX3_file 27 = .ok (.aload_n 0, 1) := by decide +kernel
theorem dX3_file_28 : decode cX3_file 28 = .ok (.iload_n 3, 1) := by decide +kernel
theorem dX3_file_29 : decode cX3_file 29 = .ok (.invokevirtual 86, 3) := by decide +kernel
theorem dX3_file_32 : decode cX3_file 32 = .ok (.ifCond .eq 12, 3) := by decide +kernel
theorem dX3_file_35 : decode cX3_file 35 = .ok (.aload_n 0, 1) := by decide +kernel
theorem dX3_file_36 : decode cX3_file 36 = .ok (.iload 4, 2) := by decide +kernel
theorem dX3_file_38 : decode cX3_file 38 = .ok (.invokevirtual 86, 3) := by decide +kernel
theorem dX3_file_41 : decode cX3_file 41 = .ok (.ifCond .ne 6, 3) := by decide +kernel
theorem dX3_file_44 : decode cX3_file 44 = .ok (.ldc 52, 2) := by decide +kernel
theorem dX3_file_46 : decode cX3_file 46 = .ok (.ireturn, 1) := by decide +kernel
theorem dX3_file_47 : decode cX3_file 47 = .ok (.aload 5, 2) := by decide +kernel
theorem dX3_file_49 : decode cX3_file 49 = .ok (.aload 6, 2) := by decide +kernel
theorem dX3_file_51 : decode cX3_file 51 = .ok (.iload_n 3, 1) := by decide +kernel
theorem dX3_file_52 : decode cX3_file 52 = .ok (.iload 4, 2) := by decide +kernel
theorem dX3_file_54 : decode cX3_file 54 = .ok (.invokestatic 177, 3) := by decide +kernel
theorem dX3_file_57 : decode cX3_file 57 = .ok (.ifCond .ne 6, 3) := by decide +kernel
theorem dX3_file_60 : decode cX3_file 60 = .ok (.ldc 98, 2) := by decide +kernel
theorem dX3_file_62 : decode cX3_file 62 = .ok (.ireturn, 1) := by decide +kernel
theorem dX3_file_63 : decode cX3_file 63 = .ok (.aload_n 0, 1) := by decide +kernel
theorem dX3_file_64 : decode cX3_file 64 = .ok (.iload_n 2, 1) := by decide +kernel
theorem dX3_file_65 : decode cX3_file 65 = .ok (.invokevirtual 184, 3) := by decide +kernel
theorem dX3_file_68 : decode cX3_file 68 = .ok (.iconst 1, 1) := by decide +kernel
theorem dX3_file_69 : decode cX3_file 69 = .ok (.if_icmp .ge 6, 3) := by decide +kernel
theorem dX3_file_72 : decode cX3_file 72 = .ok (.ldc 56, 2) := by decide +kernel
theorem dX3_file_74 : decode cX3_file 74 = .ok (.ireturn, 1) := by decide +kernel
theorem dX3_file_75 : decode cX3_file 75 = .ok (.aload_n 0, 1) := by decide +kernel
theorem dX3_file_76 : decode cX3_file 76 = .ok (.iconst 0, 1) := by decide +kernel
theorem dX3_file_77 : decode cX3_file 77 = .ok (.iload_n 2, 1) := by decide +kernel
theorem dX3_file_78 : decode cX3_file 78 = .ok (.iload_n 3, 1) := by decide +kernel
theorem dX3_file_79 : decode cX3_file 79 = .ok (.iload 4, 2) := by decide +kernel
theorem dX3_file_81 : decode cX3_file 81 = .ok (.iconst 0, 1) := by decide +kernel
theorem dX3_file_82 : decode cX3_file 82 = .ok (.iconst 0, 1) := by decide +kernel
theorem dX3_file_83 : decode cX3_file 83 = .ok (.invokevirtual 187, 3) := by decide +kernel
theorem dX3_file_86 : decode cX3_file 86 = .ok (.ireturn, 1) := by decide +kernel
theorem dX3_remove_0 : decode cX3_remove 0 = .ok (.aload_n 0, 1) := by decide +kernel
theorem dX3_remove_1 : decode cX3_remove 1 = .ok (.iload_n 1, 1) := by decide +kernel
theorem dX3_remove_2 : decode cX3_remove 2 = .ok (.invokevirtual 47, 3) := by decide +kernel
theorem dX3_remove_5 : decode cX3_remove 5 = .ok (.astore_n 3, 1) := by decide +kernel
theorem dX3_remove_6 : decode cX3_remove 6 = .ok (.aload_n 0, 1) := by decide +kernel
theorem dX3_remove_7 : decode cX3_remove 7 = .ok (.iload_n 2, 1) := by decide +kernel
