theorem dX0_init_0 : decode cX0_init 0 = .ok (.aload_n 0, 1) := by decide +kernel
theorem dX0_init_1 : decode cX0_init 1 = .ok (.invokespecial 3, 3) := by decide +kernel
theorem dX0_init_4 : decode cX0_init 4 = .ok (.aload_n 0, 1) := by decide +kernel
theorem dX0_init_5 : decode cX0_init 5 = .ok (.bipush 40, 2) := by decide +kernel
theorem dX0_init_7 : decode cX0_init 7 = .ok (.newarray .int, 2) := by decide +kernel
theorem dX0_init_9 : decode cX0_init 9 = .ok (.putfield 9, 3) := by decide +kernel
theorem dX0_init_12 : decode cX0_init 12 = .ok (.aload_n 0, 1) := by decide +kernel
theorem dX0_init_13 : decode cX0_init 13 = .ok (.bipush 40, 2) := by decide +kernel
theorem dX0_init_15 : decode cX0_init 15 = .ok (.newarray .int, 2) := by decide +kernel
theorem dX0_init_17 : decode cX0_init 17 = .ok (.putfield 15, 3) := by decide +kernel
theorem dX0_init_20 : decode cX0_init 20 = .ok (.return_, 1) := by decide +kernel
theorem dX0_addOne_0 : decode cX0_addOne 0 = .ok (.aload_n 0, 1) := by decide +kernel
theorem dX0_addOne_1 : decode cX0_addOne 1 = .ok (.dup, 1) := by decide +kernel
theorem dX0_addOne_2 : decode cX0_addOne 2 = .ok (.getfield 18, 3) := by decide +kernel
theorem dX0_addOne_5 : decode cX0_addOne 5 = .ok (.iconst 1, 1) := by decide +kernel
theorem dX0_addOne_6 : decode cX0_addOne 6 = .ok (.iadd, 1) := by decide +kernel
theorem dX0_addOne_7 : decode cX0_addOne 7 = .ok (.putfield 18, 3) := by decide +kernel
theorem dX0_addOne_10 : decode cX0_addOne 10 = .ok (.aload_n 0, 1) := by decide +kernel
theorem dX0_addOne_11 : decode cX0_addOne 11 = .ok (.getfield 18, 3) := by decide +kernel
theorem dX0_addOne_14 : decode cX0_addOne 14 = .ok (.iconst 1, 1) := by decide +kernel
theorem dX0_addOne_15 : decode cX0_addOne 15 = .ok (.isub, 1) := by decide +kernel
theorem dX0_addOne_16 : decode cX0_addOne 16 = .ok (.ireturn, 1) := by decide +kernel
theorem dX0_isIn_0 : decode cX0_isIn 0 = .ok (.iload_n 2, 1) := by decide +kernel
theorem dX0_isIn_1 : decode cX0_isIn 1 = .ok (.ifCond .eq 13, 3) := by decide +kernel
theorem dX0_isIn_4 : decode cX0_isIn 4 = .ok (.iload_n 2, 1) := by decide +kernel
theorem dX0_isIn_5 : decode cX0_isIn 5 = .ok (.aload_n 0, 1) := by decide +kernel
theorem dX0_isIn_6 : decode cX0_isIn 6 = .ok (.getfield 9, 3) := by decide +kernel
theorem dX0_isIn_9 : decode cX0_isIn 9 = .ok (.iload_n 1, 1) := by decide +kernel
theorem dX0_isIn_10 : decode cX0_isIn 10 = .ok (.iaload, 1) := by decide +kernel
theorem dX0_isIn_11 : decode cX0_isIn 11 = .ok (.if_icmp .ne 7, 3) := by decide +kernel
theorem dX0_isIn_14 : decode cX0_isIn 14 = .ok (.iconst 1, 1) := by decide +kernel
theorem dX0_isIn_15 : decode cX0_isIn 15 = .ok (.goto 4, 3) := by decide +kernel
theorem dX0_isIn_18 : decode cX0_isIn 18 = .ok (.iconst 0, 1) := by decide +kernel
theorem dX0_isIn_19 : decode cX0_isIn 19 = .ok (.ireturn, 1) := by decide +kernel
theorem dX0_countIn_0 : decode cX0_countIn 0 = .ok (.iconst 0, 1) := by decide +kernel
theorem dX0_countIn_1 : decode cX0_countIn 1 = .ok (.istore_n 2, 1) := by decide +kernel
theorem dX0_countIn_2 : decode cX0_countIn 2 = .ok (.iconst 0, 1) := by decide +kernel
theorem dX0_countIn_3 : decode cX0_countIn 3 = .ok (.istore_n 3, 1) := by decide +kernel
theorem dX0_countIn_4 : decode cX0_countIn 4 = .ok (.iload_n 3, 1) := by decide +kernel
theorem dX0_countIn_5 : decode cX0_countIn 5 = .ok (.aload_n 0, 1) := by decide +kernel
theorem dX0_countIn_6 : decode cX0_countIn 6 = .ok (.getfield 18, 3) := by decide +kernel
theorem dX0_countIn_9 : decode cX0_countIn 9 = .ok (.if_icmp .ge 21, 3) := by decide +kernel
theorem dX0_countIn_12 : decode cX0_countIn 12 = .ok (.aload_n 0, 1) := by decide +kernel
theorem dX0_countIn_13 : decode cX0_countIn 13 = .ok (.iload_n 3, 1) := by decide +kernel
theorem dX0_countIn_14 : decode cX0_countIn 14 = .ok (.iload_n 1, 1) := by decide +kernel
theorem dX0_countIn_15 : decode cX0_countIn 15 = .ok (.invokevirtual 22, 3) := by decide +kernel
theorem dX0_countIn_18 : decode cX0_countIn 18 = .ok (.ifCond .eq 6, 3) := by decide +kernel
theorem dX0_countIn_21 : decode cX0_countIn 21 = .ok (.iinc 2 1, 3) := by decide +kernel
theorem dX0_countIn_24 : decode cX0_countIn 24 = .ok (.iinc 3 1, 3) := by decide +kernel
theorem dX0_countIn_27 : decode cX0_countIn 27 = .ok (.goto (-23), 3) := by decide +kernel
theorem dX0_countIn_30 : decode cX0_countIn 30 = .ok (.iload_n 2, 1) := by decide +kernel
theorem dX0_countIn_31 : decode cX0_countIn 31 = .ok (.ireturn, 1) := by decide +kernel
theorem dX1_init_0 : decode cX1_init 0 = .ok (.aload_n 0, 1) := by decide +kernel
theorem dX1_init_1 : decode cX1_init 1 = .ok (.invokespecial 3, 3) := by decide +kernel
theorem dX1_init_4 : decode cX1_init 4 = .ok (.aload_n 0, 1) := by decide +kernel
theorem dX1_init_5 : decode cX1_init 5 = .ok (.bipush 41, 2) := by decide +kernel
theorem dX1_init_7 : decode cX1_init 7 = .ok (.newarray .int, 2) := by decide +kernel
theorem dX1_init_9 : decode cX1_init 9 = .ok (.putfield 9, 3) := by decide +kernel
theorem dX1_init_12 : decode cX1_init 12 = .ok (.aload_n 0, 1) := by decide +kernel
theorem dX1_init_13 : decode cX1_init 13 = .ok (.bipush 41, 2) := by decide +kernel
theorem dX1_init_15 : decode cX1_init 15 = .ok (.newarray .int, 2) := by decide +kernel
theorem dX1_init_17 : decode cX1_init 17 = .ok (.putfield 15, 3) := by decide +kernel
theorem dX1_init_20 : decode cX1_init 20 = .ok (.aload_n 0, 1) := by decide +kernel
theorem dX1_init_21 : decode cX1_init 21 = .ok (.bipush 41, 2) := by decide +kernel
theorem dX1_init_23 : decode cX1_init 23 = .ok (.newarray .int, 2) := by decide +kernel
theorem dX1_init_25 : decode cX1_init 25 = .ok (.putfield 18, 3) := by decide +kernel
theorem dX1_init_28 : decode cX1_init 28 = .ok (.aload_n 0, 1) := by decide +kernel
theorem dX1_init_29 : decode cX1_init 29 = .ok (.bipush 41, 2) := by decide +kernel
theorem dX1_init_31 : decode cX1_init 31 = .ok (.newarray .boolean, 2) := by decide +kernel
theorem dX1_init_33 : decode cX1_init 33 = .ok (.putfield 21, 3) := by decide +kernel
theorem dX1_init_36 : decode cX1_init 36 = .ok (.return_, 1) := by decide +kernel
theorem dX1_addOne_0 : decode cX1_addOne 0 = .ok (.aload_n 0, 1) := by decide +kernel
theorem dX1_addOne_1 : decode cX1_addOne 1 = .ok (.getfield 9, 3) := by decide +kernel
theorem dX1_addOne_4 : decode cX1_addOne 4 = .ok (.aload_n 0, 1) := by decide +kernel
theorem dX1_addOne_5 : decode cX1_addOne 5 = .ok (.getfield 25, 3) := by decide +kernel
theorem dX1_addOne_8 : decode cX1_addOne 8 = .ok (.iload_n 1, 1) := by decide +kernel
theorem dX1_addOne_9 : decode cX1_addOne 9 = .ok (.iastore, 1) := by decide +kernel
theorem dX1_addOne_10 : decode cX1_addOne 10 = .ok (.aload_n 0, 1) := by decide +kernel
theorem dX1_addOne_11 : decode cX1_addOne 11 = .ok (.getfield 15, 3) := by decide +kernel
theorem dX1_addOne_14 : decode cX1_addOne 14 = .ok (.aload_n 0, 1) := by decide +kernel
theorem dX1_addOne_15 : decode cX1_addOne 15 = .ok (.getfield 25, 3) := by decide +kernel
theorem dX1_addOne_18 : decode cX1_addOne 18 = .ok (.iload_n 2, 1) := by decide +kernel
theorem dX1_addOne_19 : decode cX1_addOne 19 = .ok (.iastore, 1) := by decide +kernel
theorem dX1_addOne_20 : decode cX1_addOne 20 = .ok (.aload_n 0, 1) := by decide +kernel
theorem dX1_addOne_21 : decode cX1_addOne 21 = .ok (.getfield 18, 3) := by decide +kernel
theorem dX1_addOne_24 : decode cX1_addOne 24 = .ok (.aload_n 0, 1) := by decide +kernel
theorem dX1_addOne_25 : decode cX1_addOne 25 = .ok (.getfield 25, 3) := by decide +kernel
theorem dX1_addOne_28 : decode cX1_addOne 28 = .ok (.iload_n 3, 1) := by decide +kernel
theorem dX1_addOne_29 : decode cX1_addOne 29 = .ok (.iastore, 1) := by decide +kernel
theorem dX1_addOne_30 : decode cX1_addOne 30 = .ok (.aload_n 0, 1) := by decide +kernel
theorem dX1_addOne_31 : decode cX1_addOne 31 = .ok (.dup, 1) := by decide +kernel
theorem dX1_addOne_32 : decode cX1_addOne 32 = .ok (.getfield 25, 3) := by decide +kernel
theorem dX1_addOne_35 : decode cX1_addOne 35 = .ok (.iconst 1, 1) := by decide +kernel
theorem dX1_addOne_36 : decode cX1_addOne 36 = .ok (.iadd, 1) := by decide +kernel
theorem dX1_addOne_37 : decode cX1_addOne 37 = .ok (.putfield 25, 3) := by decide +kernel
theorem dX1_addOne_40 : decode cX1_addOne 40 = .ok (.aload_n 0, 1) := by decide +kernel
theorem dX1_addOne_41 : decode cX1_addOne 41 = .ok (.getfield 25, 3) := by decide +kernel
theorem dX1_addOne_44 : decode cX1_addOne 44 = .ok (.iconst 1, 1) := by decide +kernel
theorem dX1_addOne_45 : decode cX1_addOne 45 = .ok (.isub, 1) := by decide +kernel
theorem dX1_addOne_46 : decode cX1_addOne 46 = .ok (.ireturn, 1) := by decide +kernel
theorem dX1_dropLatest_0 : decode cX1_dropLatest 0 = .ok (.aload_n 0, 1) := by decide +kernel
theorem dX1_dropLatest_1 : decode cX1_dropLatest 1 = .ok (.dup, 1) := by decide +kernel
theorem dX1_dropLatest_2 : decode cX1_dropLatest 2 = .ok (.getfield 25, 3) := by decide +kernel
theorem dX1_dropLatest_5 : decode cX1_dropLatest 5 = .ok (.iconst 1, 1) := by decide +kernel
theorem dX1_dropLatest_6 : decode cX1_dropLatest 6 = .ok (.isub, 1) := by decide +kernel
theorem dX1_dropLatest_7 : decode cX1_dropLatest 7 = .ok (.putfield 25, 3) := by decide +kernel
theorem dX1_dropLatest_10 : decode cX1_dropLatest 10 = .ok (.return_, 1) := by decide +kernel
theorem dX1_putInto_0 : decode cX1_putInto 0 = .ok (.iconst 0, 1) := by decide +kernel
theorem dX1_putInto_1 : decode cX1_putInto 1 = .ok (.istore_n 2, 1) := by decide +kernel
theorem dX1_putInto_2 : decode cX1_putInto 2 = .ok (.iload_n 2, 1) := by decide +kernel
theorem dX1_putInto_3 : decode cX1_putInto 3 = .ok (.aload_n 0, 1) := by decide +kernel
theorem dX1_putInto_4 : decode cX1_putInto 4 = .ok (.getfield 25, 3) := by decide +kernel
theorem dX1_putInto_7 : decode cX1_putInto 7 = .ok (.if_icmp .ge 40, 3) := by decide +kernel
theorem dX1_putInto_10 : decode cX1_putInto 10 = .ok (.aload_n 0, 1) := by decide +kernel
theorem dX1_putInto_11 : decode cX1_putInto 11 = .ok (.getfield 21, 3) := by decide +kernel
theorem dX1_putInto_14 : decode cX1_putInto 14 = .ok (.iload_n 2, 1) := by decide +kernel
theorem dX1_putInto_15 : decode cX1_putInto 15 = .ok (.baload, 1) := by decide +kernel
theorem dX1_putInto_16 : decode cX1_putInto 16 = .ok (.ifCond .ne 25, 3) := by decide +kernel
theorem dX1_putInto_19 : decode cX1_putInto 19 = .ok (.aload_n 1, 1) := by decide +kernel
theorem dX1_putInto_20 : decode cX1_putInto 20 = .ok (.aload_n 0, 1) := by decide +kernel
theorem dX1_putInto_21 : decode cX1_putInto 21 = .ok (.getfield 9, 3) := by decide +kernel
theorem dX1_putInto_24 : decode cX1_putInto 24 = .ok (.iload_n 2, 1) := by decide +kernel
theorem dX1_putInto_25 : decode cX1_putInto 25 = .ok (.iaload, 1) := by decide +kernel
theorem dX1_putInto_26 : decode cX1_putInto 26 = .ok (.aload_n 0, 1) := by decide +kernel
theorem dX1_putInto_27 : decode cX1_putInto 27 = .ok (.getfield 15, 3) := by decide +kernel
theorem dX1_putInto_30 : decode cX1_putInto 30 = .ok (.iload_n 2, 1) := by decide +kernel
theorem dX1_putInto_31 : decode cX1_putInto 31 = .ok (.iaload, 1) := by decide +kernel
theorem dX1_putInto_32 : decode cX1_putInto 32 = .ok (.aload_n 0, 1) := by decide +kernel
theorem dX1_putInto_33 : decode cX1_putInto 33 = .ok (.getfield 18, 3) := by decide +kernel
theorem dX1_putInto_36 : decode cX1_putInto 36 = .ok (.iload_n 2, 1) := by decide +kernel
theorem dX1_putInto_37 : decode cX1_putInto 37 = .ok (.iaload, 1) := by decide +kernel
theorem dX1_putInto_38 : decode cX1_putInto 38 = .ok (.invokevirtual 29, 3) := by decide +kernel
theorem dX1_putInto_41 : decode cX1_putInto 41 = .ok (.iinc 2 1, 3) := by decide +kernel
theorem dX1_putInto_44 : decode cX1_putInto 44 = .ok (.goto (-42), 3) := by decide +kernel
theorem dX1_putInto_47 : decode cX1_putInto 47 = .ok (.return_, 1) := by decide +kernel
theorem dX2_init_0 : decode cX2_init 0 = .ok (.aload_n 0, 1) := by decide +kernel
theorem dX2_init_1 : decode cX2_init 1 = .ok (.invokespecial 3, 3) := by decide +kernel
theorem dX2_init_4 : decode cX2_init 4 = .ok (.aload_n 0, 1) := by decide +kernel
theorem dX2_init_5 : decode cX2_init 5 = .ok (.sipush 640, 3) := by decide +kernel
theorem dX2_init_8 : decode cX2_init 8 = .ok (.newarray .int, 2) := by decide +kernel
theorem dX2_init_10 : decode cX2_init 10 = .ok (.putfield 9, 3) := by decide +kernel
theorem dX2_init_13 : decode cX2_init 13 = .ok (.aload_n 0, 1) := by decide +kernel
theorem dX2_init_14 : decode cX2_init 14 = .ok (.sipush 640, 3) := by decide +kernel
theorem dX2_init_17 : decode cX2_init 17 = .ok (.newarray .int, 2) := by decide +kernel
theorem dX2_init_19 : decode cX2_init 19 = .ok (.putfield 15, 3) := by decide +kernel
theorem dX2_init_22 : decode cX2_init 22 = .ok (.aload_n 0, 1) := by decide +kernel
theorem dX2_init_23 : decode cX2_init 23 = .ok (.sipush 640, 3) := by decide +kernel
theorem dX2_init_26 : decode cX2_init 26 = .ok (.newarray .int, 2) := by decide +kernel
theorem dX2_init_28 : decode cX2_init 28 = .ok (.putfield 18, 3) := by decide +kernel
theorem dX2_init_31 : decode cX2_init 31 = .ok (.aload_n 0, 1) := by decide +kernel
theorem dX2_init_32 : decode cX2_init 32 = .ok (.getfield 9, 3) := by decide +kernel
theorem dX2_init_35 : decode cX2_init 35 = .ok (.iconst (-1), 1) := by decide +kernel
theorem dX2_init_36 : decode cX2_init 36 = .ok (.invokestatic 21, 3) := by decide +kernel
theorem dX2_init_39 : decode cX2_init 39 = .ok (.return_, 1) := by decide +kernel
theorem dX2_put_0 : decode cX2_put 0 = .ok (.aload_n 0, 1) := by decide +kernel
theorem dX2_put_1 : decode cX2_put 1 = .ok (.getfield 9, 3) := by decide +kernel
theorem dX2_put_4 : decode cX2_put 4 = .ok (.iload_n 1, 1) := by decide +kernel
theorem dX2_put_5 : decode cX2_put 5 = .ok (.iload_n 2, 1) := by decide +kernel
theorem dX2_put_6 : decode cX2_put 6 = .ok (.iastore, 1) := by decide +kernel
theorem dX2_put_7 : decode cX2_put 7 = .ok (.aload_n 0, 1) := by decide +kernel
theorem dX2_put_8 : decode cX2_put 8 = .ok (.getfield 15, 3) := by decide +kernel
theorem dX2_put_11 : decode cX2_put 11 = .ok (.iload_n 1, 1) := by decide +kernel
theorem dX2_put_12 : decode cX2_put 12 = .ok (.iload_n 3, 1) := by decide +kernel
theorem dX2_put_13 : decode cX2_put 13 = .ok (.iastore, 1) := by decide +kernel
theorem dX2_put_14 : decode cX2_put 14 = .ok (.aload_n 0, 1) := by decide +kernel
theorem dX2_put_15 : decode cX2_put 15 = .ok (.getfield 18, 3) := by decide +kernel
theorem dX2_put_18 : decode cX2_put 18 = .ok (.iload_n 1, 1) := by decide +kernel
theorem dX2_put_19 : decode cX2_put 19 = .ok (.iconst 0, 1) := by decide +kernel
theorem dX2_put_20 : decode cX2_put 20 = .ok (.iastore, 1) := by decide +kernel
theorem dX2_put_21 : decode cX2_put 21 = .ok (.return_, 1) := by decide +kernel
theorem dX2_remove_0 : decode cX2_remove 0 = .ok (.aload_n 0, 1) := by decide +kernel
theorem dX2_remove_1 : decode cX2_remove 1 = .ok (.getfield 9, 3) := by decide +kernel
theorem dX2_remove_4 : decode cX2_remove 4 = .ok (.iload_n 1, 1) := by decide +kernel
theorem dX2_remove_5 : decode cX2_remove 5 = .ok (.iconst (-1), 1) := by decide +kernel
theorem dX2_remove_6 : decode cX2_remove 6 = .ok (.iastore, 1) := by decide +kernel
theorem dX2_remove_7 : decode cX2_remove 7 = .ok (.return_, 1) := by decide +kernel
theorem dX2_copyAll_0 : decode cX2_copyAll 0 = .ok (.aload_n 1, 1) := by decide +kernel
theorem dX2_copyAll_1 : decode cX2_copyAll 1 = .ok (.getfield 9, 3) := by decide +kernel
theorem dX2_copyAll_4 : decode cX2_copyAll 4 = .ok (.iconst 0, 1) := by decide +kernel
theorem dX2_copyAll_5 : decode cX2_copyAll 5 = .ok (.aload_n 0, 1) := by decide +kernel
theorem dX2_copyAll_6 : decode cX2_copyAll 6 = .ok (.getfield 9, 3) := by decide +kernel
theorem dX2_copyAll_9 : decode cX2_copyAll 9 = .ok (.iconst 0, 1) := by decide +kernel
theorem dX2_copyAll_10 : decode cX2_copyAll 10 = .ok (.sipush 640, 3) := by decide +kernel
theorem dX2_copyAll_13 : decode cX2_copyAll 13 = .ok (.invokestatic 27, 3) := by decide +kernel
theorem dX2_copyAll_16 : decode cX2_copyAll 16 = .ok (.aload_n 1, 1) := by decide +kernel
theorem dX2_copyAll_17 : decode cX2_copyAll 17 = .ok (.getfield 15, 3) := by decide +kernel
theorem dX2_copyAll_20 : decode cX2_copyAll 20 = .ok (.iconst 0, 1) := by decide +kernel
theorem dX2_copyAll_21 : decode cX2_copyAll 21 = .ok (.aload_n 0, 1) := by decide +kernel
theorem dX2_copyAll_22 : decode cX2_copyAll 22 = .ok (.getfield 15, 3) := by decide +kernel
theorem dX2_copyAll_25 : decode cX2_copyAll 25 = .ok (.iconst 0, 1) := by decide +kernel
theorem dX2_copyAll_26 : decode cX2_copyAll 26 = .ok (.sipush 640, 3) := by decide +kernel
theorem dX2_copyAll_29 : decode cX2_copyAll 29 = .ok (.invokestatic 27, 3) := by decide +kernel
theorem dX2_copyAll_32 : decode cX2_copyAll 32 = .ok (.aload_n 1, 1) := by decide +kernel
theorem dX2_copyAll_33 : decode cX2_copyAll 33 = .ok (.getfield 18, 3) := by decide +kernel
theorem dX2_copyAll_36 : decode cX2_copyAll 36 = .ok (.iconst 0, 1) := by decide +kernel
theorem dX2_copyAll_37 : decode cX2_copyAll 37 = .ok (.aload_n 0, 1) := by decide +kernel
theorem dX2_copyAll_38 : decode cX2_copyAll 38 = .ok (.getfield 18, 3) := by decide +kernel
theorem dX2_copyAll_41 : decode cX2_copyAll 41 = .ok (.iconst 0, 1) := by decide +kernel
theorem dX2_copyAll_42 : decode cX2_copyAll 42 = .ok (.sipush 640, 3) := by decide +kernel
theorem dX2_copyAll_45 : decode cX2_copyAll 45 = .ok (.invokestatic 27, 3) := by decide +kernel
theorem dX2_copyAll_48 : decode cX2_copyAll 48 = .ok (.return_, 1) := by decide +kernel
theorem dX2_isAt_0 : decode cX2_isAt 0 = .ok (.aload_n 0, 1) := by decide +kernel
theorem dX2_isAt_1 : decode cX2_isAt 1 = .ok (.getfield 9, 3) := by decide +kernel
theorem dX2_isAt_4 : decode cX2_isAt 4 = .ok (.iload_n 1, 1) := by decide +kernel
theorem dX2_isAt_5 : decode cX2_isAt 5 = .ok (.iaload, 1) := by decide +kernel
theorem dX2_isAt_6 : decode cX2_isAt 6 = .ok (.iconst (-1), 1) := by decide +kernel
theorem dX2_isAt_7 : decode cX2_isAt 7 = .ok (.if_icmp .eq 7, 3) := by decide +kernel
theorem dX2_isAt_10 : decode cX2_isAt 10 = .ok (.iconst 1, 1) := by decide +kernel
theorem dX2_isAt_11 : decode cX2_isAt 11 = .ok (.goto 4, 3) := by decide +kernel
theorem dX2_isAt_14 : decode cX2_isAt 14 = .ok (.iconst 0, 1) := by decide +kernel
theorem dX2_isAt_15 : decode cX2_isAt 15 = .ok (.ireturn, 1) := by decide +kernel
theorem dX2_isRedressAt_0 : decode cX2_isRedressAt 0 = .ok (.aload_n 0, 1) := by decide +kernel
theorem dX2_isRedressAt_1 : decode cX2_isRedressAt 1 = .ok (.getfield 9, 3) := by decide +kernel
theorem dX2_isRedressAt_4 : decode cX2_isRedressAt 4 = .ok (.iload_n 1, 1) := by decide +kernel
theorem dX2_isRedressAt_5 : decode cX2_isRedressAt 5 = .ok (.iaload, 1) := by decide +kernel
theorem dX2_isRedressAt_6 : decode cX2_isRedressAt 6 = .ok (.bipush 6, 2) := by decide +kernel
theorem dX2_isRedressAt_8 : decode cX2_isRedressAt 8 = .ok (.if_icmp .eq 25, 3) := by decide +kernel
theorem dX2_isRedressAt_11 : decode cX2_isRedressAt 11 = .ok (.aload_n 0, 1) := by decide +kernel
theorem dX2_isRedressAt_12 : decode cX2_isRedressAt 12 = .ok (.getfield 9, 3) := by decide +kernel
theorem dX2_isRedressAt_15 : decode cX2_isRedressAt 15 = .ok (.iload_n 1, 1) := by decide +kernel
theorem dX2_isRedressAt_16 : decode cX2_isRedressAt 16 = .ok (.iaload, 1) := by decide +kernel
theorem dX2_isRedressAt_17 : decode cX2_isRedressAt 17 = .ok (.bipush 7, 2) := by decide +kernel
theorem dX2_isRedressAt_19 : decode cX2_isRedressAt 19 = .ok (.if_icmp .eq 14, 3) := by decide +kernel
theorem dX2_isRedressAt_22 : decode cX2_isRedressAt 22 = .ok (.aload_n 0, 1) := by decide +kernel
theorem dX2_isRedressAt_23 : decode cX2_isRedressAt 23 = .ok (.getfield 9, 3) := by decide +kernel
theorem dX2_isRedressAt_26 : decode cX2_isRedressAt 26 = .ok (.iload_n 1, 1) := by decide +kernel
theorem dX2_isRedressAt_27 : decode cX2_isRedressAt 27 = .ok (.iaload, 1) := by decide +kernel
theorem dX2_isRedressAt_28 : decode cX2_isRedressAt 28 = .ok (.bipush 8, 2) := by decide +kernel
theorem dX2_isRedressAt_30 : decode cX2_isRedressAt 30 = .ok (.if_icmp .ne 7, 3) := by decide +kernel
theorem dX2_isRedressAt_33 : decode cX2_isRedressAt 33 = .ok (.iconst 1, 1) := by decide +kernel
theorem dX2_isRedressAt_34 : decode cX2_isRedressAt 34 = .ok (.goto 4, 3) := by decide +kernel
theorem dX2_isRedressAt_37 : decode cX2_isRedressAt 37 = .ok (.iconst 0, 1) := by decide +kernel
theorem dX2_isRedressAt_38 : decode cX2_isRedressAt 38 = .ok (.ireturn, 1) := by decide +kernel
theorem dX3_init_0 : decode cX3_init 0 = .ok (.aload_n 0, 1) := by decide +kernel
theorem dX3_init_1 : decode cX3_init 1 = .ok (.invokespecial 3, 3) := by decide +kernel
theorem dX3_init_4 : decode cX3_init 4 = .ok (.aload_n 0, 1) := by decide +kernel
theorem dX3_init_5 : decode cX3_init 5 = .ok (.new 9, 3) := by decide +kernel
theorem dX3_init_8 : decode cX3_init 8 = .ok (.dup, 1) := by decide +kernel
theorem dX3_init_9 : decode cX3_init 9 = .ok (.invokespecial 11, 3) := by decide +kernel
theorem dX3_init_12 : decode cX3_init 12 = .ok (.putfield 12, 3) := by decide +kernel
theorem dX3_init_15 : decode cX3_init 15 = .ok (.aload_n 0, 1) := by decide +kernel
theorem dX3_init_16 : decode cX3_init 16 = .ok (.sipush 640, 3) := by decide +kernel
theorem dX3_init_19 : decode cX3_init 19 = .ok (.newarray .boolean, 2) := by decide +kernel
theorem dX3_init_21 : decode cX3_init 21 = .ok (.putfield 18, 3) := by decide +kernel
theorem dX3_init_24 : decode cX3_init 24 = .ok (.aload_n 0, 1) := by decide +kernel
theorem dX3_init_25 : decode cX3_init 25 = .ok (.sipush 640, 3) := by decide +kernel
theorem dX3_init_28 : decode cX3_init 28 = .ok (.newarray .int, 2) := by decide +kernel
theorem dX3_init_30 : decode cX3_init 30 = .ok (.putfield 22, 3) := by decide +kernel
theorem dX3_init_33 : decode cX3_init 33 = .ok (.aload_n 0, 1) := by decide +kernel
theorem dX3_init_34 : decode cX3_init 34 = .ok (.bipush 16, 2) := by decide +kernel
theorem dX3_init_36 : decode cX3_init 36 = .ok (.newarray .boolean, 2) := by decide +kernel
theorem dX3_init_38 : decode cX3_init 38 = .ok (.putfield 26, 3) := by decide +kernel
theorem dX3_init_41 : decode cX3_init 41 = .ok (.aload_n 0, 1) := by decide +kernel
theorem dX3_init_42 : decode cX3_init 42 = .ok (.bipush 16, 2) := by decide +kernel
theorem dX3_init_44 : decode cX3_init 44 = .ok (.newarray .int, 2) := by decide +kernel
theorem dX3_init_46 : decode cX3_init 46 = .ok (.putfield 29, 3) := by decide +kernel
theorem dX3_init_49 : decode cX3_init 49 = .ok (.aload_n 0, 1) := by decide +kernel
theorem dX3_init_50 : decode cX3_init 50 = .ok (.bipush 100, 2) := by decide +kernel
theorem dX3_init_52 : decode cX3_init 52 = .ok (.newarray .int, 2) := by decide +kernel
theorem dX3_init_54 : decode cX3_init 54 = .ok (.putfield 32, 3) := by decide +kernel
theorem dX3_init_57 : decode cX3_init 57 = .ok (.aload_n 0, 1) := by decide +kernel
theorem dX3_init_58 : decode cX3_init 58 = .ok (.bipush 100, 2) := by decide +kernel
theorem dX3_init_60 : decode cX3_init 60 = .ok (.newarray .int, 2) := by decide +kernel
theorem dX3_init_62 : decode cX3_init 62 = .ok (.putfield 35, 3) := by decide +kernel
theorem dX3_init_65 : decode cX3_init 65 = .ok (.aload_n 0, 1) := by decide +kernel
theorem dX3_init_66 : decode cX3_init 66 = .ok (.aload_n 1, 1) := by decide +kernel
theorem dX3_init_67 : decode cX3_init 67 = .ok (.putfield 38, 3) := by decide +kernel
theorem dX3_init_70 : decode cX3_init 70 = .ok (.aload_n 0, 1) := by decide +kernel
theorem dX3_init_71 : decode cX3_init 71 = .ok (.aload_n 2, 1) := by decide +kernel
theorem dX3_init_72 : decode cX3_init 72 = .ok (.putfield 42, 3) := by decide +kernel
theorem dX3_init_75 : decode cX3_init 75 = .ok (.aload_n 0, 1) := by decide +kernel
theorem dX3_init_76 : decode cX3_init 76 = .ok (.aload_n 3, 1) := by decide +kernel
theorem dX3_init_77 : decode cX3_init 77 = .ok (.putfield 46, 3) := by decide +kernel
theorem dX3_init_80 : decode cX3_init 80 = .ok (.aload_n 0, 1) := by decide +kernel
theorem dX3_init_81 : decode cX3_init 81 = .ok (.aload 4, 2) := by decide +kernel
theorem dX3_init_83 : decode cX3_init 83 = .ok (.putfield 49, 3) := by decide +kernel
theorem dX3_init_86 : decode cX3_init 86 = .ok (.return_, 1) := by decide +kernel
theorem dX3_calculate_0 : decode cX3_calculate 0 = .ok (.aload_n 0, 1) := by decide +kernel
theorem dX3_calculate_1 : decode cX3_calculate 1 = .ok (.getfield 12, 3) := by decide +kernel
theorem dX3_calculate_4 : decode cX3_calculate 4 = .ok (.aload_n 0, 1) := by decide +kernel
theorem dX3_calculate_5 : decode cX3_calculate 5 = .ok (.getfield 46, 3) := by decide +kernel
theorem dX3_calculate_8 : decode cX3_calculate 8 = .ok (.invokevirtual 53, 3) := by decide +kernel
theorem dX3_calculate_11 : decode cX3_calculate 11 = .ok (.aload_n 0, 1) := by decide +kernel
theorem dX3_calculate_12 : decode cX3_calculate 12 = .ok (.getfield 49, 3) := by decide +kernel
theorem dX3_calculate_15 : decode cX3_calculate 15 = .ok (.aload_n 0, 1) := by decide +kernel
theorem dX3_calculate_16 : decode cX3_calculate 16 = .ok (.getfield 12, 3) := by decide +kernel
theorem dX3_calculate_19 : decode cX3_calculate 19 = .ok (.invokevirtual 57, 3) := by decide +kernel
theorem dX3_calculate_22 : decode cX3_calculate 22 = .ok (.iconst 0, 1) := by decide +kernel
theorem dX3_calculate_23 : decode cX3_calculate 23 = .ok (.istore_n 1, 1) := by decide +kernel
theorem dX3_calculate_24 : decode cX3_calculate 24 = .ok (.iload_n 1, 1) := by decide +kernel
theorem dX3_calculate_25 : decode cX3_calculate 25 = .ok (.aload_n 0, 1) := by decide +kernel
theorem dX3_calculate_26 : decode cX3_calculate 26 = .ok (.getfield 42, 3) := by decide +kernel
theorem dX3_calculate_29 : decode cX3_calculate 29 = .ok (.getfield 62, 3) := by decide +kernel
theorem dX3_calculate_32 : decode cX3_calculate 32 = .ok (.if_icmp .ge 67, 3) := by decide +kernel
theorem dX3_calculate_35 : decode cX3_calculate 35 = .ok (.aload_n 0, 1) := by decide +kernel
theorem dX3_calculate_36 : decode cX3_calculate 36 = .ok (.getfield 29, 3) := by decide +kernel
theorem dX3_calculate_39 : decode cX3_calculate 39 = .ok (.iload_n 1, 1) := by decide +kernel
theorem dX3_calculate_40 : decode cX3_calculate 40 = .ok (.aload_n 0, 1) := by decide +kernel
theorem dX3_calculate_41 : decode cX3_calculate 41 = .ok (.getfield 38, 3) := by decide +kernel
theorem dX3_calculate_44 : decode cX3_calculate 44 = .ok (.aload_n 0, 1) := by decide +kernel
theorem dX3_calculate_45 : decode cX3_calculate 45 = .ok (.getfield 42, 3) := by decide +kernel
theorem dX3_calculate_48 : decode cX3_calculate 48 = .ok (.getfield 68, 3) := by decide +kernel
theorem dX3_calculate_51 : decode cX3_calculate 51 = .ok (.iload_n 1, 1) := by decide +kernel
theorem dX3_calculate_52 : decode cX3_calculate 52 = .ok (.iaload, 1) := by decide +kernel
theorem dX3_calculate_53 : decode cX3_calculate 53 = .ok (.invokevirtual 71, 3) := by decide +kernel
theorem dX3_calculate_56 : decode cX3_calculate 56 = .ok (.iastore, 1) := by decide +kernel
theorem dX3_calculate_57 : decode cX3_calculate 57 = .ok (.aload_n 0, 1) := by decide +kernel
theorem dX3_calculate_58 : decode cX3_calculate 58 = .ok (.getfield 26, 3) := by decide +kernel
theorem dX3_calculate_61 : decode cX3_calculate 61 = .ok (.iload_n 1, 1) := by decide +kernel
theorem dX3_calculate_62 : decode cX3_calculate 62 = .ok (.aload_n 0, 1) := by decide +kernel
theorem dX3_calculate_63 : decode cX3_calculate 63 = .ok (.getfield 42, 3) := by decide +kernel
theorem dX3_calculate_66 : decode cX3_calculate 66 = .ok (.getfield 77, 3) := by decide +kernel
theorem dX3_calculate_69 : decode cX3_calculate 69 = .ok (.iload_n 1, 1) := by decide +kernel
theorem dX3_calculate_70 : decode cX3_calculate 70 = .ok (.baload, 1) := by decide +kernel
theorem dX3_calculate_71 : decode cX3_calculate 71 = .ok (.ifCond .ne 15, 3) := by decide +kernel
theorem dX3_calculate_74 : decode cX3_calculate 74 = .ok (.aload_n 0, 1) := by decide +kernel
theorem dX3_calculate_75 : decode cX3_calculate 75 = .ok (.iload_n 1, 1) := by decide +kernel
theorem dX3_calculate_76 : decode cX3_calculate 76 = .ok (.invokevirtual 80, 3) := by decide +kernel
theorem dX3_calculate_79 : decode cX3_calculate 79 = .ok (.ifCond .eq 7, 3) := by decide +kernel
theorem dX3_calculate_82 : decode cX3_calculate 82 = .ok (.iconst 1, 1) := by decide +kernel
theorem dX3_calculate_83 : decode cX3_calculate 83 = .ok (.goto 4, 3) := by decide +kernel
theorem dX3_calculate_86 : decode cX3_calculate 86 = .ok (.iconst 0, 1) := by decide +kernel
theorem dX3_calculate_87 : decode cX3_calculate 87 = .ok (.bastore, 1) := by decide +kernel
theorem dX3_calculate_88 : decode cX3_calculate 88 = .ok (.aload_n 0, 1) := by decide +kernel
theorem dX3_calculate_89 : decode cX3_calculate 89 = .ok (.iload_n 1, 1) := by decide +kernel
theorem dX3_calculate_90 : decode cX3_calculate 90 = .ok (.invokevirtual 84, 3) := by decide +kernel
theorem dX3_calculate_93 : decode cX3_calculate 93 = .ok (.iinc 1 1, 3) := by decide +kernel
theorem dX3_calculate_96 : decode cX3_calculate 96 = .ok (.goto (-72), 3) := by decide +kernel
theorem dX3_calculate_99 : decode cX3_calculate 99 = .ok (.iconst 0, 1) := by decide +kernel
theorem dX3_calculate_100 : decode cX3_calculate 100 = .ok (.istore_n 1, 1) := by decide +kernel
theorem dX3_calculate_101 : decode cX3_calculate 101 = .ok (.iload_n 1, 1) := by decide +kernel
theorem dX3_calculate_102 : decode cX3_calculate 102 = .ok (.aload_n 0, 1) := by decide +kernel
theorem dX3_calculate_103 : decode cX3_calculate 103 = .ok (.getfield 42, 3) := by decide +kernel
theorem dX3_calculate_106 : decode cX3_calculate 106 = .ok (.getfield 62, 3) := by decide +kernel
theorem dX3_calculate_109 : decode cX3_calculate 109 = .ok (.if_icmp .ge 14, 3) := by decide +kernel
theorem dX3_calculate_112 : decode cX3_calculate 112 = .ok (.aload_n 0, 1) := by decide +kernel
theorem dX3_calculate_113 : decode cX3_calculate 113 = .ok (.iload_n 1, 1) := by decide +kernel
theorem dX3_calculate_114 : decode cX3_calculate 114 = .ok (.invokevirtual 88, 3) := by decide +kernel
theorem dX3_calculate_117 : decode cX3_calculate 117 = .ok (.iinc 1 1, 3) := by decide +kernel
theorem dX3_calculate_120 : decode cX3_calculate 120 = .ok (.goto (-19), 3) := by decide +kernel
theorem dX3_calculate_123 : decode cX3_calculate 123 = .ok (.return_, 1) := by decide +kernel
theorem dX3_isMissing_0 : decode cX3_isMissing 0 = .ok (.aload_n 0, 1) := by decide +kernel
theorem dX3_isMissing_1 : decode cX3_isMissing 1 = .ok (.getfield 38, 3) := by decide +kernel
theorem dX3_isMissing_4 : decode cX3_isMissing 4 = .ok (.iload_n 2, 1) := by decide +kernel
theorem dX3_isMissing_5 : decode cX3_isMissing 5 = .ok (.aload_n 0, 1) := by decide +kernel
theorem dX3_isMissing_6 : decode cX3_isMissing 6 = .ok (.getfield 42, 3) := by decide +kernel
theorem dX3_isMissing_9 : decode cX3_isMissing 9 = .ok (.getfield 68, 3) := by decide +kernel
theorem dX3_isMissing_12 : decode cX3_isMissing 12 = .ok (.iload_n 1, 1) := by decide +kernel
theorem dX3_isMissing_13 : decode cX3_isMissing 13 = .ok (.iaload, 1) := by decide +kernel
theorem dX3_isMissing_14 : decode cX3_isMissing 14 = .ok (.invokevirtual 91, 3) := by decide +kernel
theorem dX3_isMissing_17 : decode cX3_isMissing 17 = .ok (.ifCond .eq 22, 3) := by decide +kernel
theorem dX3_isMissing_20 : decode cX3_isMissing 20 = .ok (.aload_n 0, 1) := by decide +kernel
theorem dX3_isMissing_21 : decode cX3_isMissing 21 = .ok (.getfield 12, 3) := by decide +kernel
theorem dX3_isMissing_24 : decode cX3_isMissing 24 = .ok (.iload_n 1, 1) := by decide +kernel
theorem dX3_isMissing_25 : decode cX3_isMissing 25 = .ok (.iload_n 2, 1) := by decide +kernel
theorem dX3_isMissing_26 : decode cX3_isMissing 26 = .ok (.invokestatic 95, 3) := by decide +kernel
theorem dX3_isMissing_29 : decode cX3_isMissing 29 = .ok (.invokevirtual 99, 3) := by decide +kernel
theorem dX3_isMissing_32 : decode cX3_isMissing 32 = .ok (.ifCond .ne 7, 3) := by decide +kernel
theorem dX3_isMissing_35 : decode cX3_isMissing 35 = .ok (.iconst 1, 1) := by decide +kernel
theorem dX3_isMissing_36 : decode cX3_isMissing 36 = .ok (.goto 4, 3) := by decide +kernel
theorem dX3_isMissing_39 : decode cX3_isMissing 39 = .ok (.iconst 0, 1) := by decide +kernel
theorem dX3_isMissing_40 : decode cX3_isMissing 40 = .ok (.ireturn, 1) := by decide +kernel
theorem dX3_isAnyRaceSailed_0 : decode cX3_isAnyRaceSailed 0 = .ok (.iconst 0, 1) := by decide +kernel
theorem dX3_isAnyRaceSailed_1 : decode cX3_isAnyRaceSailed 1 = .ok (.istore_n 1, 1) := by decide +kernel
theorem dX3_isAnyRaceSailed_2 : decode cX3_isAnyRaceSailed 2 = .ok (.iload_n 1, 1) := by decide +kernel
theorem dX3_isAnyRaceSailed_3 : decode cX3_isAnyRaceSailed 3 = .ok (.aload_n 0, 1) := by decide +kernel
theorem dX3_isAnyRaceSailed_4 : decode cX3_isAnyRaceSailed 4 = .ok (.getfield 42, 3) := by decide +kernel
theorem dX3_isAnyRaceSailed_7 : decode cX3_isAnyRaceSailed 7 = .ok (.getfield 62, 3) := by decide +kernel
theorem dX3_isAnyRaceSailed_10 : decode cX3_isAnyRaceSailed 10 = .ok (.if_icmp .ge 20, 3) := by decide +kernel
theorem dX3_isAnyRaceSailed_13 : decode cX3_isAnyRaceSailed 13 = .ok (.aload_n 0, 1) := by decide +kernel
theorem dX3_isAnyRaceSailed_14 : decode cX3_isAnyRaceSailed 14 = .ok (.getfield 26, 3) := by decide +kernel
theorem dX3_isAnyRaceSailed_17 : decode cX3_isAnyRaceSailed 17 = .ok (.iload_n 1, 1) := by decide +kernel
theorem dX3_isAnyRaceSailed_18 : decode cX3_isAnyRaceSailed 18 = .ok (.baload, 1) := by decide +kernel
theorem dX3_isAnyRaceSailed_19 : decode cX3_isAnyRaceSailed 19 = .ok (.ifCond .eq 5, 3) := by decide +kernel
theorem dX3_isAnyRaceSailed_22 : decode cX3_isAnyRaceSailed 22 = .ok (.iconst 1, 1) := by decide +kernel
theorem dX3_isAnyRaceSailed_23 : decode cX3_isAnyRaceSailed 23 = .ok (.ireturn, 1) := by decide +kernel
theorem dX3_isAnyRaceSailed_24 : decode cX3_isAnyRaceSailed 24 = .ok (.iinc 1 1, 3) := by decide +kernel
theorem dX3_isAnyRaceSailed_27 : decode cX3_isAnyRaceSailed 27 = .ok (.goto (-25), 3) := by decide +kernel
theorem dX3_isAnyRaceSailed_30 : decode cX3_isAnyRaceSailed 30 = .ok (.iconst 0, 1) := by decide +kernel
theorem dX3_isAnyRaceSailed_31 : decode cX3_isAnyRaceSailed 31 = .ok (.ireturn, 1) := by decide +kernel
theorem dX3_hasEntry_0 : decode cX3_hasEntry 0 = .ok (.iconst 0, 1) := by decide +kernel
theorem dX3_hasEntry_1 : decode cX3_hasEntry 1 = .ok (.istore_n 2, 1) := by decide +kernel
theorem dX3_hasEntry_2 : decode cX3_hasEntry 2 = .ok (.iload_n 2, 1) := by decide +kernel
theorem dX3_hasEntry_3 : decode cX3_hasEntry 3 = .ok (.aload_n 0, 1) := by decide +kernel
theorem dX3_hasEntry_4 : decode cX3_hasEntry 4 = .ok (.getfield 38, 3) := by decide +kernel
theorem dX3_hasEntry_7 : decode cX3_hasEntry 7 = .ok (.getfield 102, 3) := by decide +kernel
theorem dX3_hasEntry_10 : decode cX3_hasEntry 10 = .ok (.if_icmp .ge 26, 3) := by decide +kernel
theorem dX3_hasEntry_13 : decode cX3_hasEntry 13 = .ok (.aload_n 0, 1) := by decide +kernel
theorem dX3_hasEntry_14 : decode cX3_hasEntry 14 = .ok (.getfield 12, 3) := by decide +kernel
theorem dX3_hasEntry_17 : decode cX3_hasEntry 17 = .ok (.iload_n 1, 1) := by decide +kernel
theorem dX3_hasEntry_18 : decode cX3_hasEntry 18 = .ok (.iload_n 2, 1) := by decide +kernel
theorem dX3_hasEntry_19 : decode cX3_hasEntry 19 = .ok (.invokestatic 95, 3) := by decide +kernel
theorem dX3_hasEntry_22 : decode cX3_hasEntry 22 = .ok (.invokevirtual 99, 3) := by decide +kernel
theorem dX3_hasEntry_25 : decode cX3_hasEntry 25 = .ok (.ifCond .eq 5, 3) := by decide +kernel
theorem dX3_hasEntry_28 : decode cX3_hasEntry 28 = .ok (.iconst 1, 1) := by decide +kernel
theorem dX3_hasEntry_29 : decode cX3_hasEntry 29 = .ok (.ireturn, 1) := by decide +kernel
theorem dX3_hasEntry_30 : decode cX3_hasEntry 30 = .ok (.iinc 2 1, 3) := by decide +kernel
theorem dX3_hasEntry_33 : decode cX3_hasEntry 33 = .ok (.goto (-31), 3) := by decide +kernel
theorem dX3_hasEntry_36 : decode cX3_hasEntry 36 = .ok (.iconst 0, 1) := by decide +kernel
theorem dX3_hasEntry_37 : decode cX3_hasEntry 37 = .ok (.ireturn, 1) := by decide +kernel
theorem dX3_scoreRace_0 : decode cX3_scoreRace 0 = .ok (.aload_n 0, 1) := by decide +kernel
theorem dX3_scoreRace_1 : decode cX3_scoreRace 1 = .ok (.iload_n 1, 1) := by decide +kernel
theorem dX3_scoreRace_2 : decode cX3_scoreRace 2 = .ok (.invokevirtual 103, 3) := by decide +kernel
theorem dX3_scoreRace_5 : decode cX3_scoreRace 5 = .ok (.iconst 0, 1) := by decide +kernel
theorem dX3_scoreRace_6 : decode cX3_scoreRace 6 = .ok (.istore_n 2, 1) := by decide +kernel
theorem dX3_scoreRace_7 : decode cX3_scoreRace 7 = .ok (.iload_n 2, 1) := by decide +kernel
theorem dX3_scoreRace_8 : decode cX3_scoreRace 8 = .ok (.aload_n 0, 1) := by decide +kernel
theorem dX3_scoreRace_9 : decode cX3_scoreRace 9 = .ok (.getfield 38, 3) := by decide +kernel
theorem dX3_scoreRace_12 : decode cX3_scoreRace 12 = .ok (.getfield 102, 3) := by decide +kernel
theorem dX3_scoreRace_15 : decode cX3_scoreRace 15 = .ok (.if_icmp .ge 80, 3) := by decide +kernel
theorem dX3_scoreRace_18 : decode cX3_scoreRace 18 = .ok (.iload_n 1, 1) := by decide +kernel
theorem dX3_scoreRace_19 : decode cX3_scoreRace 19 = .ok (.iload_n 2, 1) := by decide +kernel
theorem dX3_scoreRace_20 : decode cX3_scoreRace 20 = .ok (.invokestatic 95, 3) := by decide +kernel
theorem dX3_scoreRace_23 : decode cX3_scoreRace 23 = .ok (.istore_n 3, 1) := by decide +kernel
theorem dX3_scoreRace_24 : decode cX3_scoreRace 24 = .ok (.aload_n 0, 1) := by decide +kernel
theorem dX3_scoreRace_25 : decode cX3_scoreRace 25 = .ok (.getfield 18, 3) := by decide +kernel
theorem dX3_scoreRace_28 : decode cX3_scoreRace 28 = .ok (.iload_n 3, 1) := by decide +kernel
theorem dX3_scoreRace_29 : decode cX3_scoreRace 29 = .ok (.aload_n 0, 1) := by decide +kernel
theorem dX3_scoreRace_30 : decode cX3_scoreRace 30 = .ok (.getfield 26, 3) := by decide +kernel
theorem dX3_scoreRace_33 : decode cX3_scoreRace 33 = .ok (.iload_n 1, 1) := by decide +kernel
theorem dX3_scoreRace_34 : decode cX3_scoreRace 34 = .ok (.baload, 1) := by decide +kernel
theorem dX3_scoreRace_35 : decode cX3_scoreRace 35 = .ok (.ifCond .eq 27, 3) := by decide +kernel
theorem dX3_scoreRace_38 : decode cX3_scoreRace 38 = .ok (.aload_n 0, 1) := by decide +kernel
theorem dX3_scoreRace_39 : decode cX3_scoreRace 39 = .ok (.getfield 38, 3) := by decide +kernel
theorem dX3_scoreRace_42 : decode cX3_scoreRace 42 = .ok (.iload_n 2, 1) := by decide +kernel
theorem dX3_scoreRace_43 : decode cX3_scoreRace 43 = .ok (.aload_n 0, 1) := by decide +kernel
theorem dX3_scoreRace_44 : decode cX3_scoreRace 44 = .ok (.getfield 42, 3) := by decide +kernel
theorem dX3_scoreRace_47 : decode cX3_scoreRace 47 = .ok (.getfield 68, 3) := by decide +kernel
theorem dX3_scoreRace_50 : decode cX3_scoreRace 50 = .ok (.iload_n 1, 1) := by decide +kernel
theorem dX3_scoreRace_51 : decode cX3_scoreRace 51 = .ok (.iaload, 1) := by decide +kernel
theorem dX3_scoreRace_52 : decode cX3_scoreRace 52 = .ok (.invokevirtual 91, 3) := by decide +kernel
theorem dX3_scoreRace_55 : decode cX3_scoreRace 55 = .ok (.ifCond .eq 7, 3) := by decide +kernel
theorem dX3_scoreRace_58 : decode cX3_scoreRace 58 = .ok (.iconst 1, 1) := by decide +kernel
theorem dX3_scoreRace_59 : decode cX3_scoreRace 59 = .ok (.goto 4, 3) := by decide +kernel
theorem dX3_scoreRace_62 : decode cX3_scoreRace 62 = .ok (.iconst 0, 1) := by decide +kernel
theorem dX3_scoreRace_63 : decode cX3_scoreRace 63 = .ok (.bastore, 1) := by decide +kernel
theorem dX3_scoreRace_64 : decode cX3_scoreRace 64 = .ok (.aload_n 0, 1) := by decide +kernel
theorem dX3_scoreRace_65 : decode cX3_scoreRace 65 = .ok (.getfield 22, 3) := by decide +kernel
theorem dX3_scoreRace_68 : decode cX3_scoreRace 68 = .ok (.iload_n 3, 1) := by decide +kernel
theorem dX3_scoreRace_69 : decode cX3_scoreRace 69 = .ok (.aload_n 0, 1) := by decide +kernel
theorem dX3_scoreRace_70 : decode cX3_scoreRace 70 = .ok (.getfield 18, 3) := by decide +kernel
theorem dX3_scoreRace_73 : decode cX3_scoreRace 73 = .ok (.iload_n 3, 1) := by decide +kernel
theorem dX3_scoreRace_74 : decode cX3_scoreRace 74 = .ok (.baload, 1) := by decide +kernel
theorem dX3_scoreRace_75 : decode cX3_scoreRace 75 = .ok (.ifCond .eq 12, 3) := by decide +kernel
theorem dX3_scoreRace_78 : decode cX3_scoreRace 78 = .ok (.aload_n 0, 1) := by decide +kernel
theorem dX3_scoreRace_79 : decode cX3_scoreRace 79 = .ok (.iload_n 1, 1) := by decide +kernel
theorem dX3_scoreRace_80 : decode cX3_scoreRace 80 = .ok (.iload_n 3, 1) := by decide +kernel
theorem dX3_scoreRace_81 : decode cX3_scoreRace 81 = .ok (.invokevirtual 106, 3) := by decide +kernel
theorem dX3_scoreRace_84 : decode cX3_scoreRace 84 = .ok (.goto 4, 3) := by decide +kernel
theorem dX3_scoreRace_87 : decode cX3_scoreRace 87 = .ok (.iconst (-1), 1) := by decide +kernel
theorem dX3_scoreRace_88 : decode cX3_scoreRace 88 = .ok (.iastore, 1) := by decide +kernel
theorem dX3_scoreRace_89 : decode cX3_scoreRace 89 = .ok (.iinc 2 1, 3) := by decide +kernel
theorem dX3_scoreRace_92 : decode cX3_scoreRace 92 = .ok (.goto (-85), 3) := by decide +kernel
theorem dX3_scoreRace_95 : decode cX3_scoreRace 95 = .ok (.return_, 1) := by decide +kernel
theorem dX3_countPlaces_0 : decode cX3_countPlaces 0 = .ok (.aload_n 0, 1) := by decide +kernel
theorem dX3_countPlaces_1 : decode cX3_countPlaces 1 = .ok (.getfield 32, 3) := by decide +kernel
theorem dX3_countPlaces_4 : decode cX3_countPlaces 4 = .ok (.iconst 0, 1) := by decide +kernel
theorem dX3_countPlaces_5 : decode cX3_countPlaces 5 = .ok (.invokestatic 109, 3) := by decide +kernel
theorem dX3_countPlaces_8 : decode cX3_countPlaces 8 = .ok (.iconst 0, 1) := by decide +kernel
theorem dX3_countPlaces_9 : decode cX3_countPlaces 9 = .ok (.istore_n 2, 1) := by decide +kernel
theorem dX3_countPlaces_10 : decode cX3_countPlaces 10 = .ok (.iload_n 2, 1) := by decide +kernel
theorem dX3_countPlaces_11 : decode cX3_countPlaces 11 = .ok (.aload_n 0, 1) := by decide +kernel
theorem dX3_countPlaces_12 : decode cX3_countPlaces 12 = .ok (.getfield 38, 3) := by decide +kernel
theorem dX3_countPlaces_15 : decode cX3_countPlaces 15 = .ok (.getfield 102, 3) := by decide +kernel
theorem dX3_countPlaces_18 : decode cX3_countPlaces 18 = .ok (.if_icmp .ge 45, 3) := by decide +kernel
theorem dX3_countPlaces_21 : decode cX3_countPlaces 21 = .ok (.iload_n 1, 1) := by decide +kernel
theorem dX3_countPlaces_22 : decode cX3_countPlaces 22 = .ok (.iload_n 2, 1) := by decide +kernel
theorem dX3_countPlaces_23 : decode cX3_countPlaces 23 = .ok (.invokestatic 95, 3) := by decide +kernel
theorem dX3_countPlaces_26 : decode cX3_countPlaces 26 = .ok (.istore_n 3, 1) := by decide +kernel
theorem dX3_countPlaces_27 : decode cX3_countPlaces 27 = .ok (.aload_n 0, 1) := by decide +kernel
theorem dX3_countPlaces_28 : decode cX3_countPlaces 28 = .ok (.getfield 12, 3) := by decide +kernel
theorem dX3_countPlaces_31 : decode cX3_countPlaces 31 = .ok (.getfield 115, 3) := by decide +kernel
theorem dX3_countPlaces_34 : decode cX3_countPlaces 34 = .ok (.iload_n 3, 1) := by decide +kernel
theorem dX3_countPlaces_35 : decode cX3_countPlaces 35 = .ok (.iaload, 1) := by decide +kernel
theorem dX3_countPlaces_36 : decode cX3_countPlaces 36 = .ok (.ifCond .ne 21, 3) := by decide +kernel
theorem dX3_countPlaces_39 : decode cX3_countPlaces 39 = .ok (.aload_n 0, 1) := by decide +kernel
theorem dX3_countPlaces_40 : decode cX3_countPlaces 40 = .ok (.getfield 32, 3) := by decide +kernel
theorem dX3_countPlaces_43 : decode cX3_countPlaces 43 = .ok (.aload_n 0, 1) := by decide +kernel
theorem dX3_countPlaces_44 : decode cX3_countPlaces 44 = .ok (.getfield 12, 3) := by decide +kernel
theorem dX3_countPlaces_47 : decode cX3_countPlaces 47 = .ok (.getfield 118, 3) := by decide +kernel
theorem dX3_countPlaces_50 : decode cX3_countPlaces 50 = .ok (.iload_n 3, 1) := by decide +kernel
theorem dX3_countPlaces_51 : decode cX3_countPlaces 51 = .ok (.iaload, 1) := by decide +kernel
theorem dX3_countPlaces_52 : decode cX3_countPlaces 52 = .ok (.dup2, 1) := by decide +kernel
theorem dX3_countPlaces_53 : decode cX3_countPlaces 53 = .ok (.iaload, 1) := by decide +kernel
theorem dX3_countPlaces_54 : decode cX3_countPlaces 54 = .ok (.iconst 1, 1) := by decide +kernel
theorem dX3_countPlaces_55 : decode cX3_countPlaces 55 = .ok (.iadd, 1) := by decide +kernel
theorem dX3_countPlaces_56 : decode cX3_countPlaces 56 = .ok (.iastore, 1) := by decide +kernel
theorem dX3_countPlaces_57 : decode cX3_countPlaces 57 = .ok (.iinc 2 1, 3) := by decide +kernel
theorem dX3_countPlaces_60 : decode cX3_countPlaces 60 = .ok (.goto (-50), 3) := by decide +kernel
theorem dX3_countPlaces_63 : decode cX3_countPlaces 63 = .ok (.iconst 1, 1) := by decide +kernel
theorem dX3_countPlaces_64 : decode cX3_countPlaces 64 = .ok (.istore_n 2, 1) := by decide +kernel
theorem dX3_countPlaces_65 : decode cX3_countPlaces 65 = .ok (.iload_n 2, 1) := by decide +kernel
theorem dX3_countPlaces_66 : decode cX3_countPlaces 66 = .ok (.bipush 99, 2) := by decide +kernel
theorem dX3_countPlaces_68 : decode cX3_countPlaces 68 = .ok (.if_icmp .gt 32, 3) := by decide +kernel
theorem dX3_countPlaces_71 : decode cX3_countPlaces 71 = .ok (.aload_n 0, 1) := by decide +kernel
theorem dX3_countPlaces_72 : decode cX3_countPlaces 72 = .ok (.getfield 35, 3) := by decide +kernel
theorem dX3_countPlaces_75 : decode cX3_countPlaces 75 = .ok (.iload_n 2, 1) := by decide +kernel
theorem dX3_countPlaces_76 : decode cX3_countPlaces 76 = .ok (.aload_n 0, 1) := by decide +kernel
theorem dX3_countPlaces_77 : decode cX3_countPlaces 77 = .ok (.getfield 35, 3) := by decide +kernel
theorem dX3_countPlaces_80 : decode cX3_countPlaces 80 = .ok (.iload_n 2, 1) := by decide +kernel
theorem dX3_countPlaces_81 : decode cX3_countPlaces 81 = .ok (.iconst 1, 1) := by decide +kernel
theorem dX3_countPlaces_82 : decode cX3_countPlaces 82 = .ok (.isub, 1) := by decide +kernel
theorem dX3_countPlaces_83 : decode cX3_countPlaces 83 = .ok (.iaload, 1) := by decide +kernel
theorem dX3_countPlaces_84 : decode cX3_countPlaces 84 = .ok (.aload_n 0, 1) := by decide +kernel
theorem dX3_countPlaces_85 : decode cX3_countPlaces 85 = .ok (.getfield 32, 3) := by decide +kernel
theorem dX3_countPlaces_88 : decode cX3_countPlaces 88 = .ok (.iload_n 2, 1) := by decide +kernel
theorem dX3_countPlaces_89 : decode cX3_countPlaces 89 = .ok (.iconst 1, 1) := by decide +kernel
theorem dX3_countPlaces_90 : decode cX3_countPlaces 90 = .ok (.isub, 1) := by decide +kernel
theorem dX3_countPlaces_91 : decode cX3_countPlaces 91 = .ok (.iaload, 1) := by decide +kernel
theorem dX3_countPlaces_92 : decode cX3_countPlaces 92 = .ok (.iadd, 1) := by decide +kernel
theorem dX3_countPlaces_93 : decode cX3_countPlaces 93 = .ok (.iastore, 1) := by decide +kernel
theorem dX3_countPlaces_94 : decode cX3_countPlaces 94 = .ok (.iinc 2 1, 3) := by decide +kernel
theorem dX3_countPlaces_97 : decode cX3_countPlaces 97 = .ok (.goto (-32), 3) := by decide +kernel
theorem dX3_countPlaces_100 : decode cX3_countPlaces 100 = .ok (.return_, 1) := by decide +kernel
theorem dX3_pointsWithoutOthers_0 : decode cX3_pointsWithoutOthers 0 = .ok (.aload_n 0, 1) := by decide +kernel
theorem dX3_pointsWithoutOthers_1 : decode cX3_pointsWithoutOthers 1 = .ok (.getfield 12, 3) := by decide +kernel
theorem dX3_pointsWithoutOthers_4 : decode cX3_pointsWithoutOthers 4 = .ok (.getfield 115, 3) := by decide +kernel
theorem dX3_pointsWithoutOthers_7 : decode cX3_pointsWithoutOthers 7 = .ok (.iload_n 2, 1) := by decide +kernel
theorem dX3_pointsWithoutOthers_8 : decode cX3_pointsWithoutOthers 8 = .ok (.iaload, 1) := by decide +kernel
theorem dX3_pointsWithoutOthers_9 : decode cX3_pointsWithoutOthers 9 = .ok (.lookupswitch 61 #[(0, 27), (8, 51)], 27) := by decide +kernel
theorem dX3_pointsWithoutOthers_36 : decode cX3_pointsWithoutOthers 36 = .ok (.aload_n 0, 1) := by decide +kernel
theorem dX3_pointsWithoutOthers_37 : decode cX3_pointsWithoutOthers 37 = .ok (.iload_n 1, 1) := by decide +kernel
theorem dX3_pointsWithoutOthers_38 : decode cX3_pointsWithoutOthers 38 = .ok (.aload_n 0, 1) := by decide +kernel
theorem dX3_pointsWithoutOthers_39 : decode cX3_pointsWithoutOthers 39 = .ok (.getfield 12, 3) := by decide +kernel
theorem dX3_pointsWithoutOthers_42 : decode cX3_pointsWithoutOthers 42 = .ok (.getfield 118, 3) := by decide +kernel
theorem dX3_pointsWithoutOthers_45 : decode cX3_pointsWithoutOthers 45 = .ok (.iload_n 2, 1) := by decide +kernel
theorem dX3_pointsWithoutOthers_46 : decode cX3_pointsWithoutOthers 46 = .ok (.iaload, 1) := by decide +kernel
theorem dX3_pointsWithoutOthers_47 : decode cX3_pointsWithoutOthers 47 = .ok (.aload_n 0, 1) := by decide +kernel
theorem dX3_pointsWithoutOthers_48 : decode cX3_pointsWithoutOthers 48 = .ok (.getfield 12, 3) := by decide +kernel
theorem dX3_pointsWithoutOthers_51 : decode cX3_pointsWithoutOthers 51 = .ok (.getfield 121, 3) := by decide +kernel
theorem dX3_pointsWithoutOthers_54 : decode cX3_pointsWithoutOthers 54 = .ok (.iload_n 2, 1) := by decide +kernel
theorem dX3_pointsWithoutOthers_55 : decode cX3_pointsWithoutOthers 55 = .ok (.iaload, 1) := by decide +kernel
theorem dX3_pointsWithoutOthers_56 : decode cX3_pointsWithoutOthers 56 = .ok (.invokevirtual 124, 3) := by decide +kernel
theorem dX3_pointsWithoutOthers_59 : decode cX3_pointsWithoutOthers 59 = .ok (.ireturn, 1) := by decide +kernel
theorem dX3_pointsWithoutOthers_60 : decode cX3_pointsWithoutOthers 60 = .ok (.aload_n 0, 1) := by decide +kernel
theorem dX3_pointsWithoutOthers_61 : decode cX3_pointsWithoutOthers 61 = .ok (.getfield 12, 3) := by decide +kernel
theorem dX3_pointsWithoutOthers_64 : decode cX3_pointsWithoutOthers 64 = .ok (.getfield 118, 3) := by decide +kernel
theorem dX3_pointsWithoutOthers_67 : decode cX3_pointsWithoutOthers 67 = .ok (.iload_n 2, 1) := by decide +kernel
theorem dX3_pointsWithoutOthers_68 : decode cX3_pointsWithoutOthers 68 = .ok (.iaload, 1) := by decide +kernel
theorem dX3_pointsWithoutOthers_69 : decode cX3_pointsWithoutOthers 69 = .ok (.ireturn, 1) := by decide +kernel
theorem dX3_pointsWithoutOthers_70 : decode cX3_pointsWithoutOthers 70 = .ok (.aload_n 0, 1) := by decide +kernel
theorem dX3_pointsWithoutOthers_71 : decode cX3_pointsWithoutOthers 71 = .ok (.iload_n 1, 1) := by decide +kernel
theorem dX3_pointsWithoutOthers_72 : decode cX3_pointsWithoutOthers 72 = .ok (.invokevirtual 128, 3) := by decide +kernel
theorem dX3_pointsWithoutOthers_75 : decode cX3_pointsWithoutOthers 75 = .ok (.ireturn, 1) := by decide +kernel
theorem dX3_pointsOfPlace_0 : decode cX3_pointsOfPlace 0 = .ok (.bipush 10, 2) := by decide +kernel
theorem dX3_pointsOfPlace_2 : decode cX3_pointsOfPlace 2 = .ok (.iconst 1, 1) := by decide +kernel
theorem dX3_pointsOfPlace_3 : decode cX3_pointsOfPlace 3 = .ok (.aload_n 0, 1) := by decide +kernel
theorem dX3_pointsOfPlace_4 : decode cX3_pointsOfPlace 4 = .ok (.getfield 35, 3) := by decide +kernel
theorem dX3_pointsOfPlace_7 : decode cX3_pointsOfPlace 7 = .ok (.iload_n 2, 1) := by decide +kernel
theorem dX3_pointsOfPlace_8 : decode cX3_pointsOfPlace 8 = .ok (.iaload, 1) := by decide +kernel
theorem dX3_pointsOfPlace_9 : decode cX3_pointsOfPlace 9 = .ok (.iadd, 1) := by decide +kernel
theorem dX3_pointsOfPlace_10 : decode cX3_pointsOfPlace 10 = .ok (.imul, 1) := by decide +kernel
theorem dX3_pointsOfPlace_11 : decode cX3_pointsOfPlace 11 = .ok (.iconst 5, 1) := by decide +kernel
theorem dX3_pointsOfPlace_12 : decode cX3_pointsOfPlace 12 = .ok (.aload_n 0, 1) := by decide +kernel
theorem dX3_pointsOfPlace_13 : decode cX3_pointsOfPlace 13 = .ok (.getfield 32, 3) := by decide +kernel
theorem dX3_pointsOfPlace_16 : decode cX3_pointsOfPlace 16 = .ok (.iload_n 2, 1) := by decide +kernel
theorem dX3_pointsOfPlace_17 : decode cX3_pointsOfPlace 17 = .ok (.iaload, 1) := by decide +kernel
theorem dX3_pointsOfPlace_18 : decode cX3_pointsOfPlace 18 = .ok (.iconst 1, 1) := by decide +kernel
theorem dX3_pointsOfPlace_19 : decode cX3_pointsOfPlace 19 = .ok (.isub, 1) := by decide +kernel
theorem dX3_pointsOfPlace_20 : decode cX3_pointsOfPlace 20 = .ok (.imul, 1) := by decide +kernel
theorem dX3_pointsOfPlace_21 : decode cX3_pointsOfPlace 21 = .ok (.iadd, 1) := by decide +kernel
theorem dX3_pointsOfPlace_22 : decode cX3_pointsOfPlace 22 = .ok (.istore 4, 2) := by decide +kernel
theorem dX3_pointsOfPlace_24 : decode cX3_pointsOfPlace 24 = .ok (.aload_n 0, 1) := by decide +kernel
theorem dX3_pointsOfPlace_25 : decode cX3_pointsOfPlace 25 = .ok (.getfield 29, 3) := by decide +kernel
theorem dX3_pointsOfPlace_28 : decode cX3_pointsOfPlace 28 = .ok (.iload_n 1, 1) := by decide +kernel
theorem dX3_pointsOfPlace_29 : decode cX3_pointsOfPlace 29 = .ok (.iaload, 1) := by decide +kernel
theorem dX3_pointsOfPlace_30 : decode cX3_pointsOfPlace 30 = .ok (.iload_n 3, 1) := by decide +kernel
theorem dX3_pointsOfPlace_31 : decode cX3_pointsOfPlace 31 = .ok (.imul, 1) := by decide +kernel
theorem dX3_pointsOfPlace_32 : decode cX3_pointsOfPlace 32 = .ok (.iconst 5, 1) := by decide +kernel
theorem dX3_pointsOfPlace_33 : decode cX3_pointsOfPlace 33 = .ok (.iadd, 1) := by decide +kernel
theorem dX3_pointsOfPlace_34 : decode cX3_pointsOfPlace 34 = .ok (.bipush 10, 2) := by decide +kernel
theorem dX3_pointsOfPlace_36 : decode cX3_pointsOfPlace 36 = .ok (.idiv, 1) := by decide +kernel
theorem dX3_pointsOfPlace_37 : decode cX3_pointsOfPlace 37 = .ok (.istore 5, 2) := by decide +kernel
theorem dX3_pointsOfPlace_39 : decode cX3_pointsOfPlace 39 = .ok (.iload 4, 2) := by decide +kernel
theorem dX3_pointsOfPlace_41 : decode cX3_pointsOfPlace 41 = .ok (.iload 5, 2) := by decide +kernel
theorem dX3_pointsOfPlace_43 : decode cX3_pointsOfPlace 43 = .ok (.iadd, 1) := by decide +kernel
theorem dX3_pointsOfPlace_44 : decode cX3_pointsOfPlace 44 = .ok (.aload_n 0, 1) := by decide +kernel
theorem dX3_pointsOfPlace_45 : decode cX3_pointsOfPlace 45 = .ok (.iload_n 1, 1) := by decide +kernel
theorem dX3_pointsOfPlace_46 : decode cX3_pointsOfPlace 46 = .ok (.invokevirtual 128, 3) := by decide +kernel
theorem dX3_pointsOfPlace_49 : decode cX3_pointsOfPlace 49 = .ok (.invokestatic 131, 3) := by decide +kernel
theorem dX3_pointsOfPlace_52 : decode cX3_pointsOfPlace 52 = .ok (.ireturn, 1) := by decide +kernel
theorem dX3_pointsOfLast_0 : decode cX3_pointsOfLast 0 = .ok (.bipush 10, 2) := by decide +kernel
theorem dX3_pointsOfLast_2 : decode cX3_pointsOfLast 2 = .ok (.aload_n 0, 1) := by decide +kernel
theorem dX3_pointsOfLast_3 : decode cX3_pointsOfLast 3 = .ok (.getfield 29, 3) := by decide +kernel
theorem dX3_pointsOfLast_6 : decode cX3_pointsOfLast 6 = .ok (.iload_n 1, 1) := by decide +kernel
theorem dX3_pointsOfLast_7 : decode cX3_pointsOfLast 7 = .ok (.iaload, 1) := by decide +kernel
theorem dX3_pointsOfLast_8 : decode cX3_pointsOfLast 8 = .ok (.imul, 1) := by decide +kernel
theorem dX3_pointsOfLast_9 : decode cX3_pointsOfLast 9 = .ok (.bipush 10, 2) := by decide +kernel
theorem dX3_pointsOfLast_11 : decode cX3_pointsOfLast 11 = .ok (.iadd, 1) := by decide +kernel
theorem dX3_pointsOfLast_12 : decode cX3_pointsOfLast 12 = .ok (.ireturn, 1) := by decide +kernel
theorem dX3_scoreAverages_0 : decode cX3_scoreAverages 0 = .ok (.iconst 0, 1) := by decide +kernel
theorem dX3_scoreAverages_1 : decode cX3_scoreAverages 1 = .ok (.istore_n 2, 1) := by decide +kernel
theorem dX3_scoreAverages_2 : decode cX3_scoreAverages 2 = .ok (.iload_n 2, 1) := by decide +kernel
theorem dX3_scoreAverages_3 : decode cX3_scoreAverages 3 = .ok (.aload_n 0, 1) := by decide +kernel
theorem dX3_scoreAverages_4 : decode cX3_scoreAverages 4 = .ok (.getfield 38, 3) := by decide +kernel
theorem dX3_scoreAverages_7 : decode cX3_scoreAverages 7 = .ok (.getfield 102, 3) := by decide +kernel
theorem dX3_scoreAverages_10 : decode cX3_scoreAverages 10 = .ok (.if_icmp .ge 96, 3) := by decide +kernel
theorem dX3_scoreAverages_13 : decode cX3_scoreAverages 13 = .ok (.iload_n 1, 1) := by decide +kernel
theorem dX3_scoreAverages_14 : decode cX3_scoreAverages 14 = .ok (.iload_n 2, 1) := by decide +kernel
theorem dX3_scoreAverages_15 : decode cX3_scoreAverages 15 = .ok (.invokestatic 95, 3) := by decide +kernel
theorem dX3_scoreAverages_18 : decode cX3_scoreAverages 18 = .ok (.istore_n 3, 1) := by decide +kernel
theorem dX3_scoreAverages_19 : decode cX3_scoreAverages 19 = .ok (.aload_n 0, 1) := by decide +kernel
theorem dX3_scoreAverages_20 : decode cX3_scoreAverages 20 = .ok (.getfield 18, 3) := by decide +kernel
theorem dX3_scoreAverages_23 : decode cX3_scoreAverages 23 = .ok (.iload_n 3, 1) := by decide +kernel
theorem dX3_scoreAverages_24 : decode cX3_scoreAverages 24 = .ok (.baload, 1) := by decide +kernel
theorem dX3_scoreAverages_25 : decode cX3_scoreAverages 25 = .ok (.ifCond .eq 39, 3) := by decide +kernel
theorem dX3_scoreAverages_28 : decode cX3_scoreAverages 28 = .ok (.aload_n 0, 1) := by decide +kernel
theorem dX3_scoreAverages_29 : decode cX3_scoreAverages 29 = .ok (.getfield 12, 3) := by decide +kernel
theorem dX3_scoreAverages_32 : decode cX3_scoreAverages 32 = .ok (.getfield 115, 3) := by decide +kernel
theorem dX3_scoreAverages_35 : decode cX3_scoreAverages 35 = .ok (.iload_n 3, 1) := by decide +kernel
theorem dX3_scoreAverages_36 : decode cX3_scoreAverages 36 = .ok (.iaload, 1) := by decide +kernel
theorem dX3_scoreAverages_37 : decode cX3_scoreAverages 37 = .ok (.bipush 6, 2) := by decide +kernel
theorem dX3_scoreAverages_39 : decode cX3_scoreAverages 39 = .ok (.if_icmp .ne 25, 3) := by decide +kernel
theorem dX3_scoreAverages_42 : decode cX3_scoreAverages 42 = .ok (.aload_n 0, 1) := by decide +kernel
theorem dX3_scoreAverages_43 : decode cX3_scoreAverages 43 = .ok (.getfield 22, 3) := by decide +kernel
theorem dX3_scoreAverages_46 : decode cX3_scoreAverages 46 = .ok (.iload_n 3, 1) := by decide +kernel
theorem dX3_scoreAverages_47 : decode cX3_scoreAverages 47 = .ok (.aload_n 0, 1) := by decide +kernel
theorem dX3_scoreAverages_48 : decode cX3_scoreAverages 48 = .ok (.aload_n 0, 1) := by decide +kernel
theorem dX3_scoreAverages_49 : decode cX3_scoreAverages 49 = .ok (.getfield 42, 3) := by decide +kernel
theorem dX3_scoreAverages_52 : decode cX3_scoreAverages 52 = .ok (.getfield 62, 3) := by decide +kernel
theorem dX3_scoreAverages_55 : decode cX3_scoreAverages 55 = .ok (.iload_n 1, 1) := by decide +kernel
theorem dX3_scoreAverages_56 : decode cX3_scoreAverages 56 = .ok (.iload_n 2, 1) := by decide +kernel
theorem dX3_scoreAverages_57 : decode cX3_scoreAverages 57 = .ok (.invokevirtual 136, 3) := by decide +kernel
theorem dX3_scoreAverages_60 : decode cX3_scoreAverages 60 = .ok (.iastore, 1) := by decide +kernel
theorem dX3_scoreAverages_61 : decode cX3_scoreAverages 61 = .ok (.goto 39, 3) := by decide +kernel
theorem dX3_scoreAverages_64 : decode cX3_scoreAverages 64 = .ok (.aload_n 0, 1) := by decide +kernel
theorem dX3_scoreAverages_65 : decode cX3_scoreAverages 65 = .ok (.getfield 18, 3) := by decide +kernel
theorem dX3_scoreAverages_68 : decode cX3_scoreAverages 68 = .ok (.iload_n 3, 1) := by decide +kernel
theorem dX3_scoreAverages_69 : decode cX3_scoreAverages 69 = .ok (.baload, 1) := by decide +kernel
theorem dX3_scoreAverages_70 : decode cX3_scoreAverages 70 = .ok (.ifCond .eq 30, 3) := by decide +kernel
theorem dX3_scoreAverages_73 : decode cX3_scoreAverages 73 = .ok (.aload_n 0, 1) := by decide +kernel
theorem dX3_scoreAverages_74 : decode cX3_scoreAverages 74 = .ok (.getfield 12, 3) := by decide +kernel
theorem dX3_scoreAverages_77 : decode cX3_scoreAverages 77 = .ok (.getfield 115, 3) := by decide +kernel
theorem dX3_scoreAverages_80 : decode cX3_scoreAverages 80 = .ok (.iload_n 3, 1) := by decide +kernel
theorem dX3_scoreAverages_81 : decode cX3_scoreAverages 81 = .ok (.iaload, 1) := by decide +kernel
theorem dX3_scoreAverages_82 : decode cX3_scoreAverages 82 = .ok (.bipush 7, 2) := by decide +kernel
theorem dX3_scoreAverages_84 : decode cX3_scoreAverages 84 = .ok (.if_icmp .ne 16, 3) := by decide +kernel
theorem dX3_scoreAverages_87 : decode cX3_scoreAverages 87 = .ok (.aload_n 0, 1) := by decide +kernel
theorem dX3_scoreAverages_88 : decode cX3_scoreAverages 88 = .ok (.getfield 22, 3) := by decide +kernel
theorem dX3_scoreAverages_91 : decode cX3_scoreAverages 91 = .ok (.iload_n 3, 1) := by decide +kernel
theorem dX3_scoreAverages_92 : decode cX3_scoreAverages 92 = .ok (.aload_n 0, 1) := by decide +kernel
theorem dX3_scoreAverages_93 : decode cX3_scoreAverages 93 = .ok (.iload_n 1, 1) := by decide +kernel
theorem dX3_scoreAverages_94 : decode cX3_scoreAverages 94 = .ok (.iload_n 1, 1) := by decide +kernel
theorem dX3_scoreAverages_95 : decode cX3_scoreAverages 95 = .ok (.iload_n 2, 1) := by decide +kernel
theorem dX3_scoreAverages_96 : decode cX3_scoreAverages 96 = .ok (.invokevirtual 136, 3) := by decide +kernel
theorem dX3_scoreAverages_99 : decode cX3_scoreAverages 99 = .ok (.iastore, 1) := by decide +kernel
theorem dX3_scoreAverages_100 : decode cX3_scoreAverages 100 = .ok (.iinc 2 1, 3) := by decide +kernel
theorem dX3_scoreAverages_103 : decode cX3_scoreAverages 103 = .ok (.goto (-101), 3) := by decide +kernel
theorem dX3_scoreAverages_106 : decode cX3_scoreAverages 106 = .ok (.return_, 1) := by decide +kernel
theorem dX3_averageBelow_0 : decode cX3_averageBelow 0 = .ok (.iconst 0, 1) := by decide +kernel
theorem dX3_averageBelow_1 : decode cX3_averageBelow 1 = .ok (.istore 4, 2) := by decide +kernel
theorem dX3_averageBelow_3 : decode cX3_averageBelow 3 = .ok (.iconst 0, 1) := by decide +kernel
theorem dX3_averageBelow_4 : decode cX3_averageBelow 4 = .ok (.istore 5, 2) := by decide +kernel
theorem dX3_averageBelow_6 : decode cX3_averageBelow 6 = .ok (.iconst 0, 1) := by decide +kernel
theorem dX3_averageBelow_7 : decode cX3_averageBelow 7 = .ok (.istore 6, 2) := by decide +kernel
theorem dX3_averageBelow_9 : decode cX3_averageBelow 9 = .ok (.iload 6, 2) := by decide +kernel
theorem dX3_averageBelow_11 : decode cX3_averageBelow 11 = .ok (.iload_n 1, 1) := by decide +kernel
theorem dX3_averageBelow_12 : decode cX3_averageBelow 12 = .ok (.if_icmp .ge 54, 3) := by decide +kernel
theorem dX3_averageBelow_15 : decode cX3_averageBelow 15 = .ok (.iload 6, 2) := by decide +kernel
theorem dX3_averageBelow_17 : decode cX3_averageBelow 17 = .ok (.iload_n 3, 1) := by decide +kernel
theorem dX3_averageBelow_18 : decode cX3_averageBelow 18 = .ok (.invokestatic 95, 3) := by decide +kernel
theorem dX3_averageBelow_21 : decode cX3_averageBelow 21 = .ok (.istore 7, 2) := by decide +kernel
theorem dX3_averageBelow_23 : decode cX3_averageBelow 23 = .ok (.aload_n 0, 1) := by decide +kernel
theorem dX3_averageBelow_24 : decode cX3_averageBelow 24 = .ok (.getfield 18, 3) := by decide +kernel
theorem dX3_averageBelow_27 : decode cX3_averageBelow 27 = .ok (.iload 7, 2) := by decide +kernel
theorem dX3_averageBelow_29 : decode cX3_averageBelow 29 = .ok (.baload, 1) := by decide +kernel
theorem dX3_averageBelow_30 : decode cX3_averageBelow 30 = .ok (.ifCond .eq 30, 3) := by decide +kernel
theorem dX3_averageBelow_33 : decode cX3_averageBelow 33 = .ok (.aload_n 0, 1) := by decide +kernel
theorem dX3_averageBelow_34 : decode cX3_averageBelow 34 = .ok (.getfield 12, 3) := by decide +kernel
theorem dX3_averageBelow_37 : decode cX3_averageBelow 37 = .ok (.iload 7, 2) := by decide +kernel
theorem dX3_averageBelow_39 : decode cX3_averageBelow 39 = .ok (.invokevirtual 139, 3) := by decide +kernel
theorem dX3_averageBelow_42 : decode cX3_averageBelow 42 = .ok (.ifCond .ne 18, 3) := by decide +kernel
theorem dX3_averageBelow_45 : decode cX3_averageBelow 45 = .ok (.iload 4, 2) := by decide +kernel
theorem dX3_averageBelow_47 : decode cX3_averageBelow 47 = .ok (.aload_n 0, 1) := by decide +kernel
theorem dX3_averageBelow_48 : decode cX3_averageBelow 48 = .ok (.getfield 22, 3) := by decide +kernel
theorem dX3_averageBelow_51 : decode cX3_averageBelow 51 = .ok (.iload 7, 2) := by decide +kernel
theorem dX3_averageBelow_53 : decode cX3_averageBelow 53 = .ok (.iaload, 1) := by decide +kernel
theorem dX3_averageBelow_54 : decode cX3_averageBelow 54 = .ok (.iadd, 1) := by decide +kernel
theorem dX3_averageBelow_55 : decode cX3_averageBelow 55 = .ok (.istore 4, 2) := by decide +kernel
theorem dX3_averageBelow_57 : decode cX3_averageBelow 57 = .ok (.iinc 5 1, 3) := by decide +kernel
theorem dX3_averageBelow_60 : decode cX3_averageBelow 60 = .ok (.iinc 6 1, 3) := by decide +kernel
theorem dX3_averageBelow_63 : decode cX3_averageBelow 63 = .ok (.goto (-54), 3) := by decide +kernel
theorem dX3_averageBelow_66 : decode cX3_averageBelow 66 = .ok (.iload 5, 2) := by decide +kernel
theorem dX3_averageBelow_68 : decode cX3_averageBelow 68 = .ok (.ifCond .ne 14, 3) := by decide +kernel
theorem dX3_averageBelow_71 : decode cX3_averageBelow 71 = .ok (.iconst 5, 1) := by decide +kernel
theorem dX3_averageBelow_72 : decode cX3_averageBelow 72 = .ok (.aload_n 0, 1) := by decide +kernel
theorem dX3_averageBelow_73 : decode cX3_averageBelow 73 = .ok (.getfield 29, 3) := by decide +kernel
theorem dX3_averageBelow_76 : decode cX3_averageBelow 76 = .ok (.iload_n 2, 1) := by decide +kernel
theorem dX3_averageBelow_77 : decode cX3_averageBelow 77 = .ok (.iaload, 1) := by decide +kernel
theorem dX3_averageBelow_78 : decode cX3_averageBelow 78 = .ok (.imul, 1) := by decide +kernel
theorem dX3_averageBelow_79 : decode cX3_averageBelow 79 = .ok (.goto 15, 3) := by decide +kernel
theorem dX3_averageBelow_82 : decode cX3_averageBelow 82 = .ok (.iconst 2, 1) := by decide +kernel
theorem dX3_averageBelow_83 : decode cX3_averageBelow 83 = .ok (.iload 4, 2) := by decide +kernel
theorem dX3_averageBelow_85 : decode cX3_averageBelow 85 = .ok (.imul, 1) := by decide +kernel
theorem dX3_averageBelow_86 : decode cX3_averageBelow 86 = .ok (.iload 5, 2) := by decide +kernel
theorem dX3_averageBelow_88 : decode cX3_averageBelow 88 = .ok (.iadd, 1) := by decide +kernel
theorem dX3_averageBelow_89 : decode cX3_averageBelow 89 = .ok (.iconst 2, 1) := by decide +kernel
theorem dX3_averageBelow_90 : decode cX3_averageBelow 90 = .ok (.iload 5, 2) := by decide +kernel
theorem dX3_averageBelow_92 : decode cX3_averageBelow 92 = .ok (.imul, 1) := by decide +kernel
theorem dX3_averageBelow_93 : decode cX3_averageBelow 93 = .ok (.idiv, 1) := by decide +kernel
theorem dX3_averageBelow_94 : decode cX3_averageBelow 94 = .ok (.ireturn, 1) := by decide +kernel
theorem dX4_init_0 : decode cX4_init 0 = .ok (.aload_n 0, 1) := by decide +kernel
theorem dX4_init_1 : decode cX4_init 1 = .ok (.invokespecial 3, 3) := by decide +kernel
theorem dX4_init_4 : decode cX4_init 4 = .ok (.aload_n 0, 1) := by decide +kernel
theorem dX4_init_5 : decode cX4_init 5 = .ok (.bipush 16, 2) := by decide +kernel
theorem dX4_init_7 : decode cX4_init 7 = .ok (.newarray .int, 2) := by decide +kernel
theorem dX4_init_9 : decode cX4_init 9 = .ok (.putfield 9, 3) := by decide +kernel
theorem dX4_init_12 : decode cX4_init 12 = .ok (.aload_n 0, 1) := by decide +kernel
theorem dX4_init_13 : decode cX4_init 13 = .ok (.bipush 16, 2) := by decide +kernel
theorem dX4_init_15 : decode cX4_init 15 = .ok (.newarray .int, 2) := by decide +kernel
theorem dX4_init_17 : decode cX4_init 17 = .ok (.putfield 15, 3) := by decide +kernel
theorem dX4_init_20 : decode cX4_init 20 = .ok (.aload_n 0, 1) := by decide +kernel
theorem dX4_init_21 : decode cX4_init 21 = .ok (.bipush 16, 2) := by decide +kernel
theorem dX4_init_23 : decode cX4_init 23 = .ok (.newarray .boolean, 2) := by decide +kernel
theorem dX4_init_25 : decode cX4_init 25 = .ok (.putfield 18, 3) := by decide +kernel
theorem dX4_init_28 : decode cX4_init 28 = .ok (.return_, 1) := by decide +kernel
theorem dX4_addOne_0 : decode cX4_addOne 0 = .ok (.aload_n 0, 1) := by decide +kernel
theorem dX4_addOne_1 : decode cX4_addOne 1 = .ok (.getfield 9, 3) := by decide +kernel
theorem dX4_addOne_4 : decode cX4_addOne 4 = .ok (.aload_n 0, 1) := by decide +kernel
theorem dX4_addOne_5 : decode cX4_addOne 5 = .ok (.getfield 22, 3) := by decide +kernel
theorem dX4_addOne_8 : decode cX4_addOne 8 = .ok (.iload_n 1, 1) := by decide +kernel
theorem dX4_addOne_9 : decode cX4_addOne 9 = .ok (.iastore, 1) := by decide +kernel
theorem dX4_addOne_10 : decode cX4_addOne 10 = .ok (.aload_n 0, 1) := by decide +kernel
theorem dX4_addOne_11 : decode cX4_addOne 11 = .ok (.getfield 15, 3) := by decide +kernel
theorem dX4_addOne_14 : decode cX4_addOne 14 = .ok (.aload_n 0, 1) := by decide +kernel
theorem dX4_addOne_15 : decode cX4_addOne 15 = .ok (.getfield 22, 3) := by decide +kernel
theorem dX4_addOne_18 : decode cX4_addOne 18 = .ok (.iload_n 2, 1) := by decide +kernel
theorem dX4_addOne_19 : decode cX4_addOne 19 = .ok (.iastore, 1) := by decide +kernel
theorem dX4_addOne_20 : decode cX4_addOne 20 = .ok (.aload_n 0, 1) := by decide +kernel
theorem dX4_addOne_21 : decode cX4_addOne 21 = .ok (.dup, 1) := by decide +kernel
theorem dX4_addOne_22 : decode cX4_addOne 22 = .ok (.getfield 22, 3) := by decide +kernel
theorem dX4_addOne_25 : decode cX4_addOne 25 = .ok (.iconst 1, 1) := by decide +kernel
theorem dX4_addOne_26 : decode cX4_addOne 26 = .ok (.iadd, 1) := by decide +kernel
theorem dX4_addOne_27 : decode cX4_addOne 27 = .ok (.putfield 22, 3) := by decide +kernel
theorem dX4_addOne_30 : decode cX4_addOne 30 = .ok (.aload_n 0, 1) := by decide +kernel
theorem dX4_addOne_31 : decode cX4_addOne 31 = .ok (.getfield 22, 3) := by decide +kernel
theorem dX4_addOne_34 : decode cX4_addOne 34 = .ok (.iconst 1, 1) := by decide +kernel
theorem dX4_addOne_35 : decode cX4_addOne 35 = .ok (.isub, 1) := by decide +kernel
theorem dX4_addOne_36 : decode cX4_addOne 36 = .ok (.ireturn, 1) := by decide +kernel
theorem dX5_init_0 : decode cX5_init 0 = .ok (.aload_n 0, 1) := by decide +kernel
theorem dX5_init_1 : decode cX5_init 1 = .ok (.invokespecial 5, 3) := by decide +kernel
theorem dX5_init_4 : decode cX5_init 4 = .ok (.aload_n 0, 1) := by decide +kernel
theorem dX5_init_5 : decode cX5_init 5 = .ok (.sipush 1440, 3) := by decide +kernel
theorem dX5_init_8 : decode cX5_init 8 = .ok (.newarray .int, 2) := by decide +kernel
theorem dX5_init_10 : decode cX5_init 10 = .ok (.putfield 11, 3) := by decide +kernel
theorem dX5_init_13 : decode cX5_init 13 = .ok (.aload_n 0, 1) := by decide +kernel
theorem dX5_init_14 : decode cX5_init 14 = .ok (.bipush 40, 2) := by decide +kernel
theorem dX5_init_16 : decode cX5_init 16 = .ok (.newarray .int, 2) := by decide +kernel
theorem dX5_init_18 : decode cX5_init 18 = .ok (.putfield 15, 3) := by decide +kernel
theorem dX5_init_21 : decode cX5_init 21 = .ok (.aload_n 0, 1) := by decide +kernel
theorem dX5_init_22 : decode cX5_init 22 = .ok (.bipush 40, 2) := by decide +kernel
theorem dX5_init_24 : decode cX5_init 24 = .ok (.newarray .int, 2) := by decide +kernel
theorem dX5_init_26 : decode cX5_init 26 = .ok (.putfield 18, 3) := by decide +kernel
theorem dX5_init_29 : decode cX5_init 29 = .ok (.aload_n 0, 1) := by decide +kernel
theorem dX5_init_30 : decode cX5_init 30 = .ok (.aload_n 1, 1) := by decide +kernel
theorem dX5_init_31 : decode cX5_init 31 = .ok (.putfield 21, 3) := by decide +kernel
theorem dX5_init_34 : decode cX5_init 34 = .ok (.aload_n 0, 1) := by decide +kernel
theorem dX5_init_35 : decode cX5_init 35 = .ok (.aload_n 2, 1) := by decide +kernel
theorem dX5_init_36 : decode cX5_init 36 = .ok (.putfield 25, 3) := by decide +kernel
theorem dX5_init_39 : decode cX5_init 39 = .ok (.aload_n 0, 1) := by decide +kernel
theorem dX5_init_40 : decode cX5_init 40 = .ok (.aload_n 3, 1) := by decide +kernel
theorem dX5_init_41 : decode cX5_init 41 = .ok (.putfield 29, 3) := by decide +kernel
theorem dX5_init_44 : decode cX5_init 44 = .ok (.aload_n 0, 1) := by decide +kernel
theorem dX5_init_45 : decode cX5_init 45 = .ok (.aload 4, 2) := by decide +kernel
theorem dX5_init_47 : decode cX5_init 47 = .ok (.putfield 33, 3) := by decide +kernel
theorem dX5_init_50 : decode cX5_init 50 = .ok (.return_, 1) := by decide +kernel
theorem dX5_calculate_0 : decode cX5_calculate 0 = .ok (.aload_n 0, 1) := by decide +kernel
theorem dX5_calculate_1 : decode cX5_calculate 1 = .ok (.getfield 11, 3) := by decide +kernel
theorem dX5_calculate_4 : decode cX5_calculate 4 = .ok (.ldc 37, 2) := by decide +kernel
theorem dX5_calculate_6 : decode cX5_calculate 6 = .ok (.invokestatic 38, 3) := by decide +kernel
theorem dX5_calculate_9 : decode cX5_calculate 9 = .ok (.iconst 0, 1) := by decide +kernel
theorem dX5_calculate_10 : decode cX5_calculate 10 = .ok (.istore_n 1, 1) := by decide +kernel
theorem dX5_calculate_11 : decode cX5_calculate 11 = .ok (.iload_n 1, 1) := by decide +kernel
theorem dX5_calculate_12 : decode cX5_calculate 12 = .ok (.aload_n 0, 1) := by decide +kernel
theorem dX5_calculate_13 : decode cX5_calculate 13 = .ok (.getfield 21, 3) := by decide +kernel
theorem dX5_calculate_16 : decode cX5_calculate 16 = .ok (.getfield 44, 3) := by decide +kernel
theorem dX5_calculate_19 : decode cX5_calculate 19 = .ok (.if_icmp .ge 19, 3) := by decide +kernel
theorem dX5_calculate_22 : decode cX5_calculate 22 = .ok (.aload_n 0, 1) := by decide +kernel
theorem dX5_calculate_23 : decode cX5_calculate 23 = .ok (.iload_n 1, 1) := by decide +kernel
theorem dX5_calculate_24 : decode cX5_calculate 24 = .ok (.invokevirtual 50, 3) := by decide +kernel
theorem dX5_calculate_27 : decode cX5_calculate 27 = .ok (.aload_n 0, 1) := by decide +kernel
theorem dX5_calculate_28 : decode cX5_calculate 28 = .ok (.iload_n 1, 1) := by decide +kernel
theorem dX5_calculate_29 : decode cX5_calculate 29 = .ok (.invokevirtual 54, 3) := by decide +kernel
theorem dX5_calculate_32 : decode cX5_calculate 32 = .ok (.iinc 1 1, 3) := by decide +kernel
theorem dX5_calculate_35 : decode cX5_calculate 35 = .ok (.goto (-24), 3) := by decide +kernel
theorem dX5_calculate_38 : decode cX5_calculate 38 = .ok (.iconst 0, 1) := by decide +kernel
theorem dX5_calculate_39 : decode cX5_calculate 39 = .ok (.istore_n 1, 1) := by decide +kernel
theorem dX5_calculate_40 : decode cX5_calculate 40 = .ok (.iload_n 1, 1) := by decide +kernel
theorem dX5_calculate_41 : decode cX5_calculate 41 = .ok (.aload_n 0, 1) := by decide +kernel
theorem dX5_calculate_42 : decode cX5_calculate 42 = .ok (.getfield 21, 3) := by decide +kernel
theorem dX5_calculate_45 : decode cX5_calculate 45 = .ok (.getfield 44, 3) := by decide +kernel
theorem dX5_calculate_48 : decode cX5_calculate 48 = .ok (.if_icmp .ge 23, 3) := by decide +kernel
theorem dX5_calculate_51 : decode cX5_calculate 51 = .ok (.aload_n 0, 1) := by decide +kernel
theorem dX5_calculate_52 : decode cX5_calculate 52 = .ok (.getfield 18, 3) := by decide +kernel
theorem dX5_calculate_55 : decode cX5_calculate 55 = .ok (.aload_n 0, 1) := by decide +kernel
theorem dX5_calculate_56 : decode cX5_calculate 56 = .ok (.getfield 15, 3) := by decide +kernel
theorem dX5_calculate_59 : decode cX5_calculate 59 = .ok (.iload_n 1, 1) := by decide +kernel
theorem dX5_calculate_60 : decode cX5_calculate 60 = .ok (.iaload, 1) := by decide +kernel
theorem dX5_calculate_61 : decode cX5_calculate 61 = .ok (.iload_n 1, 1) := by decide +kernel
theorem dX5_calculate_62 : decode cX5_calculate 62 = .ok (.iconst 1, 1) := by decide +kernel
theorem dX5_calculate_63 : decode cX5_calculate 63 = .ok (.iadd, 1) := by decide +kernel
theorem dX5_calculate_64 : decode cX5_calculate 64 = .ok (.iastore, 1) := by decide +kernel
theorem dX5_calculate_65 : decode cX5_calculate 65 = .ok (.iinc 1 1, 3) := by decide +kernel
theorem dX5_calculate_68 : decode cX5_calculate 68 = .ok (.goto (-28), 3) := by decide +kernel
theorem dX5_calculate_71 : decode cX5_calculate 71 = .ok (.return_, 1) := by decide +kernel
theorem dX5_rankOfBoat_0 : decode cX5_rankOfBoat 0 = .ok (.aload_n 0, 1) := by decide +kernel
theorem dX5_rankOfBoat_1 : decode cX5_rankOfBoat 1 = .ok (.getfield 18, 3) := by decide +kernel
theorem dX5_rankOfBoat_4 : decode cX5_rankOfBoat 4 = .ok (.iload_n 1, 1) := by decide +kernel
theorem dX5_rankOfBoat_5 : decode cX5_rankOfBoat 5 = .ok (.iaload, 1) := by decide +kernel
theorem dX5_rankOfBoat_6 : decode cX5_rankOfBoat 6 = .ok (.ireturn, 1) := by decide +kernel
theorem dX5_boatOfRank_0 : decode cX5_boatOfRank 0 = .ok (.aload_n 0, 1) := by decide +kernel
theorem dX5_boatOfRank_1 : decode cX5_boatOfRank 1 = .ok (.getfield 15, 3) := by decide +kernel
theorem dX5_boatOfRank_4 : decode cX5_boatOfRank 4 = .ok (.iload_n 1, 1) := by decide +kernel
theorem dX5_boatOfRank_5 : decode cX5_boatOfRank 5 = .ok (.iconst 1, 1) := by decide +kernel
theorem dX5_boatOfRank_6 : decode cX5_boatOfRank 6 = .ok (.isub, 1) := by decide +kernel
theorem dX5_boatOfRank_7 : decode cX5_boatOfRank 7 = .ok (.iaload, 1) := by decide +kernel
theorem dX5_boatOfRank_8 : decode cX5_boatOfRank 8 = .ok (.ireturn, 1) := by decide +kernel
theorem dX5_partingStep_0 : decode cX5_partingStep 0 = .ok (.aload_n 0, 1) := by decide +kernel
theorem dX5_partingStep_1 : decode cX5_partingStep 1 = .ok (.iload_n 1, 1) := by decide +kernel
theorem dX5_partingStep_2 : decode cX5_partingStep 2 = .ok (.iload_n 2, 1) := by decide +kernel
theorem dX5_partingStep_3 : decode cX5_partingStep 3 = .ok (.invokevirtual 57, 3) := by decide +kernel
theorem dX5_partingStep_6 : decode cX5_partingStep 6 = .ok (.istore_n 3, 1) := by decide +kernel
theorem dX5_partingStep_7 : decode cX5_partingStep 7 = .ok (.iload_n 3, 1) := by decide +kernel
theorem dX5_partingStep_8 : decode cX5_partingStep 8 = .ok (.iconst 2, 1) := by decide +kernel
theorem dX5_partingStep_9 : decode cX5_partingStep 9 = .ok (.if_icmp .ge 5, 3) := by decide +kernel
theorem dX5_partingStep_12 : decode cX5_partingStep 12 = .ok (.iconst 0, 1) := by decide +kernel
theorem dX5_partingStep_13 : decode cX5_partingStep 13 = .ok (.ireturn, 1) := by decide +kernel
theorem dX5_partingStep_14 : decode cX5_partingStep 14 = .ok (.iload_n 3, 1) := by decide +kernel
theorem dX5_partingStep_15 : decode cX5_partingStep 15 = .ok (.bipush 18, 2) := by decide +kernel
theorem dX5_partingStep_17 : decode cX5_partingStep 17 = .ok (.if_icmp .ge 5, 3) := by decide +kernel
theorem dX5_partingStep_20 : decode cX5_partingStep 20 = .ok (.iconst 1, 1) := by decide +kernel
theorem dX5_partingStep_21 : decode cX5_partingStep 21 = .ok (.ireturn, 1) := by decide +kernel
theorem dX5_partingStep_22 : decode cX5_partingStep 22 = .ok (.iload_n 3, 1) := by decide +kernel
theorem dX5_partingStep_23 : decode cX5_partingStep 23 = .ok (.bipush 34, 2) := by decide +kernel
theorem dX5_partingStep_25 : decode cX5_partingStep 25 = .ok (.if_icmp .ge 5, 3) := by decide +kernel
theorem dX5_partingStep_28 : decode cX5_partingStep 28 = .ok (.iconst 2, 1) := by decide +kernel
theorem dX5_partingStep_29 : decode cX5_partingStep 29 = .ok (.ireturn, 1) := by decide +kernel
theorem dX5_partingStep_30 : decode cX5_partingStep 30 = .ok (.iload_n 3, 1) := by decide +kernel
theorem dX5_partingStep_31 : decode cX5_partingStep 31 = .ok (.bipush 34, 2) := by decide +kernel
theorem dX5_partingStep_33 : decode cX5_partingStep 33 = .ok (.if_icmp .ne 7, 3) := by decide +kernel
theorem dX5_partingStep_36 : decode cX5_partingStep 36 = .ok (.iconst 3, 1) := by decide +kernel
theorem dX5_partingStep_37 : decode cX5_partingStep 37 = .ok (.goto 4, 3) := by decide +kernel
theorem dX5_partingStep_40 : decode cX5_partingStep 40 = .ok (.iconst 4, 1) := by decide +kernel
theorem dX5_partingStep_41 : decode cX5_partingStep 41 = .ok (.ireturn, 1) := by decide +kernel
theorem dX5_fillRow_0 : decode cX5_fillRow 0 = .ok (.iload_n 1, 1) := by decide +kernel
theorem dX5_fillRow_1 : decode cX5_fillRow 1 = .ok (.bipush 36, 2) := by decide +kernel
theorem dX5_fillRow_3 : decode cX5_fillRow 3 = .ok (.imul, 1) := by decide +kernel
theorem dX5_fillRow_4 : decode cX5_fillRow 4 = .ok (.istore_n 2, 1) := by decide +kernel
theorem dX5_fillRow_5 : decode cX5_fillRow 5 = .ok (.aload_n 0, 1) := by decide +kernel
theorem dX5_fillRow_6 : decode cX5_fillRow 6 = .ok (.getfield 11, 3) := by decide +kernel
theorem dX5_fillRow_9 : decode cX5_fillRow 9 = .ok (.iload_n 2, 1) := by decide +kernel
theorem dX5_fillRow_10 : decode cX5_fillRow 10 = .ok (.iconst 0, 1) := by decide +kernel
theorem dX5_fillRow_11 : decode cX5_fillRow 11 = .ok (.iadd, 1) := by decide +kernel
theorem dX5_fillRow_12 : decode cX5_fillRow 12 = .ok (.aload_n 0, 1) := by decide +kernel
theorem dX5_fillRow_13 : decode cX5_fillRow 13 = .ok (.getfield 21, 3) := by decide +kernel
theorem dX5_fillRow_16 : decode cX5_fillRow 16 = .ok (.getfield 61, 3) := by decide +kernel
theorem dX5_fillRow_19 : decode cX5_fillRow 19 = .ok (.iload_n 1, 1) := by decide +kernel
theorem dX5_fillRow_20 : decode cX5_fillRow 20 = .ok (.iaload, 1) := by decide +kernel
theorem dX5_fillRow_21 : decode cX5_fillRow 21 = .ok (.iastore, 1) := by decide +kernel
theorem dX5_fillRow_22 : decode cX5_fillRow 22 = .ok (.aload_n 0, 1) := by decide +kernel
theorem dX5_fillRow_23 : decode cX5_fillRow 23 = .ok (.getfield 11, 3) := by decide +kernel
theorem dX5_fillRow_26 : decode cX5_fillRow 26 = .ok (.iload_n 2, 1) := by decide +kernel
theorem dX5_fillRow_27 : decode cX5_fillRow 27 = .ok (.iconst 1, 1) := by decide +kernel
theorem dX5_fillRow_28 : decode cX5_fillRow 28 = .ok (.iadd, 1) := by decide +kernel
theorem dX5_fillRow_29 : decode cX5_fillRow 29 = .ok (.aload_n 0, 1) := by decide +kernel
theorem dX5_fillRow_30 : decode cX5_fillRow 30 = .ok (.getfield 33, 3) := by decide +kernel
theorem dX5_fillRow_33 : decode cX5_fillRow 33 = .ok (.getfield 64, 3) := by decide +kernel
theorem dX5_fillRow_36 : decode cX5_fillRow 36 = .ok (.iload_n 1, 1) := by decide +kernel
theorem dX5_fillRow_37 : decode cX5_fillRow 37 = .ok (.iaload, 1) := by decide +kernel
theorem dX5_fillRow_38 : decode cX5_fillRow 38 = .ok (.iastore, 1) := by decide +kernel
theorem dX5_fillRow_39 : decode cX5_fillRow 39 = .ok (.aload_n 0, 1) := by decide +kernel
theorem dX5_fillRow_40 : decode cX5_fillRow 40 = .ok (.getfield 11, 3) := by decide +kernel
theorem dX5_fillRow_43 : decode cX5_fillRow 43 = .ok (.iload_n 2, 1) := by decide +kernel
theorem dX5_fillRow_44 : decode cX5_fillRow 44 = .ok (.bipush 34, 2) := by decide +kernel
theorem dX5_fillRow_46 : decode cX5_fillRow 46 = .ok (.iadd, 1) := by decide +kernel
theorem dX5_fillRow_47 : decode cX5_fillRow 47 = .ok (.aload_n 0, 1) := by decide +kernel
theorem dX5_fillRow_48 : decode cX5_fillRow 48 = .ok (.getfield 21, 3) := by decide +kernel
theorem dX5_fillRow_51 : decode cX5_fillRow 51 = .ok (.getfield 69, 3) := by decide +kernel
theorem dX5_fillRow_54 : decode cX5_fillRow 54 = .ok (.iload_n 1, 1) := by decide +kernel
theorem dX5_fillRow_55 : decode cX5_fillRow 55 = .ok (.iaload, 1) := by decide +kernel
theorem dX5_fillRow_56 : decode cX5_fillRow 56 = .ok (.ifCond .ne 8, 3) := by decide +kernel
theorem dX5_fillRow_59 : decode cX5_fillRow 59 = .ok (.ldc 37, 2) := by decide +kernel
theorem dX5_fillRow_61 : decode cX5_fillRow 61 = .ok (.goto 12, 3) := by decide +kernel
theorem dX5_fillRow_64 : decode cX5_fillRow 64 = .ok (.aload_n 0, 1) := by decide +kernel
theorem dX5_fillRow_65 : decode cX5_fillRow 65 = .ok (.getfield 21, 3) := by decide +kernel
theorem dX5_fillRow_68 : decode cX5_fillRow 68 = .ok (.getfield 69, 3) := by decide +kernel
theorem dX5_fillRow_71 : decode cX5_fillRow 71 = .ok (.iload_n 1, 1) := by decide +kernel
theorem dX5_fillRow_72 : decode cX5_fillRow 72 = .ok (.iaload, 1) := by decide +kernel
theorem dX5_fillRow_73 : decode cX5_fillRow 73 = .ok (.iastore, 1) := by decide +kernel
theorem dX5_fillRow_74 : decode cX5_fillRow 74 = .ok (.aload_n 0, 1) := by decide +kernel
theorem dX5_fillRow_75 : decode cX5_fillRow 75 = .ok (.getfield 11, 3) := by decide +kernel
theorem dX5_fillRow_78 : decode cX5_fillRow 78 = .ok (.iload_n 2, 1) := by decide +kernel
theorem dX5_fillRow_79 : decode cX5_fillRow 79 = .ok (.bipush 35, 2) := by decide +kernel
theorem dX5_fillRow_81 : decode cX5_fillRow 81 = .ok (.iadd, 1) := by decide +kernel
theorem dX5_fillRow_82 : decode cX5_fillRow 82 = .ok (.iload_n 1, 1) := by decide +kernel
theorem dX5_fillRow_83 : decode cX5_fillRow 83 = .ok (.iastore, 1) := by decide +kernel
theorem dX5_fillRow_84 : decode cX5_fillRow 84 = .ok (.iconst 0, 1) := by decide +kernel
theorem dX5_fillRow_85 : decode cX5_fillRow 85 = .ok (.istore_n 3, 1) := by decide +kernel
theorem dX5_fillRow_86 : decode cX5_fillRow 86 = .ok (.iconst 0, 1) := by decide +kernel
theorem dX5_fillRow_87 : decode cX5_fillRow 87 = .ok (.istore 4, 2) := by decide +kernel
theorem dX5_fillRow_89 : decode cX5_fillRow 89 = .ok (.aload_n 0, 1) := by decide +kernel
theorem dX5_fillRow_90 : decode cX5_fillRow 90 = .ok (.getfield 25, 3) := by decide +kernel
theorem dX5_fillRow_93 : decode cX5_fillRow 93 = .ok (.getfield 72, 3) := by decide +kernel
theorem dX5_fillRow_96 : decode cX5_fillRow 96 = .ok (.iconst 1, 1) := by decide +kernel
theorem dX5_fillRow_97 : decode cX5_fillRow 97 = .ok (.isub, 1) := by decide +kernel
theorem dX5_fillRow_98 : decode cX5_fillRow 98 = .ok (.istore 5, 2) := by decide +kernel
theorem dX5_fillRow_100 : decode cX5_fillRow 100 = .ok (.iload 5, 2) := by decide +kernel
theorem dX5_fillRow_102 : decode cX5_fillRow 102 = .ok (.ifCond .lt 89, 3) := by decide +kernel
theorem dX5_fillRow_105 : decode cX5_fillRow 105 = .ok (.iload 5, 2) := by decide +kernel
theorem dX5_fillRow_107 : decode cX5_fillRow 107 = .ok (.iload_n 1, 1) := by decide +kernel
theorem dX5_fillRow_108 : decode cX5_fillRow 108 = .ok (.invokestatic 75, 3) := by decide +kernel
theorem dX5_fillRow_111 : decode cX5_fillRow 111 = .ok (.istore 6, 2) := by decide +kernel
theorem dX5_fillRow_113 : decode cX5_fillRow 113 = .ok (.aload_n 0, 1) := by decide +kernel
theorem dX5_fillRow_114 : decode cX5_fillRow 114 = .ok (.getfield 29, 3) := by decide +kernel
theorem dX5_fillRow_117 : decode cX5_fillRow 117 = .ok (.getfield 78, 3) := by decide +kernel
theorem dX5_fillRow_120 : decode cX5_fillRow 120 = .ok (.iload 6, 2) := by decide +kernel
theorem dX5_fillRow_122 : decode cX5_fillRow 122 = .ok (.baload, 1) := by decide +kernel
theorem dX5_fillRow_123 : decode cX5_fillRow 123 = .ok (.ifCond .eq 62, 3) := by decide +kernel
theorem dX5_fillRow_126 : decode cX5_fillRow 126 = .ok (.aload_n 0, 1) := by decide +kernel
theorem dX5_fillRow_127 : decode cX5_fillRow 127 = .ok (.getfield 11, 3) := by decide +kernel
theorem dX5_fillRow_130 : decode cX5_fillRow 130 = .ok (.iload_n 2, 1) := by decide +kernel
theorem dX5_fillRow_131 : decode cX5_fillRow 131 = .ok (.bipush 18, 2) := by decide +kernel
theorem dX5_fillRow_133 : decode cX5_fillRow 133 = .ok (.iadd, 1) := by decide +kernel
theorem dX5_fillRow_134 : decode cX5_fillRow 134 = .ok (.iload 4, 2) := by decide +kernel
theorem dX5_fillRow_136 : decode cX5_fillRow 136 = .ok (.iadd, 1) := by decide +kernel
theorem dX5_fillRow_137 : decode cX5_fillRow 137 = .ok (.aload_n 0, 1) := by decide +kernel
theorem dX5_fillRow_138 : decode cX5_fillRow 138 = .ok (.getfield 33, 3) := by decide +kernel
theorem dX5_fillRow_141 : decode cX5_fillRow 141 = .ok (.getfield 84, 3) := by decide +kernel
theorem dX5_fillRow_144 : decode cX5_fillRow 144 = .ok (.iload 6, 2) := by decide +kernel
theorem dX5_fillRow_146 : decode cX5_fillRow 146 = .ok (.iaload, 1) := by decide +kernel
theorem dX5_fillRow_147 : decode cX5_fillRow 147 = .ok (.iastore, 1) := by decide +kernel
theorem dX5_fillRow_148 : decode cX5_fillRow 148 = .ok (.iinc 4 1, 3) := by decide +kernel
theorem dX5_fillRow_151 : decode cX5_fillRow 151 = .ok (.aload_n 0, 1) := by decide +kernel
theorem dX5_fillRow_152 : decode cX5_fillRow 152 = .ok (.getfield 33, 3) := by decide +kernel
theorem dX5_fillRow_155 : decode cX5_fillRow 155 = .ok (.getfield 87, 3) := by decide +kernel
theorem dX5_fillRow_158 : decode cX5_fillRow 158 = .ok (.iload 6, 2) := by decide +kernel
theorem dX5_fillRow_160 : decode cX5_fillRow 160 = .ok (.baload, 1) := by decide +kernel
theorem dX5_fillRow_161 : decode cX5_fillRow 161 = .ok (.ifCond .ne 24, 3) := by decide +kernel
theorem dX5_fillRow_164 : decode cX5_fillRow 164 = .ok (.aload_n 0, 1) := by decide +kernel
theorem dX5_fillRow_165 : decode cX5_fillRow 165 = .ok (.iload_n 2, 1) := by decide +kernel
theorem dX5_fillRow_166 : decode cX5_fillRow 166 = .ok (.iconst 2, 1) := by decide +kernel
theorem dX5_fillRow_167 : decode cX5_fillRow 167 = .ok (.iadd, 1) := by decide +kernel
theorem dX5_fillRow_168 : decode cX5_fillRow 168 = .ok (.iload_n 3, 1) := by decide +kernel
theorem dX5_fillRow_169 : decode cX5_fillRow 169 = .ok (.aload_n 0, 1) := by decide +kernel
theorem dX5_fillRow_170 : decode cX5_fillRow 170 = .ok (.getfield 33, 3) := by decide +kernel
theorem dX5_fillRow_173 : decode cX5_fillRow 173 = .ok (.getfield 84, 3) := by decide +kernel
theorem dX5_fillRow_176 : decode cX5_fillRow 176 = .ok (.iload 6, 2) := by decide +kernel
theorem dX5_fillRow_178 : decode cX5_fillRow 178 = .ok (.iaload, 1) := by decide +kernel
theorem dX5_fillRow_179 : decode cX5_fillRow 179 = .ok (.invokevirtual 90, 3) := by decide +kernel
theorem dX5_fillRow_182 : decode cX5_fillRow 182 = .ok (.iinc 3 1, 3) := by decide +kernel
theorem dX5_fillRow_185 : decode cX5_fillRow 185 = .ok (.iinc 5 (-1), 3) := by decide +kernel
theorem dX5_fillRow_188 : decode cX5_fillRow 188 = .ok (.goto (-88), 3) := by decide +kernel
theorem dX5_fillRow_191 : decode cX5_fillRow 191 = .ok (.return_, 1) := by decide +kernel
theorem dX5_insertKept_0 : decode cX5_insertKept 0 = .ok (.iload_n 1, 1) := by decide +kernel
theorem dX5_insertKept_1 : decode cX5_insertKept 1 = .ok (.iload_n 2, 1) := by decide +kernel
theorem dX5_insertKept_2 : decode cX5_insertKept 2 = .ok (.iadd, 1) := by decide +kernel
theorem dX5_insertKept_3 : decode cX5_insertKept 3 = .ok (.istore 4, 2) := by decide +kernel
theorem dX5_insertKept_5 : decode cX5_insertKept 5 = .ok (.iload 4, 2) := by decide +kernel
theorem dX5_insertKept_7 : decode cX5_insertKept 7 = .ok (.iload_n 1, 1) := by decide +kernel
theorem dX5_insertKept_8 : decode cX5_insertKept 8 = .ok (.if_icmp .le 38, 3) := by decide +kernel
theorem dX5_insertKept_11 : decode cX5_insertKept 11 = .ok (.aload_n 0, 1) := by decide +kernel
theorem dX5_insertKept_12 : decode cX5_insertKept 12 = .ok (.getfield 11, 3) := by decide +kernel
theorem dX5_insertKept_15 : decode cX5_insertKept 15 = .ok (.iload 4, 2) := by decide +kernel
theorem dX5_insertKept_17 : decode cX5_insertKept 17 = .ok (.iconst 1, 1) := by decide +kernel
theorem dX5_insertKept_18 : decode cX5_insertKept 18 = .ok (.isub, 1) := by decide +kernel
theorem dX5_insertKept_19 : decode cX5_insertKept 19 = .ok (.iaload, 1) := by decide +kernel
theorem dX5_insertKept_20 : decode cX5_insertKept 20 = .ok (.iload_n 3, 1) := by decide +kernel
theorem dX5_insertKept_21 : decode cX5_insertKept 21 = .ok (.if_icmp .le 25, 3) := by decide +kernel
theorem dX5_insertKept_24 : decode cX5_insertKept 24 = .ok (.aload_n 0, 1) := by decide +kernel
theorem dX5_insertKept_25 : decode cX5_insertKept 25 = .ok (.getfield 11, 3) := by decide +kernel
theorem dX5_insertKept_28 : decode cX5_insertKept 28 = .ok (.iload 4, 2) := by decide +kernel
theorem dX5_insertKept_30 : decode cX5_insertKept 30 = .ok (.aload_n 0, 1) := by decide +kernel
theorem dX5_insertKept_31 : decode cX5_insertKept 31 = .ok (.getfield 11, 3) := by decide +kernel
theorem dX5_insertKept_34 : decode cX5_insertKept 34 = .ok (.iload 4, 2) := by decide +kernel
theorem dX5_insertKept_36 : decode cX5_insertKept 36 = .ok (.iconst 1, 1) := by decide +kernel
theorem dX5_insertKept_37 : decode cX5_insertKept 37 = .ok (.isub, 1) := by decide +kernel
theorem dX5_insertKept_38 : decode cX5_insertKept 38 = .ok (.iaload, 1) := by decide +kernel
theorem dX5_insertKept_39 : decode cX5_insertKept 39 = .ok (.iastore, 1) := by decide +kernel
theorem dX5_insertKept_40 : decode cX5_insertKept 40 = .ok (.iinc 4 (-1), 3) := by decide +kernel
theorem dX5_insertKept_43 : decode cX5_insertKept 43 = .ok (.goto (-38), 3) := by decide +kernel
theorem dX5_insertKept_46 : decode cX5_insertKept 46 = .ok (.aload_n 0, 1) := by decide +kernel
theorem dX5_insertKept_47 : decode cX5_insertKept 47 = .ok (.getfield 11, 3) := by decide +kernel
theorem dX5_insertKept_50 : decode cX5_insertKept 50 = .ok (.iload 4, 2) := by decide +kernel
theorem dX5_insertKept_52 : decode cX5_insertKept 52 = .ok (.iload_n 3, 1) := by decide +kernel
theorem dX5_insertKept_53 : decode cX5_insertKept 53 = .ok (.iastore, 1) := by decide +kernel
theorem dX5_insertKept_54 : decode cX5_insertKept 54 = .ok (.return_, 1) := by decide +kernel
theorem dX5_insertInOrder_0 : decode cX5_insertInOrder 0 = .ok (.iload_n 1, 1) := by decide +kernel
theorem dX5_insertInOrder_1 : decode cX5_insertInOrder 1 = .ok (.istore_n 2, 1) := by decide +kernel
theorem dX5_insertInOrder_2 : decode cX5_insertInOrder 2 = .ok (.iload_n 2, 1) := by decide +kernel
theorem dX5_insertInOrder_3 : decode cX5_insertInOrder 3 = .ok (.ifCond .le 39, 3) := by decide +kernel
theorem dX5_insertInOrder_6 : decode cX5_insertInOrder 6 = .ok (.aload_n 0, 1) := by decide +kernel
theorem dX5_insertInOrder_7 : decode cX5_insertInOrder 7 = .ok (.iload_n 1, 1) := by decide +kernel
theorem dX5_insertInOrder_8 : decode cX5_insertInOrder 8 = .ok (.aload_n 0, 1) := by decide +kernel
theorem dX5_insertInOrder_9 : decode cX5_insertInOrder 9 = .ok (.getfield 15, 3) := by decide +kernel
theorem dX5_insertInOrder_12 : decode cX5_insertInOrder 12 = .ok (.iload_n 2, 1) := by decide +kernel
theorem dX5_insertInOrder_13 : decode cX5_insertInOrder 13 = .ok (.iconst 1, 1) := by decide +kernel
theorem dX5_insertInOrder_14 : decode cX5_insertInOrder 14 = .ok (.isub, 1) := by decide +kernel
theorem dX5_insertInOrder_15 : decode cX5_insertInOrder 15 = .ok (.iaload, 1) := by decide +kernel
theorem dX5_insertInOrder_16 : decode cX5_insertInOrder 16 = .ok (.invokevirtual 94, 3) := by decide +kernel
theorem dX5_insertInOrder_19 : decode cX5_insertInOrder 19 = .ok (.ifCond .eq 23, 3) := by decide +kernel
theorem dX5_insertInOrder_22 : decode cX5_insertInOrder 22 = .ok (.aload_n 0, 1) := by decide +kernel
theorem dX5_insertInOrder_23 : decode cX5_insertInOrder 23 = .ok (.getfield 15, 3) := by decide +kernel
theorem dX5_insertInOrder_26 : decode cX5_insertInOrder 26 = .ok (.iload_n 2, 1) := by decide +kernel
theorem dX5_insertInOrder_27 : decode cX5_insertInOrder 27 = .ok (.aload_n 0, 1) := by decide +kernel
theorem dX5_insertInOrder_28 : decode cX5_insertInOrder 28 = .ok (.getfield 15, 3) := by decide +kernel
theorem dX5_insertInOrder_31 : decode cX5_insertInOrder 31 = .ok (.iload_n 2, 1) := by decide +kernel
theorem dX5_insertInOrder_32 : decode cX5_insertInOrder 32 = .ok (.iconst 1, 1) := by decide +kernel
theorem dX5_insertInOrder_33 : decode cX5_insertInOrder 33 = .ok (.isub, 1) := by decide +kernel
theorem dX5_insertInOrder_34 : decode cX5_insertInOrder 34 = .ok (.iaload, 1) := by decide +kernel
theorem dX5_insertInOrder_35 : decode cX5_insertInOrder 35 = .ok (.iastore, 1) := by decide +kernel
theorem dX5_insertInOrder_36 : decode cX5_insertInOrder 36 = .ok (.iinc 2 (-1), 3) := by decide +kernel
theorem dX5_insertInOrder_39 : decode cX5_insertInOrder 39 = .ok (.goto (-37), 3) := by decide +kernel
theorem dX5_insertInOrder_42 : decode cX5_insertInOrder 42 = .ok (.aload_n 0, 1) := by decide +kernel
theorem dX5_insertInOrder_43 : decode cX5_insertInOrder 43 = .ok (.getfield 15, 3) := by decide +kernel
theorem dX5_insertInOrder_46 : decode cX5_insertInOrder 46 = .ok (.iload_n 2, 1) := by decide +kernel
theorem dX5_insertInOrder_47 : decode cX5_insertInOrder 47 = .ok (.iload_n 1, 1) := by decide +kernel
theorem dX5_insertInOrder_48 : decode cX5_insertInOrder 48 = .ok (.iastore, 1) := by decide +kernel
theorem dX5_insertInOrder_49 : decode cX5_insertInOrder 49 = .ok (.return_, 1) := by decide +kernel
theorem dX5_isBefore_0 : decode cX5_isBefore 0 = .ok (.aload_n 0, 1) := by decide +kernel
theorem dX5_isBefore_1 : decode cX5_isBefore 1 = .ok (.iload_n 1, 1) := by decide +kernel
theorem dX5_isBefore_2 : decode cX5_isBefore 2 = .ok (.iload_n 2, 1) := by decide +kernel
theorem dX5_isBefore_3 : decode cX5_isBefore 3 = .ok (.invokevirtual 57, 3) := by decide +kernel
theorem dX5_isBefore_6 : decode cX5_isBefore 6 = .ok (.istore_n 3, 1) := by decide +kernel
theorem dX5_isBefore_7 : decode cX5_isBefore 7 = .ok (.aload_n 0, 1) := by decide +kernel
theorem dX5_isBefore_8 : decode cX5_isBefore 8 = .ok (.getfield 11, 3) := by decide +kernel
theorem dX5_isBefore_11 : decode cX5_isBefore 11 = .ok (.iload_n 1, 1) := by decide +kernel
theorem dX5_isBefore_12 : decode cX5_isBefore 12 = .ok (.bipush 36, 2) := by decide +kernel
theorem dX5_isBefore_14 : decode cX5_isBefore 14 = .ok (.imul, 1) := by decide +kernel
theorem dX5_isBefore_15 : decode cX5_isBefore 15 = .ok (.iload_n 3, 1) := by decide +kernel
theorem dX5_isBefore_16 : decode cX5_isBefore 16 = .ok (.iadd, 1) := by decide +kernel
theorem dX5_isBefore_17 : decode cX5_isBefore 17 = .ok (.iaload, 1) := by decide +kernel
theorem dX5_isBefore_18 : decode cX5_isBefore 18 = .ok (.aload_n 0, 1) := by decide +kernel
theorem dX5_isBefore_19 : decode cX5_isBefore 19 = .ok (.getfield 11, 3) := by decide +kernel
theorem dX5_isBefore_22 : decode cX5_isBefore 22 = .ok (.iload_n 2, 1) := by decide +kernel
theorem dX5_isBefore_23 : decode cX5_isBefore 23 = .ok (.bipush 36, 2) := by decide +kernel
theorem dX5_isBefore_25 : decode cX5_isBefore 25 = .ok (.imul, 1) := by decide +kernel
theorem dX5_isBefore_26 : decode cX5_isBefore 26 = .ok (.iload_n 3, 1) := by decide +kernel
theorem dX5_isBefore_27 : decode cX5_isBefore 27 = .ok (.iadd, 1) := by decide +kernel
theorem dX5_isBefore_28 : decode cX5_isBefore 28 = .ok (.iaload, 1) := by decide +kernel
theorem dX5_isBefore_29 : decode cX5_isBefore 29 = .ok (.if_icmp .ge 7, 3) := by decide +kernel
theorem dX5_isBefore_32 : decode cX5_isBefore 32 = .ok (.iconst 1, 1) := by decide +kernel
theorem dX5_isBefore_33 : decode cX5_isBefore 33 = .ok (.goto 4, 3) := by decide +kernel
theorem dX5_isBefore_36 : decode cX5_isBefore 36 = .ok (.iconst 0, 1) := by decide +kernel
theorem dX5_isBefore_37 : decode cX5_isBefore 37 = .ok (.ireturn, 1) := by decide +kernel
theorem dX5_firstDifference_0 : decode cX5_firstDifference 0 = .ok (.iconst 0, 1) := by decide +kernel
theorem dX5_firstDifference_1 : decode cX5_firstDifference 1 = .ok (.istore_n 3, 1) := by decide +kernel
theorem dX5_firstDifference_2 : decode cX5_firstDifference 2 = .ok (.iload_n 3, 1) := by decide +kernel
theorem dX5_firstDifference_3 : decode cX5_firstDifference 3 = .ok (.bipush 35, 2) := by decide +kernel
theorem dX5_firstDifference_5 : decode cX5_firstDifference 5 = .ok (.if_icmp .ge 34, 3) := by decide +kernel
theorem dX5_firstDifference_8 : decode cX5_firstDifference 8 = .ok (.aload_n 0, 1) := by decide +kernel
theorem dX5_firstDifference_9 : decode cX5_firstDifference 9 = .ok (.getfield 11, 3) := by decide +kernel
theorem dX5_firstDifference_12 : decode cX5_firstDifference 12 = .ok (.iload_n 1, 1) := by decide +kernel
theorem dX5_firstDifference_13 : decode cX5_firstDifference 13 = .ok (.bipush 36, 2) := by decide +kernel
theorem dX5_firstDifference_15 : decode cX5_firstDifference 15 = .ok (.imul, 1) := by decide +kernel
theorem dX5_firstDifference_16 : decode cX5_firstDifference 16 = .ok (.iload_n 3, 1) := by decide +kernel
theorem dX5_firstDifference_17 : decode cX5_firstDifference 17 = .ok (.iadd, 1) := by decide +kernel
theorem dX5_firstDifference_18 : decode cX5_firstDifference 18 = .ok (.iaload, 1) := by decide +kernel
theorem dX5_firstDifference_19 : decode cX5_firstDifference 19 = .ok (.aload_n 0, 1) := by decide +kernel
theorem dX5_firstDifference_20 : decode cX5_firstDifference 20 = .ok (.getfield 11, 3) := by decide +kernel
theorem dX5_firstDifference_23 : decode cX5_firstDifference 23 = .ok (.iload_n 2, 1) := by decide +kernel
theorem dX5_firstDifference_24 : decode cX5_firstDifference 24 = .ok (.bipush 36, 2) := by decide +kernel
theorem dX5_firstDifference_26 : decode cX5_firstDifference 26 = .ok (.imul, 1) := by decide +kernel
theorem dX5_firstDifference_27 : decode cX5_firstDifference 27 = .ok (.iload_n 3, 1) := by decide +kernel
theorem dX5_firstDifference_28 : decode cX5_firstDifference 28 = .ok (.iadd, 1) := by decide +kernel
theorem dX5_firstDifference_29 : decode cX5_firstDifference 29 = .ok (.iaload, 1) := by decide +kernel
theorem dX5_firstDifference_30 : decode cX5_firstDifference 30 = .ok (.if_icmp .ne 9, 3) := by decide +kernel
theorem dX5_firstDifference_33 : decode cX5_firstDifference 33 = .ok (.iinc 3 1, 3) := by decide +kernel
theorem dX5_firstDifference_36 : decode cX5_firstDifference 36 = .ok (.goto (-34), 3) := by decide +kernel
theorem dX5_firstDifference_39 : decode cX5_firstDifference 39 = .ok (.iload_n 3, 1) := by decide +kernel
theorem dX5_firstDifference_40 : decode cX5_firstDifference 40 = .ok (.ireturn, 1) := by decide +kernel
theorem dX6_init_0 : decode cX6_init 0 = .ok (.aload_n 0, 1) := by decide +kernel
theorem dX6_init_1 : decode cX6_init 1 = .ok (.invokespecial 3, 3) := by decide +kernel
theorem dX6_init_4 : decode cX6_init 4 = .ok (.aload_n 0, 1) := by decide +kernel
theorem dX6_init_5 : decode cX6_init 5 = .ok (.sipush 640, 3) := by decide +kernel
theorem dX6_init_8 : decode cX6_init 8 = .ok (.newarray .int, 2) := by decide +kernel
theorem dX6_init_10 : decode cX6_init 10 = .ok (.putfield 9, 3) := by decide +kernel
theorem dX6_init_13 : decode cX6_init 13 = .ok (.aload_n 0, 1) := by decide +kernel
theorem dX6_init_14 : decode cX6_init 14 = .ok (.sipush 640, 3) := by decide +kernel
theorem dX6_init_17 : decode cX6_init 17 = .ok (.newarray .boolean, 2) := by decide +kernel
theorem dX6_init_19 : decode cX6_init 19 = .ok (.putfield 15, 3) := by decide +kernel
theorem dX6_init_22 : decode cX6_init 22 = .ok (.aload_n 0, 1) := by decide +kernel
theorem dX6_init_23 : decode cX6_init 23 = .ok (.bipush 40, 2) := by decide +kernel
theorem dX6_init_25 : decode cX6_init 25 = .ok (.newarray .int, 2) := by decide +kernel
theorem dX6_init_27 : decode cX6_init 27 = .ok (.putfield 19, 3) := by decide +kernel
theorem dX6_init_30 : decode cX6_init 30 = .ok (.aload_n 0, 1) := by decide +kernel
theorem dX6_init_31 : decode cX6_init 31 = .ok (.bipush 40, 2) := by decide +kernel
theorem dX6_init_33 : decode cX6_init 33 = .ok (.newarray .int, 2) := by decide +kernel
theorem dX6_init_35 : decode cX6_init 35 = .ok (.putfield 22, 3) := by decide +kernel
theorem dX6_init_38 : decode cX6_init 38 = .ok (.aload_n 0, 1) := by decide +kernel
theorem dX6_init_39 : decode cX6_init 39 = .ok (.bipush 40, 2) := by decide +kernel
theorem dX6_init_41 : decode cX6_init 41 = .ok (.newarray .int, 2) := by decide +kernel
theorem dX6_init_43 : decode cX6_init 43 = .ok (.putfield 25, 3) := by decide +kernel
theorem dX6_init_46 : decode cX6_init 46 = .ok (.aload_n 0, 1) := by decide +kernel
theorem dX6_init_47 : decode cX6_init 47 = .ok (.bipush 40, 2) := by decide +kernel
theorem dX6_init_49 : decode cX6_init 49 = .ok (.newarray .int, 2) := by decide +kernel
theorem dX6_init_51 : decode cX6_init 51 = .ok (.putfield 28, 3) := by decide +kernel
theorem dX6_init_54 : decode cX6_init 54 = .ok (.aload_n 0, 1) := by decide +kernel
theorem dX6_init_55 : decode cX6_init 55 = .ok (.aload_n 1, 1) := by decide +kernel
theorem dX6_init_56 : decode cX6_init 56 = .ok (.putfield 31, 3) := by decide +kernel
theorem dX6_init_59 : decode cX6_init 59 = .ok (.aload_n 0, 1) := by decide +kernel
theorem dX6_init_60 : decode cX6_init 60 = .ok (.aload_n 2, 1) := by decide +kernel
theorem dX6_init_61 : decode cX6_init 61 = .ok (.putfield 35, 3) := by decide +kernel
theorem dX6_init_64 : decode cX6_init 64 = .ok (.aload_n 0, 1) := by decide +kernel
theorem dX6_init_65 : decode cX6_init 65 = .ok (.aload_n 3, 1) := by decide +kernel
theorem dX6_init_66 : decode cX6_init 66 = .ok (.putfield 39, 3) := by decide +kernel
theorem dX6_init_69 : decode cX6_init 69 = .ok (.aload_n 0, 1) := by decide +kernel
theorem dX6_init_70 : decode cX6_init 70 = .ok (.aload 4, 2) := by decide +kernel
theorem dX6_init_72 : decode cX6_init 72 = .ok (.putfield 43, 3) := by decide +kernel
theorem dX6_init_75 : decode cX6_init 75 = .ok (.return_, 1) := by decide +kernel
theorem dX6_calculate_0 : decode cX6_calculate 0 = .ok (.iconst 0, 1) := by decide +kernel
theorem dX6_calculate_1 : decode cX6_calculate 1 = .ok (.istore_n 1, 1) := by decide +kernel
theorem dX6_calculate_2 : decode cX6_calculate 2 = .ok (.iload_n 1, 1) := by decide +kernel
theorem dX6_calculate_3 : decode cX6_calculate 3 = .ok (.aload_n 0, 1) := by decide +kernel
theorem dX6_calculate_4 : decode cX6_calculate 4 = .ok (.getfield 31, 3) := by decide +kernel
theorem dX6_calculate_7 : decode cX6_calculate 7 = .ok (.getfield 47, 3) := by decide +kernel
theorem dX6_calculate_10 : decode cX6_calculate 10 = .ok (.if_icmp .ge 19, 3) := by decide +kernel
theorem dX6_calculate_13 : decode cX6_calculate 13 = .ok (.aload_n 0, 1) := by decide +kernel
theorem dX6_calculate_14 : decode cX6_calculate 14 = .ok (.iload_n 1, 1) := by decide +kernel
theorem dX6_calculate_15 : decode cX6_calculate 15 = .ok (.invokevirtual 53, 3) := by decide +kernel
theorem dX6_calculate_18 : decode cX6_calculate 18 = .ok (.aload_n 0, 1) := by decide +kernel
theorem dX6_calculate_19 : decode cX6_calculate 19 = .ok (.iload_n 1, 1) := by decide +kernel
theorem dX6_calculate_20 : decode cX6_calculate 20 = .ok (.invokevirtual 57, 3) := by decide +kernel
theorem dX6_calculate_23 : decode cX6_calculate 23 = .ok (.iinc 1 1, 3) := by decide +kernel
theorem dX6_calculate_26 : decode cX6_calculate 26 = .ok (.goto (-24), 3) := by decide +kernel
theorem dX6_calculate_29 : decode cX6_calculate 29 = .ok (.return_, 1) := by decide +kernel
theorem dX6_addUp_0 : decode cX6_addUp 0 = .ok (.aload_n 0, 1) := by decide +kernel
theorem dX6_addUp_1 : decode cX6_addUp 1 = .ok (.getfield 19, 3) := by decide +kernel
theorem dX6_addUp_4 : decode cX6_addUp 4 = .ok (.iload_n 1, 1) := by decide +kernel
theorem dX6_addUp_5 : decode cX6_addUp 5 = .ok (.iconst 0, 1) := by decide +kernel
theorem dX6_addUp_6 : decode cX6_addUp 6 = .ok (.iastore, 1) := by decide +kernel
theorem dX6_addUp_7 : decode cX6_addUp 7 = .ok (.aload_n 0, 1) := by decide +kernel
theorem dX6_addUp_8 : decode cX6_addUp 8 = .ok (.getfield 25, 3) := by decide +kernel
theorem dX6_addUp_11 : decode cX6_addUp 11 = .ok (.iload_n 1, 1) := by decide +kernel
theorem dX6_addUp_12 : decode cX6_addUp 12 = .ok (.iconst 0, 1) := by decide +kernel
theorem dX6_addUp_13 : decode cX6_addUp 13 = .ok (.iastore, 1) := by decide +kernel
theorem dX6_addUp_14 : decode cX6_addUp 14 = .ok (.iconst 0, 1) := by decide +kernel
theorem dX6_addUp_15 : decode cX6_addUp 15 = .ok (.istore_n 2, 1) := by decide +kernel
theorem dX6_addUp_16 : decode cX6_addUp 16 = .ok (.iload_n 2, 1) := by decide +kernel
theorem dX6_addUp_17 : decode cX6_addUp 17 = .ok (.aload_n 0, 1) := by decide +kernel
theorem dX6_addUp_18 : decode cX6_addUp 18 = .ok (.getfield 35, 3) := by decide +kernel
theorem dX6_addUp_21 : decode cX6_addUp 21 = .ok (.getfield 60, 3) := by decide +kernel
theorem dX6_addUp_24 : decode cX6_addUp 24 = .ok (.if_icmp .ge 86, 3) := by decide +kernel
theorem dX6_addUp_27 : decode cX6_addUp 27 = .ok (.iload_n 2, 1) := by decide +kernel
theorem dX6_addUp_28 : decode cX6_addUp 28 = .ok (.iload_n 1, 1) := by decide +kernel
theorem dX6_addUp_29 : decode cX6_addUp 29 = .ok (.invokestatic 63, 3) := by decide +kernel
theorem dX6_addUp_32 : decode cX6_addUp 32 = .ok (.istore_n 3, 1) := by decide +kernel
theorem dX6_addUp_33 : decode cX6_addUp 33 = .ok (.aload_n 0, 1) := by decide +kernel
theorem dX6_addUp_34 : decode cX6_addUp 34 = .ok (.getfield 43, 3) := by decide +kernel
theorem dX6_addUp_37 : decode cX6_addUp 37 = .ok (.getfield 67, 3) := by decide +kernel
theorem dX6_addUp_40 : decode cX6_addUp 40 = .ok (.iload_n 3, 1) := by decide +kernel
theorem dX6_addUp_41 : decode cX6_addUp 41 = .ok (.baload, 1) := by decide +kernel
theorem dX6_addUp_42 : decode cX6_addUp 42 = .ok (.ifCond .eq 62, 3) := by decide +kernel
theorem dX6_addUp_45 : decode cX6_addUp 45 = .ok (.aload_n 0, 1) := by decide +kernel
theorem dX6_addUp_46 : decode cX6_addUp 46 = .ok (.getfield 9, 3) := by decide +kernel
theorem dX6_addUp_49 : decode cX6_addUp 49 = .ok (.iload_n 3, 1) := by decide +kernel
theorem dX6_addUp_50 : decode cX6_addUp 50 = .ok (.aload_n 0, 1) := by decide +kernel
theorem dX6_addUp_51 : decode cX6_addUp 51 = .ok (.getfield 43, 3) := by decide +kernel
theorem dX6_addUp_54 : decode cX6_addUp 54 = .ok (.getfield 72, 3) := by decide +kernel
theorem dX6_addUp_57 : decode cX6_addUp 57 = .ok (.iload_n 3, 1) := by decide +kernel
theorem dX6_addUp_58 : decode cX6_addUp 58 = .ok (.iaload, 1) := by decide +kernel
theorem dX6_addUp_59 : decode cX6_addUp 59 = .ok (.aload_n 0, 1) := by decide +kernel
theorem dX6_addUp_60 : decode cX6_addUp 60 = .ok (.getfield 35, 3) := by decide +kernel
theorem dX6_addUp_63 : decode cX6_addUp 63 = .ok (.getfield 75, 3) := by decide +kernel
theorem dX6_addUp_66 : decode cX6_addUp 66 = .ok (.iload_n 2, 1) := by decide +kernel
theorem dX6_addUp_67 : decode cX6_addUp 67 = .ok (.iaload, 1) := by decide +kernel
theorem dX6_addUp_68 : decode cX6_addUp 68 = .ok (.iconst 2, 1) := by decide +kernel
theorem dX6_addUp_69 : decode cX6_addUp 69 = .ok (.if_icmp .ne 7, 3) := by decide +kernel
theorem dX6_addUp_72 : decode cX6_addUp 72 = .ok (.iconst 2, 1) := by decide +kernel
theorem dX6_addUp_73 : decode cX6_addUp 73 = .ok (.goto 4, 3) := by decide +kernel
theorem dX6_addUp_76 : decode cX6_addUp 76 = .ok (.iconst 1, 1) := by decide +kernel
theorem dX6_addUp_77 : decode cX6_addUp 77 = .ok (.imul, 1) := by decide +kernel
theorem dX6_addUp_78 : decode cX6_addUp 78 = .ok (.iastore, 1) := by decide +kernel
theorem dX6_addUp_79 : decode cX6_addUp 79 = .ok (.aload_n 0, 1) := by decide +kernel
theorem dX6_addUp_80 : decode cX6_addUp 80 = .ok (.getfield 19, 3) := by decide +kernel
theorem dX6_addUp_83 : decode cX6_addUp 83 = .ok (.iload_n 1, 1) := by decide +kernel
theorem dX6_addUp_84 : decode cX6_addUp 84 = .ok (.dup2, 1) := by decide +kernel
theorem dX6_addUp_85 : decode cX6_addUp 85 = .ok (.iaload, 1) := by decide +kernel
theorem dX6_addUp_86 : decode cX6_addUp 86 = .ok (.iconst 1, 1) := by decide +kernel
theorem dX6_addUp_87 : decode cX6_addUp 87 = .ok (.iadd, 1) := by decide +kernel
theorem dX6_addUp_88 : decode cX6_addUp 88 = .ok (.iastore, 1) := by decide +kernel
theorem dX6_addUp_89 : decode cX6_addUp 89 = .ok (.aload_n 0, 1) := by decide +kernel
theorem dX6_addUp_90 : decode cX6_addUp 90 = .ok (.getfield 25, 3) := by decide +kernel
theorem dX6_addUp_93 : decode cX6_addUp 93 = .ok (.iload_n 1, 1) := by decide +kernel
theorem dX6_addUp_94 : decode cX6_addUp 94 = .ok (.dup2, 1) := by decide +kernel
theorem dX6_addUp_95 : decode cX6_addUp 95 = .ok (.iaload, 1) := by decide +kernel
theorem dX6_addUp_96 : decode cX6_addUp 96 = .ok (.aload_n 0, 1) := by decide +kernel
theorem dX6_addUp_97 : decode cX6_addUp 97 = .ok (.getfield 9, 3) := by decide +kernel
theorem dX6_addUp_100 : decode cX6_addUp 100 = .ok (.iload_n 3, 1) := by decide +kernel
theorem dX6_addUp_101 : decode cX6_addUp 101 = .ok (.iaload, 1) := by decide +kernel
theorem dX6_addUp_102 : decode cX6_addUp 102 = .ok (.iadd, 1) := by decide +kernel
theorem dX6_addUp_103 : decode cX6_addUp 103 = .ok (.iastore, 1) := by decide +kernel
theorem dX6_addUp_104 : decode cX6_addUp 104 = .ok (.iinc 2 1, 3) := by decide +kernel
theorem dX6_addUp_107 : decode cX6_addUp 107 = .ok (.goto (-91), 3) := by decide +kernel
theorem dX6_addUp_110 : decode cX6_addUp 110 = .ok (.return_, 1) := by decide +kernel
theorem dX6_leaveOut_0 : decode cX6_leaveOut 0 = .ok (.iconst 0, 1) := by decide +kernel
theorem dX6_leaveOut_1 : decode cX6_leaveOut 1 = .ok (.istore_n 2, 1) := by decide +kernel
theorem dX6_leaveOut_2 : decode cX6_leaveOut 2 = .ok (.iload_n 2, 1) := by decide +kernel
theorem dX6_leaveOut_3 : decode cX6_leaveOut 3 = .ok (.aload_n 0, 1) := by decide +kernel
theorem dX6_leaveOut_4 : decode cX6_leaveOut 4 = .ok (.getfield 35, 3) := by decide +kernel
theorem dX6_leaveOut_7 : decode cX6_leaveOut 7 = .ok (.getfield 60, 3) := by decide +kernel
theorem dX6_leaveOut_10 : decode cX6_leaveOut 10 = .ok (.if_icmp .ge 20, 3) := by decide +kernel
theorem dX6_leaveOut_13 : decode cX6_leaveOut 13 = .ok (.aload_n 0, 1) := by decide +kernel
theorem dX6_leaveOut_14 : decode cX6_leaveOut 14 = .ok (.getfield 15, 3) := by decide +kernel
theorem dX6_leaveOut_17 : decode cX6_leaveOut 17 = .ok (.iload_n 2, 1) := by decide +kernel
theorem dX6_leaveOut_18 : decode cX6_leaveOut 18 = .ok (.iload_n 1, 1) := by decide +kernel
theorem dX6_leaveOut_19 : decode cX6_leaveOut 19 = .ok (.invokestatic 63, 3) := by decide +kernel
theorem dX6_leaveOut_22 : decode cX6_leaveOut 22 = .ok (.iconst 0, 1) := by decide +kernel
theorem dX6_leaveOut_23 : decode cX6_leaveOut 23 = .ok (.bastore, 1) := by decide +kernel
theorem dX6_leaveOut_24 : decode cX6_leaveOut 24 = .ok (.iinc 2 1, 3) := by decide +kernel
theorem dX6_leaveOut_27 : decode cX6_leaveOut 27 = .ok (.goto (-25), 3) := by decide +kernel
theorem dX6_leaveOut_30 : decode cX6_leaveOut 30 = .ok (.aload_n 0, 1) := by decide +kernel
theorem dX6_leaveOut_31 : decode cX6_leaveOut 31 = .ok (.getfield 22, 3) := by decide +kernel
theorem dX6_leaveOut_34 : decode cX6_leaveOut 34 = .ok (.iload_n 1, 1) := by decide +kernel
theorem dX6_leaveOut_35 : decode cX6_leaveOut 35 = .ok (.iconst 0, 1) := by decide +kernel
theorem dX6_leaveOut_36 : decode cX6_leaveOut 36 = .ok (.iastore, 1) := by decide +kernel
theorem dX6_leaveOut_37 : decode cX6_leaveOut 37 = .ok (.aload_n 0, 1) := by decide +kernel
theorem dX6_leaveOut_38 : decode cX6_leaveOut 38 = .ok (.getfield 28, 3) := by decide +kernel
theorem dX6_leaveOut_41 : decode cX6_leaveOut 41 = .ok (.iload_n 1, 1) := by decide +kernel
theorem dX6_leaveOut_42 : decode cX6_leaveOut 42 = .ok (.aload_n 0, 1) := by decide +kernel
theorem dX6_leaveOut_43 : decode cX6_leaveOut 43 = .ok (.getfield 25, 3) := by decide +kernel
theorem dX6_leaveOut_46 : decode cX6_leaveOut 46 = .ok (.iload_n 1, 1) := by decide +kernel
theorem dX6_leaveOut_47 : decode cX6_leaveOut 47 = .ok (.iaload, 1) := by decide +kernel
theorem dX6_leaveOut_48 : decode cX6_leaveOut 48 = .ok (.iastore, 1) := by decide +kernel
theorem dX6_leaveOut_49 : decode cX6_leaveOut 49 = .ok (.aload_n 0, 1) := by decide +kernel
theorem dX6_leaveOut_50 : decode cX6_leaveOut 50 = .ok (.getfield 39, 3) := by decide +kernel
theorem dX6_leaveOut_53 : decode cX6_leaveOut 53 = .ok (.aload_n 0, 1) := by decide +kernel
theorem dX6_leaveOut_54 : decode cX6_leaveOut 54 = .ok (.getfield 19, 3) := by decide +kernel
theorem dX6_leaveOut_57 : decode cX6_leaveOut 57 = .ok (.iload_n 1, 1) := by decide +kernel
theorem dX6_leaveOut_58 : decode cX6_leaveOut 58 = .ok (.iaload, 1) := by decide +kernel
theorem dX6_leaveOut_59 : decode cX6_leaveOut 59 = .ok (.invokevirtual 78, 3) := by decide +kernel
theorem dX6_leaveOut_62 : decode cX6_leaveOut 62 = .ok (.istore_n 2, 1) := by decide +kernel
theorem dX6_leaveOut_63 : decode cX6_leaveOut 63 = .ok (.iconst 0, 1) := by decide +kernel
theorem dX6_leaveOut_64 : decode cX6_leaveOut 64 = .ok (.istore_n 3, 1) := by decide +kernel
theorem dX6_leaveOut_65 : decode cX6_leaveOut 65 = .ok (.iload_n 3, 1) := by decide +kernel
theorem dX6_leaveOut_66 : decode cX6_leaveOut 66 = .ok (.iload_n 2, 1) := by decide +kernel
theorem dX6_leaveOut_67 : decode cX6_leaveOut 67 = .ok (.if_icmp .ge 65, 3) := by decide +kernel
theorem dX6_leaveOut_70 : decode cX6_leaveOut 70 = .ok (.aload_n 0, 1) := by decide +kernel
theorem dX6_leaveOut_71 : decode cX6_leaveOut 71 = .ok (.iload_n 1, 1) := by decide +kernel
theorem dX6_leaveOut_72 : decode cX6_leaveOut 72 = .ok (.invokevirtual 84, 3) := by decide +kernel
theorem dX6_leaveOut_75 : decode cX6_leaveOut 75 = .ok (.istore 4, 2) := by decide +kernel
theorem dX6_leaveOut_77 : decode cX6_leaveOut 77 = .ok (.iload 4, 2) := by decide +kernel
theorem dX6_leaveOut_79 : decode cX6_leaveOut 79 = .ok (.iconst (-1), 1) := by decide +kernel
theorem dX6_leaveOut_80 : decode cX6_leaveOut 80 = .ok (.if_icmp .ne 4, 3) := by decide +kernel
theorem dX6_leaveOut_83 : decode cX6_leaveOut 83 = .ok (.return_, 1) := by decide +kernel
theorem dX6_leaveOut_84 : decode cX6_leaveOut 84 = .ok (.aload_n 0, 1) := by decide +kernel
theorem dX6_leaveOut_85 : decode cX6_leaveOut 85 = .ok (.getfield 15, 3) := by decide +kernel
theorem dX6_leaveOut_88 : decode cX6_leaveOut 88 = .ok (.iload 4, 2) := by decide +kernel
theorem dX6_leaveOut_90 : decode cX6_leaveOut 90 = .ok (.iload_n 1, 1) := by decide +kernel
theorem dX6_leaveOut_91 : decode cX6_leaveOut 91 = .ok (.invokestatic 63, 3) := by decide +kernel
theorem dX6_leaveOut_94 : decode cX6_leaveOut 94 = .ok (.iconst 1, 1) := by decide +kernel
theorem dX6_leaveOut_95 : decode cX6_leaveOut 95 = .ok (.bastore, 1) := by decide +kernel
theorem dX6_leaveOut_96 : decode cX6_leaveOut 96 = .ok (.aload_n 0, 1) := by decide +kernel
theorem dX6_leaveOut_97 : decode cX6_leaveOut 97 = .ok (.getfield 22, 3) := by decide +kernel
theorem dX6_leaveOut_100 : decode cX6_leaveOut 100 = .ok (.iload_n 1, 1) := by decide +kernel
theorem dX6_leaveOut_101 : decode cX6_leaveOut 101 = .ok (.dup2, 1) := by decide +kernel
theorem dX6_leaveOut_102 : decode cX6_leaveOut 102 = .ok (.iaload, 1) := by decide +kernel
theorem dX6_leaveOut_103 : decode cX6_leaveOut 103 = .ok (.iconst 1, 1) := by decide +kernel
theorem dX6_leaveOut_104 : decode cX6_leaveOut 104 = .ok (.iadd, 1) := by decide +kernel
theorem dX6_leaveOut_105 : decode cX6_leaveOut 105 = .ok (.iastore, 1) := by decide +kernel
theorem dX6_leaveOut_106 : decode cX6_leaveOut 106 = .ok (.aload_n 0, 1) := by decide +kernel
theorem dX6_leaveOut_107 : decode cX6_leaveOut 107 = .ok (.getfield 28, 3) := by decide +kernel
theorem dX6_leaveOut_110 : decode cX6_leaveOut 110 = .ok (.iload_n 1, 1) := by decide +kernel
theorem dX6_leaveOut_111 : decode cX6_leaveOut 111 = .ok (.dup2, 1) := by decide +kernel
theorem dX6_leaveOut_112 : decode cX6_leaveOut 112 = .ok (.iaload, 1) := by decide +kernel
theorem dX6_leaveOut_113 : decode cX6_leaveOut 113 = .ok (.aload_n 0, 1) := by decide +kernel
theorem dX6_leaveOut_114 : decode cX6_leaveOut 114 = .ok (.getfield 9, 3) := by decide +kernel
theorem dX6_leaveOut_117 : decode cX6_leaveOut 117 = .ok (.iload 4, 2) := by decide +kernel
theorem dX6_leaveOut_119 : decode cX6_leaveOut 119 = .ok (.iload_n 1, 1) := by decide +kernel
theorem dX6_leaveOut_120 : decode cX6_leaveOut 120 = .ok (.invokestatic 63, 3) := by decide +kernel
theorem dX6_leaveOut_123 : decode cX6_leaveOut 123 = .ok (.iaload, 1) := by decide +kernel
theorem dX6_leaveOut_124 : decode cX6_leaveOut 124 = .ok (.isub, 1) := by decide +kernel
theorem dX6_leaveOut_125 : decode cX6_leaveOut 125 = .ok (.iastore, 1) := by decide +kernel
theorem dX6_leaveOut_126 : decode cX6_leaveOut 126 = .ok (.iinc 3 1, 3) := by decide +kernel
theorem dX6_leaveOut_129 : decode cX6_leaveOut 129 = .ok (.goto (-64), 3) := by decide +kernel
theorem dX6_leaveOut_132 : decode cX6_leaveOut 132 = .ok (.return_, 1) := by decide +kernel
theorem dX6_worstLeft_0 : decode cX6_worstLeft 0 = .ok (.iconst (-1), 1) := by decide +kernel
theorem dX6_worstLeft_1 : decode cX6_worstLeft 1 = .ok (.istore_n 2, 1) := by decide +kernel
theorem dX6_worstLeft_2 : decode cX6_worstLeft 2 = .ok (.iconst 0, 1) := by decide +kernel
theorem dX6_worstLeft_3 : decode cX6_worstLeft 3 = .ok (.istore_n 3, 1) := by decide +kernel
theorem dX6_worstLeft_4 : decode cX6_worstLeft 4 = .ok (.iload_n 3, 1) := by decide +kernel
theorem dX6_worstLeft_5 : decode cX6_worstLeft 5 = .ok (.aload_n 0, 1) := by decide +kernel
theorem dX6_worstLeft_6 : decode cX6_worstLeft 6 = .ok (.getfield 35, 3) := by decide +kernel
theorem dX6_worstLeft_9 : decode cX6_worstLeft 9 = .ok (.getfield 60, 3) := by decide +kernel
theorem dX6_worstLeft_12 : decode cX6_worstLeft 12 = .ok (.if_icmp .ge 48, 3) := by decide +kernel
theorem dX6_worstLeft_15 : decode cX6_worstLeft 15 = .ok (.aload_n 0, 1) := by decide +kernel
theorem dX6_worstLeft_16 : decode cX6_worstLeft 16 = .ok (.iload_n 3, 1) := by decide +kernel
theorem dX6_worstLeft_17 : decode cX6_worstLeft 17 = .ok (.iload_n 1, 1) := by decide +kernel
theorem dX6_worstLeft_18 : decode cX6_worstLeft 18 = .ok (.invokevirtual 87, 3) := by decide +kernel
theorem dX6_worstLeft_21 : decode cX6_worstLeft 21 = .ok (.ifCond .eq 33, 3) := by decide +kernel
theorem dX6_worstLeft_24 : decode cX6_worstLeft 24 = .ok (.iload_n 2, 1) := by decide +kernel
theorem dX6_worstLeft_25 : decode cX6_worstLeft 25 = .ok (.iconst (-1), 1) := by decide +kernel
theorem dX6_worstLeft_26 : decode cX6_worstLeft 26 = .ok (.if_icmp .eq 26, 3) := by decide +kernel
theorem dX6_worstLeft_29 : decode cX6_worstLeft 29 = .ok (.aload_n 0, 1) := by decide +kernel
theorem dX6_worstLeft_30 : decode cX6_worstLeft 30 = .ok (.getfield 9, 3) := by decide +kernel
theorem dX6_worstLeft_33 : decode cX6_worstLeft 33 = .ok (.iload_n 3, 1) := by decide +kernel
theorem dX6_worstLeft_34 : decode cX6_worstLeft 34 = .ok (.iload_n 1, 1) := by decide +kernel
theorem dX6_worstLeft_35 : decode cX6_worstLeft 35 = .ok (.invokestatic 63, 3) := by decide +kernel
theorem dX6_worstLeft_38 : decode cX6_worstLeft 38 = .ok (.iaload, 1) := by decide +kernel
theorem dX6_worstLeft_39 : decode cX6_worstLeft 39 = .ok (.aload_n 0, 1) := by decide +kernel
theorem dX6_worstLeft_40 : decode cX6_worstLeft 40 = .ok (.getfield 9, 3) := by decide +kernel
theorem dX6_worstLeft_43 : decode cX6_worstLeft 43 = .ok (.iload_n 2, 1) := by decide +kernel
theorem dX6_worstLeft_44 : decode cX6_worstLeft 44 = .ok (.iload_n 1, 1) := by decide +kernel
theorem dX6_worstLeft_45 : decode cX6_worstLeft 45 = .ok (.invokestatic 63, 3) := by decide +kernel
theorem dX6_worstLeft_48 : decode cX6_worstLeft 48 = .ok (.iaload, 1) := by decide +kernel
theorem dX6_worstLeft_49 : decode cX6_worstLeft 49 = .ok (.if_icmp .le 5, 3) := by decide +kernel
theorem dX6_worstLeft_52 : decode cX6_worstLeft 52 = .ok (.iload_n 3, 1) := by decide +kernel
theorem dX6_worstLeft_53 : decode cX6_worstLeft 53 = .ok (.istore_n 2, 1) := by decide +kernel
theorem dX6_worstLeft_54 : decode cX6_worstLeft 54 = .ok (.iinc 3 1, 3) := by decide +kernel
theorem dX6_worstLeft_57 : decode cX6_worstLeft 57 = .ok (.goto (-53), 3) := by decide +kernel
theorem dX6_worstLeft_60 : decode cX6_worstLeft 60 = .ok (.iload_n 2, 1) := by decide +kernel
theorem dX6_worstLeft_61 : decode cX6_worstLeft 61 = .ok (.ireturn, 1) := by decide +kernel
theorem dX6_canLeaveOut_0 : decode cX6_canLeaveOut 0 = .ok (.iload_n 1, 1) := by decide +kernel
theorem dX6_canLeaveOut_1 : decode cX6_canLeaveOut 1 = .ok (.iload_n 2, 1) := by decide +kernel
theorem dX6_canLeaveOut_2 : decode cX6_canLeaveOut 2 = .ok (.invokestatic 63, 3) := by decide +kernel
theorem dX6_canLeaveOut_5 : decode cX6_canLeaveOut 5 = .ok (.istore_n 3, 1) := by decide +kernel
theorem dX6_canLeaveOut_6 : decode cX6_canLeaveOut 6 = .ok (.aload_n 0, 1) := by decide +kernel
theorem dX6_canLeaveOut_7 : decode cX6_canLeaveOut 7 = .ok (.getfield 43, 3) := by decide +kernel
theorem dX6_canLeaveOut_10 : decode cX6_canLeaveOut 10 = .ok (.getfield 67, 3) := by decide +kernel
theorem dX6_canLeaveOut_13 : decode cX6_canLeaveOut 13 = .ok (.iload_n 3, 1) := by decide +kernel
theorem dX6_canLeaveOut_14 : decode cX6_canLeaveOut 14 = .ok (.baload, 1) := by decide +kernel
theorem dX6_canLeaveOut_15 : decode cX6_canLeaveOut 15 = .ok (.ifCond .eq 45, 3) := by decide +kernel
theorem dX6_canLeaveOut_18 : decode cX6_canLeaveOut 18 = .ok (.aload_n 0, 1) := by decide +kernel
theorem dX6_canLeaveOut_19 : decode cX6_canLeaveOut 19 = .ok (.getfield 15, 3) := by decide +kernel
theorem dX6_canLeaveOut_22 : decode cX6_canLeaveOut 22 = .ok (.iload_n 3, 1) := by decide +kernel
theorem dX6_canLeaveOut_23 : decode cX6_canLeaveOut 23 = .ok (.baload, 1) := by decide +kernel
theorem dX6_canLeaveOut_24 : decode cX6_canLeaveOut 24 = .ok (.ifCond .ne 36, 3) := by decide +kernel
theorem dX6_canLeaveOut_27 : decode cX6_canLeaveOut 27 = .ok (.aload_n 0, 1) := by decide +kernel
theorem dX6_canLeaveOut_28 : decode cX6_canLeaveOut 28 = .ok (.getfield 35, 3) := by decide +kernel
theorem dX6_canLeaveOut_31 : decode cX6_canLeaveOut 31 = .ok (.getfield 75, 3) := by decide +kernel
theorem dX6_canLeaveOut_34 : decode cX6_canLeaveOut 34 = .ok (.iload_n 1, 1) := by decide +kernel
theorem dX6_canLeaveOut_35 : decode cX6_canLeaveOut 35 = .ok (.iaload, 1) := by decide +kernel
theorem dX6_canLeaveOut_36 : decode cX6_canLeaveOut 36 = .ok (.iconst 2, 1) := by decide +kernel
theorem dX6_canLeaveOut_37 : decode cX6_canLeaveOut 37 = .ok (.if_icmp .eq 23, 3) := by decide +kernel
theorem dX6_canLeaveOut_40 : decode cX6_canLeaveOut 40 = .ok (.aload_n 0, 1) := by decide +kernel
theorem dX6_canLeaveOut_41 : decode cX6_canLeaveOut 41 = .ok (.getfield 43, 3) := by decide +kernel
theorem dX6_canLeaveOut_44 : decode cX6_canLeaveOut 44 = .ok (.getfield 91, 3) := by decide +kernel
theorem dX6_canLeaveOut_47 : decode cX6_canLeaveOut 47 = .ok (.getfield 95, 3) := by decide +kernel
theorem dX6_canLeaveOut_50 : decode cX6_canLeaveOut 50 = .ok (.iload_n 3, 1) := by decide +kernel
theorem dX6_canLeaveOut_51 : decode cX6_canLeaveOut 51 = .ok (.iaload, 1) := by decide +kernel
theorem dX6_canLeaveOut_52 : decode cX6_canLeaveOut 52 = .ok (.iconst 5, 1) := by decide +kernel
theorem dX6_canLeaveOut_53 : decode cX6_canLeaveOut 53 = .ok (.if_icmp .eq 7, 3) := by decide +kernel
theorem dX6_canLeaveOut_56 : decode cX6_canLeaveOut 56 = .ok (.iconst 1, 1) := by decide +kernel
theorem dX6_canLeaveOut_57 : decode cX6_canLeaveOut 57 = .ok (.goto 4, 3) := by decide +kernel
theorem dX6_canLeaveOut_60 : decode cX6_canLeaveOut 60 = .ok (.iconst 0, 1) := by decide +kernel
theorem dX6_canLeaveOut_61 : decode cX6_canLeaveOut 61 = .ok (.ireturn, 1) := by decide +kernel
theorem dX7_init_0 : decode cX7_init 0 = .ok (.aload_n 0, 1) := by decide +kernel
theorem dX7_init_1 : decode cX7_init 1 = .ok (.invokespecial 3, 3) := by decide +kernel
theorem dX7_init_4 : decode cX7_init 4 = .ok (.aload_n 0, 1) := by decide +kernel
theorem dX7_init_5 : decode cX7_init 5 = .ok (.sipush 8040, 3) := by decide +kernel
theorem dX7_init_8 : decode cX7_init 8 = .ok (.newarray .byte, 2) := by decide +kernel
theorem dX7_init_10 : decode cX7_init 10 = .ok (.putfield 11, 3) := by decide +kernel
theorem dX7_init_13 : decode cX7_init 13 = .ok (.return_, 1) := by decide +kernel
theorem dX7_restart_0 : decode cX7_restart 0 = .ok (.aload_n 0, 1) := by decide +kernel
theorem dX7_restart_1 : decode cX7_restart 1 = .ok (.iconst 0, 1) := by decide +kernel
theorem dX7_restart_2 : decode cX7_restart 2 = .ok (.putfield 15, 3) := by decide +kernel
theorem dX7_restart_5 : decode cX7_restart 5 = .ok (.return_, 1) := by decide +kernel
theorem dX7_putText_0 : decode cX7_putText 0 = .ok (.iconst 0, 1) := by decide +kernel
theorem dX7_putText_1 : decode cX7_putText 1 = .ok (.istore_n 2, 1) := by decide +kernel
theorem dX7_putText_2 : decode cX7_putText 2 = .ok (.iload_n 2, 1) := by decide +kernel
theorem dX7_putText_3 : decode cX7_putText 3 = .ok (.aload_n 1, 1) := by decide +kernel
theorem dX7_putText_4 : decode cX7_putText 4 = .ok (.invokevirtual 19, 3) := by decide +kernel
theorem dX7_putText_7 : decode cX7_putText 7 = .ok (.if_icmp .ge 18, 3) := by decide +kernel
theorem dX7_putText_10 : decode cX7_putText 10 = .ok (.aload_n 0, 1) := by decide +kernel
theorem dX7_putText_11 : decode cX7_putText 11 = .ok (.aload_n 1, 1) := by decide +kernel
theorem dX7_putText_12 : decode cX7_putText 12 = .ok (.iload_n 2, 1) := by decide +kernel
theorem dX7_putText_13 : decode cX7_putText 13 = .ok (.invokevirtual 24, 3) := by decide +kernel
theorem dX7_putText_16 : decode cX7_putText 16 = .ok (.invokevirtual 28, 3) := by decide +kernel
theorem dX7_putText_19 : decode cX7_putText 19 = .ok (.iinc 2 1, 3) := by decide +kernel
theorem dX7_putText_22 : decode cX7_putText 22 = .ok (.goto (-20), 3) := by decide +kernel
theorem dX7_putText_25 : decode cX7_putText 25 = .ok (.return_, 1) := by decide +kernel
theorem dX7_putNumber_0 : decode cX7_putNumber 0 = .ok (.sipush 10000, 3) := by decide +kernel
theorem dX7_putNumber_3 : decode cX7_putNumber 3 = .ok (.istore_n 2, 1) := by decide +kernel
theorem dX7_putNumber_4 : decode cX7_putNumber 4 = .ok (.iload_n 2, 1) := by decide +kernel
theorem dX7_putNumber_5 : decode cX7_putNumber 5 = .ok (.ifCond .le 34, 3) := by decide +kernel
theorem dX7_putNumber_8 : decode cX7_putNumber 8 = .ok (.iload_n 1, 1) := by decide +kernel
theorem dX7_putNumber_9 : decode cX7_putNumber 9 = .ok (.iload_n 2, 1) := by decide +kernel
theorem dX7_putNumber_10 : decode cX7_putNumber 10 = .ok (.if_icmp .ge 8, 3) := by decide +kernel
theorem dX7_putNumber_13 : decode cX7_putNumber 13 = .ok (.iload_n 2, 1) := by decide +kernel
theorem dX7_putNumber_14 : decode cX7_putNumber 14 = .ok (.iconst 1, 1) := by decide +kernel
theorem dX7_putNumber_15 : decode cX7_putNumber 15 = .ok (.if_icmp .ne 16, 3) := by decide +kernel
theorem dX7_putNumber_18 : decode cX7_putNumber 18 = .ok (.aload_n 0, 1) := by decide +kernel
theorem dX7_putNumber_19 : decode cX7_putNumber 19 = .ok (.bipush 48, 2) := by decide +kernel
theorem dX7_putNumber_21 : decode cX7_putNumber 21 = .ok (.iload_n 1, 1) := by decide +kernel
theorem dX7_putNumber_22 : decode cX7_putNumber 22 = .ok (.iload_n 2, 1) := by decide +kernel
theorem dX7_putNumber_23 : decode cX7_putNumber 23 = .ok (.idiv, 1) := by decide +kernel
theorem dX7_putNumber_24 : decode cX7_putNumber 24 = .ok (.bipush 10, 2) := by decide +kernel
theorem dX7_putNumber_26 : decode cX7_putNumber 26 = .ok (.irem, 1) := by decide +kernel
theorem dX7_putNumber_27 : decode cX7_putNumber 27 = .ok (.iadd, 1) := by decide +kernel
theorem dX7_putNumber_28 : decode cX7_putNumber 28 = .ok (.invokevirtual 28, 3) := by decide +kernel
theorem dX7_putNumber_31 : decode cX7_putNumber 31 = .ok (.iload_n 2, 1) := by decide +kernel
theorem dX7_putNumber_32 : decode cX7_putNumber 32 = .ok (.bipush 10, 2) := by decide +kernel
theorem dX7_putNumber_34 : decode cX7_putNumber 34 = .ok (.idiv, 1) := by decide +kernel
theorem dX7_putNumber_35 : decode cX7_putNumber 35 = .ok (.istore_n 2, 1) := by decide +kernel
theorem dX7_putNumber_36 : decode cX7_putNumber 36 = .ok (.goto (-32), 3) := by decide +kernel
theorem dX7_putNumber_39 : decode cX7_putNumber 39 = .ok (.return_, 1) := by decide +kernel
theorem dX7_putTenths_0 : decode cX7_putTenths 0 = .ok (.aload_n 0, 1) := by decide +kernel
theorem dX7_putTenths_1 : decode cX7_putTenths 1 = .ok (.iload_n 1, 1) := by decide +kernel
theorem dX7_putTenths_2 : decode cX7_putTenths 2 = .ok (.bipush 10, 2) := by decide +kernel
theorem dX7_putTenths_4 : decode cX7_putTenths 4 = .ok (.idiv, 1) := by decide +kernel
theorem dX7_putTenths_5 : decode cX7_putTenths 5 = .ok (.invokevirtual 32, 3) := by decide +kernel
theorem dX7_putTenths_8 : decode cX7_putTenths 8 = .ok (.aload_n 0, 1) := by decide +kernel
theorem dX7_putTenths_9 : decode cX7_putTenths 9 = .ok (.bipush 46, 2) := by decide +kernel
theorem dX7_putTenths_11 : decode cX7_putTenths 11 = .ok (.invokevirtual 28, 3) := by decide +kernel
theorem dX7_putTenths_14 : decode cX7_putTenths 14 = .ok (.aload_n 0, 1) := by decide +kernel
theorem dX7_putTenths_15 : decode cX7_putTenths 15 = .ok (.bipush 48, 2) := by decide +kernel
theorem dX7_putTenths_17 : decode cX7_putTenths 17 = .ok (.iload_n 1, 1) := by decide +kernel
theorem dX7_putTenths_18 : decode cX7_putTenths 18 = .ok (.bipush 10, 2) := by decide +kernel
theorem dX7_putTenths_20 : decode cX7_putTenths 20 = .ok (.irem, 1) := by decide +kernel
theorem dX7_putTenths_21 : decode cX7_putTenths 21 = .ok (.iadd, 1) := by decide +kernel
theorem dX7_putTenths_22 : decode cX7_putTenths 22 = .ok (.invokevirtual 28, 3) := by decide +kernel
theorem dX7_putTenths_25 : decode cX7_putTenths 25 = .ok (.return_, 1) := by decide +kernel
theorem dX7_putByte_0 : decode cX7_putByte 0 = .ok (.aload_n 0, 1) := by decide +kernel
theorem dX7_putByte_1 : decode cX7_putByte 1 = .ok (.getfield 15, 3) := by decide +kernel
theorem dX7_putByte_4 : decode cX7_putByte 4 = .ok (.aload_n 0, 1) := by decide +kernel
theorem dX7_putByte_5 : decode cX7_putByte 5 = .ok (.getfield 11, 3) := by decide +kernel
theorem dX7_putByte_8 : decode cX7_putByte 8 = .ok (.arraylength, 1) := by decide +kernel
theorem dX7_putByte_9 : decode cX7_putByte 9 = .ok (.if_icmp .ge 24, 3) := by decide +kernel
theorem dX7_putByte_12 : decode cX7_putByte 12 = .ok (.aload_n 0, 1) := by decide +kernel
theorem dX7_putByte_13 : decode cX7_putByte 13 = .ok (.getfield 11, 3) := by decide +kernel
theorem dX7_putByte_16 : decode cX7_putByte 16 = .ok (.aload_n 0, 1) := by decide +kernel
theorem dX7_putByte_17 : decode cX7_putByte 17 = .ok (.getfield 15, 3) := by decide +kernel
theorem dX7_putByte_20 : decode cX7_putByte 20 = .ok (.iload_n 1, 1) := by decide +kernel
theorem dX7_putByte_21 : decode cX7_putByte 21 = .ok (.i2b, 1) := by decide +kernel
theorem dX7_putByte_22 : decode cX7_putByte 22 = .ok (.bastore, 1) := by decide +kernel
theorem dX7_putByte_23 : decode cX7_putByte 23 = .ok (.aload_n 0, 1) := by decide +kernel
theorem dX7_putByte_24 : decode cX7_putByte 24 = .ok (.dup, 1) := by decide +kernel
theorem dX7_putByte_25 : decode cX7_putByte 25 = .ok (.getfield 15, 3) := by decide +kernel
theorem dX7_putByte_28 : decode cX7_putByte 28 = .ok (.iconst 1, 1) := by decide +kernel
theorem dX7_putByte_29 : decode cX7_putByte 29 = .ok (.iadd, 1) := by decide +kernel
theorem dX7_putByte_30 : decode cX7_putByte 30 = .ok (.putfield 15, 3) := by decide +kernel
theorem dX7_putByte_33 : decode cX7_putByte 33 = .ok (.return_, 1) := by decide +kernel
theorem dX8_init_0 : decode cX8_init 0 = .ok (.aload_n 0, 1) := by decide +kernel
theorem dX8_init_1 : decode cX8_init 1 = .ok (.invokespecial 3, 3) := by decide +kernel
theorem dX8_init_4 : decode cX8_init 4 = .ok (.aload_n 0, 1) := by decide +kernel
theorem dX8_init_5 : decode cX8_init 5 = .ok (.bipush 6, 2) := by decide +kernel
theorem dX8_init_7 : decode cX8_init 7 = .ok (.newarray .int, 2) := by decide +kernel
theorem dX8_init_9 : decode cX8_init 9 = .ok (.putfield 9, 3) := by decide +kernel
theorem dX8_init_12 : decode cX8_init 12 = .ok (.aload_n 0, 1) := by decide +kernel
theorem dX8_init_13 : decode cX8_init 13 = .ok (.bipush 6, 2) := by decide +kernel
theorem dX8_init_15 : decode cX8_init 15 = .ok (.newarray .int, 2) := by decide +kernel
theorem dX8_init_17 : decode cX8_init 17 = .ok (.putfield 15, 3) := by decide +kernel
theorem dX8_init_20 : decode cX8_init 20 = .ok (.return_, 1) := by decide +kernel
theorem dX8_addOne_0 : decode cX8_addOne 0 = .ok (.aload_n 0, 1) := by decide +kernel
theorem dX8_addOne_1 : decode cX8_addOne 1 = .ok (.getfield 9, 3) := by decide +kernel
theorem dX8_addOne_4 : decode cX8_addOne 4 = .ok (.aload_n 0, 1) := by decide +kernel
theorem dX8_addOne_5 : decode cX8_addOne 5 = .ok (.getfield 18, 3) := by decide +kernel
theorem dX8_addOne_8 : decode cX8_addOne 8 = .ok (.iload_n 1, 1) := by decide +kernel
theorem dX8_addOne_9 : decode cX8_addOne 9 = .ok (.iastore, 1) := by decide +kernel
theorem dX8_addOne_10 : decode cX8_addOne 10 = .ok (.aload_n 0, 1) := by decide +kernel
theorem dX8_addOne_11 : decode cX8_addOne 11 = .ok (.getfield 15, 3) := by decide +kernel
theorem dX8_addOne_14 : decode cX8_addOne 14 = .ok (.aload_n 0, 1) := by decide +kernel
theorem dX8_addOne_15 : decode cX8_addOne 15 = .ok (.getfield 18, 3) := by decide +kernel
theorem dX8_addOne_18 : decode cX8_addOne 18 = .ok (.iload_n 2, 1) := by decide +kernel
theorem dX8_addOne_19 : decode cX8_addOne 19 = .ok (.iastore, 1) := by decide +kernel
theorem dX8_addOne_20 : decode cX8_addOne 20 = .ok (.aload_n 0, 1) := by decide +kernel
theorem dX8_addOne_21 : decode cX8_addOne 21 = .ok (.dup, 1) := by decide +kernel
theorem dX8_addOne_22 : decode cX8_addOne 22 = .ok (.getfield 18, 3) := by decide +kernel
theorem dX8_addOne_25 : decode cX8_addOne 25 = .ok (.iconst 1, 1) := by decide +kernel
theorem dX8_addOne_26 : decode cX8_addOne 26 = .ok (.iadd, 1) := by decide +kernel
theorem dX8_addOne_27 : decode cX8_addOne 27 = .ok (.putfield 18, 3) := by decide +kernel
theorem dX8_addOne_30 : decode cX8_addOne 30 = .ok (.return_, 1) := by decide +kernel
theorem dX8_isAboveLatest_0 : decode cX8_isAboveLatest 0 = .ok (.aload_n 0, 1) := by decide +kernel
theorem dX8_isAboveLatest_1 : decode cX8_isAboveLatest 1 = .ok (.getfield 18, 3) := by decide +kernel
theorem dX8_isAboveLatest_4 : decode cX8_isAboveLatest 4 = .ok (.ifCond .eq 33, 3) := by decide +kernel
theorem dX8_isAboveLatest_7 : decode cX8_isAboveLatest 7 = .ok (.iload_n 1, 1) := by decide +kernel
theorem dX8_isAboveLatest_8 : decode cX8_isAboveLatest 8 = .ok (.aload_n 0, 1) := by decide +kernel
theorem dX8_isAboveLatest_9 : decode cX8_isAboveLatest 9 = .ok (.getfield 9, 3) := by decide +kernel
theorem dX8_isAboveLatest_12 : decode cX8_isAboveLatest 12 = .ok (.aload_n 0, 1) := by decide +kernel
theorem dX8_isAboveLatest_13 : decode cX8_isAboveLatest 13 = .ok (.getfield 18, 3) := by decide +kernel
theorem dX8_isAboveLatest_16 : decode cX8_isAboveLatest 16 = .ok (.iconst 1, 1) := by decide +kernel
theorem dX8_isAboveLatest_17 : decode cX8_isAboveLatest 17 = .ok (.isub, 1) := by decide +kernel
theorem dX8_isAboveLatest_18 : decode cX8_isAboveLatest 18 = .ok (.iaload, 1) := by decide +kernel
theorem dX8_isAboveLatest_19 : decode cX8_isAboveLatest 19 = .ok (.if_icmp .le 22, 3) := by decide +kernel
theorem dX8_isAboveLatest_22 : decode cX8_isAboveLatest 22 = .ok (.iload_n 2, 1) := by decide +kernel
theorem dX8_isAboveLatest_23 : decode cX8_isAboveLatest 23 = .ok (.aload_n 0, 1) := by decide +kernel
theorem dX8_isAboveLatest_24 : decode cX8_isAboveLatest 24 = .ok (.getfield 15, 3) := by decide +kernel
theorem dX8_isAboveLatest_27 : decode cX8_isAboveLatest 27 = .ok (.aload_n 0, 1) := by decide +kernel
theorem dX8_isAboveLatest_28 : decode cX8_isAboveLatest 28 = .ok (.getfield 18, 3) := by decide +kernel
theorem dX8_isAboveLatest_31 : decode cX8_isAboveLatest 31 = .ok (.iconst 1, 1) := by decide +kernel
theorem dX8_isAboveLatest_32 : decode cX8_isAboveLatest 32 = .ok (.isub, 1) := by decide +kernel
theorem dX8_isAboveLatest_33 : decode cX8_isAboveLatest 33 = .ok (.iaload, 1) := by decide +kernel
theorem dX8_isAboveLatest_34 : decode cX8_isAboveLatest 34 = .ok (.if_icmp .le 7, 3) := by decide +kernel
theorem dX8_isAboveLatest_37 : decode cX8_isAboveLatest 37 = .ok (.iconst 1, 1) := by decide +kernel
theorem dX8_isAboveLatest_38 : decode cX8_isAboveLatest 38 = .ok (.goto 4, 3) := by decide +kernel
theorem dX8_isAboveLatest_41 : decode cX8_isAboveLatest 41 = .ok (.iconst 0, 1) := by decide +kernel
theorem dX8_isAboveLatest_42 : decode cX8_isAboveLatest 42 = .ok (.ireturn, 1) := by decide +kernel
theorem dX8_allowedOf_0 : decode cX8_allowedOf 0 = .ok (.iconst 0, 1) := by decide +kernel
theorem dX8_allowedOf_1 : decode cX8_allowedOf 1 = .ok (.istore_n 2, 1) := by decide +kernel
theorem dX8_allowedOf_2 : decode cX8_allowedOf 2 = .ok (.iconst 0, 1) := by decide +kernel
theorem dX8_allowedOf_3 : decode cX8_allowedOf 3 = .ok (.istore_n 3, 1) := by decide +kernel
theorem dX8_allowedOf_4 : decode cX8_allowedOf 4 = .ok (.iload_n 3, 1) := by decide +kernel
theorem dX8_allowedOf_5 : decode cX8_allowedOf 5 = .ok (.aload_n 0, 1) := by decide +kernel
theorem dX8_allowedOf_6 : decode cX8_allowedOf 6 = .ok (.getfield 18, 3) := by decide +kernel
theorem dX8_allowedOf_9 : decode cX8_allowedOf 9 = .ok (.if_icmp .ge 26, 3) := by decide +kernel
theorem dX8_allowedOf_12 : decode cX8_allowedOf 12 = .ok (.aload_n 0, 1) := by decide +kernel
theorem dX8_allowedOf_13 : decode cX8_allowedOf 13 = .ok (.getfield 9, 3) := by decide +kernel
theorem dX8_allowedOf_16 : decode cX8_allowedOf 16 = .ok (.iload_n 3, 1) := by decide +kernel
theorem dX8_allowedOf_17 : decode cX8_allowedOf 17 = .ok (.iaload, 1) := by decide +kernel
theorem dX8_allowedOf_18 : decode cX8_allowedOf 18 = .ok (.iload_n 1, 1) := by decide +kernel
theorem dX8_allowedOf_19 : decode cX8_allowedOf 19 = .ok (.if_icmp .gt 10, 3) := by decide +kernel
theorem dX8_allowedOf_22 : decode cX8_allowedOf 22 = .ok (.aload_n 0, 1) := by decide +kernel
theorem dX8_allowedOf_23 : decode cX8_allowedOf 23 = .ok (.getfield 15, 3) := by decide +kernel
theorem dX8_allowedOf_26 : decode cX8_allowedOf 26 = .ok (.iload_n 3, 1) := by decide +kernel
theorem dX8_allowedOf_27 : decode cX8_allowedOf 27 = .ok (.iaload, 1) := by decide +kernel
theorem dX8_allowedOf_28 : decode cX8_allowedOf 28 = .ok (.istore_n 2, 1) := by decide +kernel
theorem dX8_allowedOf_29 : decode cX8_allowedOf 29 = .ok (.iinc 3 1, 3) := by decide +kernel
theorem dX8_allowedOf_32 : decode cX8_allowedOf 32 = .ok (.goto (-28), 3) := by decide +kernel
theorem dX8_allowedOf_35 : decode cX8_allowedOf 35 = .ok (.iload_n 2, 1) := by decide +kernel
theorem dX8_allowedOf_36 : decode cX8_allowedOf 36 = .ok (.ireturn, 1) := by decide +kernel
theorem dX9_init_0 : decode cX9_init 0 = .ok (.aload_n 0, 1) := by decide +kernel
theorem dX9_init_1 : decode cX9_init 1 = .ok (.invokespecial 3, 3) := by decide +kernel
theorem dX9_init_4 : decode cX9_init 4 = .ok (.aload_n 0, 1) := by decide +kernel
theorem dX9_init_5 : decode cX9_init 5 = .ok (.new 9, 3) := by decide +kernel
theorem dX9_init_8 : decode cX9_init 8 = .ok (.dup, 1) := by decide +kernel
theorem dX9_init_9 : decode cX9_init 9 = .ok (.invokespecial 11, 3) := by decide +kernel
theorem dX9_init_12 : decode cX9_init 12 = .ok (.putfield 12, 3) := by decide +kernel
theorem dX9_init_15 : decode cX9_init 15 = .ok (.aload_n 0, 1) := by decide +kernel
theorem dX9_init_16 : decode cX9_init 16 = .ok (.new 16, 3) := by decide +kernel
theorem dX9_init_19 : decode cX9_init 19 = .ok (.dup, 1) := by decide +kernel
theorem dX9_init_20 : decode cX9_init 20 = .ok (.invokespecial 18, 3) := by decide +kernel
theorem dX9_init_23 : decode cX9_init 23 = .ok (.putfield 19, 3) := by decide +kernel
theorem dX9_init_26 : decode cX9_init 26 = .ok (.aload_n 0, 1) := by decide +kernel
theorem dX9_init_27 : decode cX9_init 27 = .ok (.new 23, 3) := by decide +kernel
theorem dX9_init_30 : decode cX9_init 30 = .ok (.dup, 1) := by decide +kernel
theorem dX9_init_31 : decode cX9_init 31 = .ok (.invokespecial 25, 3) := by decide +kernel
theorem dX9_init_34 : decode cX9_init 34 = .ok (.putfield 26, 3) := by decide +kernel
theorem dX9_init_37 : decode cX9_init 37 = .ok (.aload_n 0, 1) := by decide +kernel
theorem dX9_init_38 : decode cX9_init 38 = .ok (.new 30, 3) := by decide +kernel
theorem dX9_init_41 : decode cX9_init 41 = .ok (.dup, 1) := by decide +kernel
theorem dX9_init_42 : decode cX9_init 42 = .ok (.invokespecial 32, 3) := by decide +kernel
theorem dX9_init_45 : decode cX9_init 45 = .ok (.putfield 33, 3) := by decide +kernel
theorem dX9_init_48 : decode cX9_init 48 = .ok (.aload_n 0, 1) := by decide +kernel
theorem dX9_init_49 : decode cX9_init 49 = .ok (.new 37, 3) := by decide +kernel
theorem dX9_init_52 : decode cX9_init 52 = .ok (.dup, 1) := by decide +kernel
theorem dX9_init_53 : decode cX9_init 53 = .ok (.invokespecial 39, 3) := by decide +kernel
theorem dX9_init_56 : decode cX9_init 56 = .ok (.putfield 40, 3) := by decide +kernel
theorem dX9_init_59 : decode cX9_init 59 = .ok (.aload_n 0, 1) := by decide +kernel
theorem dX9_init_60 : decode cX9_init 60 = .ok (.new 44, 3) := by decide +kernel
theorem dX9_init_63 : decode cX9_init 63 = .ok (.dup, 1) := by decide +kernel
theorem dX9_init_64 : decode cX9_init 64 = .ok (.aload_n 0, 1) := by decide +kernel
theorem dX9_init_65 : decode cX9_init 65 = .ok (.getfield 12, 3) := by decide +kernel
theorem dX9_init_68 : decode cX9_init 68 = .ok (.aload_n 0, 1) := by decide +kernel
theorem dX9_init_69 : decode cX9_init 69 = .ok (.getfield 19, 3) := by decide +kernel
theorem dX9_init_72 : decode cX9_init 72 = .ok (.aload_n 0, 1) := by decide +kernel
theorem dX9_init_73 : decode cX9_init 73 = .ok (.getfield 26, 3) := by decide +kernel
theorem dX9_init_76 : decode cX9_init 76 = .ok (.aload_n 0, 1) := by decide +kernel
theorem dX9_init_77 : decode cX9_init 77 = .ok (.getfield 33, 3) := by decide +kernel
theorem dX9_init_80 : decode cX9_init 80 = .ok (.invokespecial 46, 3) := by decide +kernel
theorem dX9_init_83 : decode cX9_init 83 = .ok (.putfield 49, 3) := by decide +kernel
theorem dX9_init_86 : decode cX9_init 86 = .ok (.aload_n 0, 1) := by decide +kernel
theorem dX9_init_87 : decode cX9_init 87 = .ok (.new 53, 3) := by decide +kernel
theorem dX9_init_90 : decode cX9_init 90 = .ok (.dup, 1) := by decide +kernel
theorem dX9_init_91 : decode cX9_init 91 = .ok (.aload_n 0, 1) := by decide +kernel
theorem dX9_init_92 : decode cX9_init 92 = .ok (.getfield 12, 3) := by decide +kernel
theorem dX9_init_95 : decode cX9_init 95 = .ok (.aload_n 0, 1) := by decide +kernel
theorem dX9_init_96 : decode cX9_init 96 = .ok (.getfield 19, 3) := by decide +kernel
theorem dX9_init_99 : decode cX9_init 99 = .ok (.aload_n 0, 1) := by decide +kernel
theorem dX9_init_100 : decode cX9_init 100 = .ok (.getfield 40, 3) := by decide +kernel
theorem dX9_init_103 : decode cX9_init 103 = .ok (.aload_n 0, 1) := by decide +kernel
theorem dX9_init_104 : decode cX9_init 104 = .ok (.getfield 49, 3) := by decide +kernel
theorem dX9_init_107 : decode cX9_init 107 = .ok (.invokespecial 55, 3) := by decide +kernel
theorem dX9_init_110 : decode cX9_init 110 = .ok (.putfield 58, 3) := by decide +kernel
theorem dX9_init_113 : decode cX9_init 113 = .ok (.aload_n 0, 1) := by decide +kernel
theorem dX9_init_114 : decode cX9_init 114 = .ok (.new 62, 3) := by decide +kernel
theorem dX9_init_117 : decode cX9_init 117 = .ok (.dup, 1) := by decide +kernel
theorem dX9_init_118 : decode cX9_init 118 = .ok (.aload_n 0, 1) := by decide +kernel
theorem dX9_init_119 : decode cX9_init 119 = .ok (.getfield 12, 3) := by decide +kernel
theorem dX9_init_122 : decode cX9_init 122 = .ok (.aload_n 0, 1) := by decide +kernel
theorem dX9_init_123 : decode cX9_init 123 = .ok (.getfield 19, 3) := by decide +kernel
theorem dX9_init_126 : decode cX9_init 126 = .ok (.aload_n 0, 1) := by decide +kernel
theorem dX9_init_127 : decode cX9_init 127 = .ok (.getfield 49, 3) := by decide +kernel
theorem dX9_init_130 : decode cX9_init 130 = .ok (.aload_n 0, 1) := by decide +kernel
theorem dX9_init_131 : decode cX9_init 131 = .ok (.getfield 58, 3) := by decide +kernel
theorem dX9_init_134 : decode cX9_init 134 = .ok (.invokespecial 64, 3) := by decide +kernel
theorem dX9_init_137 : decode cX9_init 137 = .ok (.putfield 67, 3) := by decide +kernel
theorem dX9_init_140 : decode cX9_init 140 = .ok (.aload_n 0, 1) := by decide +kernel
theorem dX9_init_141 : decode cX9_init 141 = .ok (.new 71, 3) := by decide +kernel
theorem dX9_init_144 : decode cX9_init 144 = .ok (.dup, 1) := by decide +kernel
theorem dX9_init_145 : decode cX9_init 145 = .ok (.invokespecial 73, 3) := by decide +kernel
theorem dX9_init_148 : decode cX9_init 148 = .ok (.putfield 74, 3) := by decide +kernel
theorem dX9_init_151 : decode cX9_init 151 = .ok (.aload_n 0, 1) := by decide +kernel
theorem dX9_init_152 : decode cX9_init 152 = .ok (.iconst 1, 1) := by decide +kernel
theorem dX9_init_153 : decode cX9_init 153 = .ok (.putfield 78, 3) := by decide +kernel
theorem dX9_init_156 : decode cX9_init 156 = .ok (.return_, 1) := by decide +kernel
theorem dX9_boat_0 : decode cX9_boat 0 = .ok (.aload_n 0, 1) := by decide +kernel
theorem dX9_boat_1 : decode cX9_boat 1 = .ok (.getfield 12, 3) := by decide +kernel
theorem dX9_boat_4 : decode cX9_boat 4 = .ok (.getfield 82, 3) := by decide +kernel
theorem dX9_boat_7 : decode cX9_boat 7 = .ok (.ifCond .eq 13, 3) := by decide +kernel
theorem dX9_boat_10 : decode cX9_boat 10 = .ok (.new 85, 3) := by decide +kernel
theorem dX9_boat_13 : decode cX9_boat 13 = .ok (.dup, 1) := by decide +kernel
theorem dX9_boat_14 : decode cX9_boat 14 = .ok (.ldc 87, 2) := by decide +kernel
theorem dX9_boat_16 : decode cX9_boat 16 = .ok (.invokespecial 89, 3) := by decide +kernel
theorem dX9_boat_19 : decode cX9_boat 19 = .ok (.athrow, 1) := by decide +kernel
theorem dX9_boat_20 : decode cX9_boat 20 = .ok (.aload_n 0, 1) := by decide +kernel
theorem dX9_boat_21 : decode cX9_boat 21 = .ok (.getfield 12, 3) := by decide +kernel
theorem dX9_boat_24 : decode cX9_boat 24 = .ok (.getfield 92, 3) := by decide +kernel
theorem dX9_boat_27 : decode cX9_boat 27 = .ok (.bipush 40, 2) := by decide +kernel
theorem dX9_boat_29 : decode cX9_boat 29 = .ok (.if_icmp .lt 13, 3) := by decide +kernel
theorem dX9_boat_32 : decode cX9_boat 32 = .ok (.new 96, 3) := by decide +kernel
theorem dX9_boat_35 : decode cX9_boat 35 = .ok (.dup, 1) := by decide +kernel
theorem dX9_boat_36 : decode cX9_boat 36 = .ok (.ldc 98, 2) := by decide +kernel
theorem dX9_boat_38 : decode cX9_boat 38 = .ok (.invokespecial 100, 3) := by decide +kernel
theorem dX9_boat_41 : decode cX9_boat 41 = .ok (.athrow, 1) := by decide +kernel
theorem dX9_boat_42 : decode cX9_boat 42 = .ok (.aload_n 0, 1) := by decide +kernel
theorem dX9_boat_43 : decode cX9_boat 43 = .ok (.iconst 1, 1) := by decide +kernel
theorem dX9_boat_44 : decode cX9_boat 44 = .ok (.putfield 78, 3) := by decide +kernel
theorem dX9_boat_47 : decode cX9_boat 47 = .ok (.aload_n 0, 1) := by decide +kernel
theorem dX9_boat_48 : decode cX9_boat 48 = .ok (.getfield 12, 3) := by decide +kernel
theorem dX9_boat_51 : decode cX9_boat 51 = .ok (.invokevirtual 101, 3) := by decide +kernel
theorem dX9_boat_54 : decode cX9_boat 54 = .ok (.ireturn, 1) := by decide +kernel
theorem dX9_race_0 : decode cX9_race 0 = .ok (.iload_n 1, 1) := by decide +kernel
theorem dX9_race_1 : decode cX9_race 1 = .ok (.ifCond .lt 17, 3) := by decide +kernel
theorem dX9_race_4 : decode cX9_race 4 = .ok (.iload_n 1, 1) := by decide +kernel
theorem dX9_race_5 : decode cX9_race 5 = .ok (.iconst 2, 1) := by decide +kernel
theorem dX9_race_6 : decode cX9_race 6 = .ok (.if_icmp .gt 12, 3) := by decide +kernel
theorem dX9_race_9 : decode cX9_race 9 = .ok (.iload_n 2, 1) := by decide +kernel
theorem dX9_race_10 : decode cX9_race 10 = .ok (.ifCond .lt 8, 3) := by decide +kernel
theorem dX9_race_13 : decode cX9_race 13 = .ok (.iload_n 2, 1) := by decide +kernel
theorem dX9_race_14 : decode cX9_race 14 = .ok (.iconst 3, 1) := by decide +kernel
theorem dX9_race_15 : decode cX9_race 15 = .ok (.if_icmp .le 13, 3) := by decide +kernel
theorem dX9_race_18 : decode cX9_race 18 = .ok (.new 105, 3) := by decide +kernel
theorem dX9_race_21 : decode cX9_race 21 = .ok (.dup, 1) := by decide +kernel
theorem dX9_race_22 : decode cX9_race 22 = .ok (.ldc 107, 2) := by decide +kernel
theorem dX9_race_24 : decode cX9_race 24 = .ok (.invokespecial 109, 3) := by decide +kernel
theorem dX9_race_27 : decode cX9_race 27 = .ok (.athrow, 1) := by decide +kernel
theorem dX9_race_28 : decode cX9_race 28 = .ok (.aload_n 0, 1) := by decide +kernel
theorem dX9_race_29 : decode cX9_race 29 = .ok (.iload_n 1, 1) := by decide +kernel
theorem dX9_race_30 : decode cX9_race 30 = .ok (.iload_n 2, 1) := by decide +kernel
theorem dX9_race_31 : decode cX9_race 31 = .ok (.invokevirtual 110, 3) := by decide +kernel
theorem dX9_race_34 : decode cX9_race 34 = .ok (.ifCond .ne 13, 3) := by decide +kernel
theorem dX9_race_37 : decode cX9_race 37 = .ok (.new 85, 3) := by decide +kernel
theorem dX9_race_40 : decode cX9_race 40 = .ok (.dup, 1) := by decide +kernel
theorem dX9_race_41 : decode cX9_race 41 = .ok (.ldc 114, 2) := by decide +kernel
theorem dX9_race_43 : decode cX9_race 43 = .ok (.invokespecial 89, 3) := by decide +kernel
theorem dX9_race_46 : decode cX9_race 46 = .ok (.athrow, 1) := by decide +kernel
theorem dX9_race_47 : decode cX9_race 47 = .ok (.aload_n 0, 1) := by decide +kernel
theorem dX9_race_48 : decode cX9_race 48 = .ok (.getfield 19, 3) := by decide +kernel
theorem dX9_race_51 : decode cX9_race 51 = .ok (.getfield 116, 3) := by decide +kernel
theorem dX9_race_54 : decode cX9_race 54 = .ok (.bipush 16, 2) := by decide +kernel
theorem dX9_race_56 : decode cX9_race 56 = .ok (.if_icmp .lt 13, 3) := by decide +kernel
theorem dX9_race_59 : decode cX9_race 59 = .ok (.new 96, 3) := by decide +kernel
theorem dX9_race_62 : decode cX9_race 62 = .ok (.dup, 1) := by decide +kernel
theorem dX9_race_63 : decode cX9_race 63 = .ok (.ldc 117, 2) := by decide +kernel
theorem dX9_race_65 : decode cX9_race 65 = .ok (.invokespecial 100, 3) := by decide +kernel
theorem dX9_race_68 : decode cX9_race 68 = .ok (.athrow, 1) := by decide +kernel
theorem dX9_race_69 : decode cX9_race 69 = .ok (.aload_n 0, 1) := by decide +kernel
theorem dX9_race_70 : decode cX9_race 70 = .ok (.iconst 1, 1) := by decide +kernel
theorem dX9_race_71 : decode cX9_race 71 = .ok (.putfield 78, 3) := by decide +kernel
theorem dX9_race_74 : decode cX9_race 74 = .ok (.aload_n 0, 1) := by decide +kernel
theorem dX9_race_75 : decode cX9_race 75 = .ok (.getfield 19, 3) := by decide +kernel
theorem dX9_race_78 : decode cX9_race 78 = .ok (.iload_n 1, 1) := by decide +kernel
theorem dX9_race_79 : decode cX9_race 79 = .ok (.iload_n 2, 1) := by decide +kernel
theorem dX9_race_80 : decode cX9_race 80 = .ok (.invokevirtual 119, 3) := by decide +kernel
theorem dX9_race_83 : decode cX9_race 83 = .ok (.ireturn, 1) := by decide +kernel
theorem dX9_abandon_0 : decode cX9_abandon 0 = .ok (.aload_n 0, 1) := by decide +kernel
theorem dX9_abandon_1 : decode cX9_abandon 1 = .ok (.iload_n 1, 1) := by decide +kernel
theorem dX9_abandon_2 : decode cX9_abandon 2 = .ok (.invokevirtual 122, 3) := by decide +kernel
theorem dX9_abandon_5 : decode cX9_abandon 5 = .ok (.aload_n 0, 1) := by decide +kernel
theorem dX9_abandon_6 : decode cX9_abandon 6 = .ok (.getfield 19, 3) := by decide +kernel
theorem dX9_abandon_9 : decode cX9_abandon 9 = .ok (.getfield 126, 3) := by decide +kernel
theorem dX9_abandon_12 : decode cX9_abandon 12 = .ok (.iload_n 1, 1) := by decide +kernel
theorem dX9_abandon_13 : decode cX9_abandon 13 = .ok (.baload, 1) := by decide +kernel
theorem dX9_abandon_14 : decode cX9_abandon 14 = .ok (.istore_n 3, 1) := by decide +kernel
theorem dX9_abandon_15 : decode cX9_abandon 15 = .ok (.aload_n 0, 1) := by decide +kernel
theorem dX9_abandon_16 : decode cX9_abandon 16 = .ok (.getfield 19, 3) := by decide +kernel
theorem dX9_abandon_19 : decode cX9_abandon 19 = .ok (.getfield 126, 3) := by decide +kernel
theorem dX9_abandon_22 : decode cX9_abandon 22 = .ok (.iload_n 1, 1) := by decide +kernel
theorem dX9_abandon_23 : decode cX9_abandon 23 = .ok (.iload_n 2, 1) := by decide +kernel
theorem dX9_abandon_24 : decode cX9_abandon 24 = .ok (.bastore, 1) := by decide +kernel
theorem dX9_abandon_25 : decode cX9_abandon 25 = .ok (.aload_n 0, 1) := by decide +kernel
theorem dX9_abandon_26 : decode cX9_abandon 26 = .ok (.iconst 1, 1) := by decide +kernel
theorem dX9_abandon_27 : decode cX9_abandon 27 = .ok (.putfield 78, 3) := by decide +kernel
theorem dX9_abandon_30 : decode cX9_abandon 30 = .ok (.iload_n 3, 1) := by decide +kernel
theorem dX9_abandon_31 : decode cX9_abandon 31 = .ok (.ireturn, 1) := by decide +kernel
theorem dX9_finish_0 : decode cX9_finish 0 = .ok (.aload_n 0, 1) := by decide +kernel
theorem dX9_finish_1 : decode cX9_finish 1 = .ok (.iload_n 1, 1) := by decide +kernel
theorem dX9_finish_2 : decode cX9_finish 2 = .ok (.iload_n 2, 1) := by decide +kernel
theorem dX9_finish_3 : decode cX9_finish 3 = .ok (.invokevirtual 130, 3) := by decide +kernel
theorem dX9_finish_6 : decode cX9_finish 6 = .ok (.iconst 0, 1) := by decide +kernel
theorem dX9_finish_7 : decode cX9_finish 7 = .ok (.iload_n 3, 1) := by decide +kernel
theorem dX9_finish_8 : decode cX9_finish 8 = .ok (.invokestatic 134, 3) := by decide +kernel
theorem dX9_finish_11 : decode cX9_finish 11 = .ok (.aload_n 0, 1) := by decide +kernel
theorem dX9_finish_12 : decode cX9_finish 12 = .ok (.getfield 26, 3) := by decide +kernel
theorem dX9_finish_15 : decode cX9_finish 15 = .ok (.iload_n 1, 1) := by decide +kernel
theorem dX9_finish_16 : decode cX9_finish 16 = .ok (.iload_n 2, 1) := by decide +kernel
theorem dX9_finish_17 : decode cX9_finish 17 = .ok (.invokestatic 137, 3) := by decide +kernel
theorem dX9_finish_20 : decode cX9_finish 20 = .ok (.iconst 0, 1) := by decide +kernel
theorem dX9_finish_21 : decode cX9_finish 21 = .ok (.iload_n 3, 1) := by decide +kernel
theorem dX9_finish_22 : decode cX9_finish 22 = .ok (.invokevirtual 140, 3) := by decide +kernel
theorem dX9_finish_25 : decode cX9_finish 25 = .ok (.aload_n 0, 1) := by decide +kernel
theorem dX9_finish_26 : decode cX9_finish 26 = .ok (.iconst 1, 1) := by decide +kernel
theorem dX9_finish_27 : decode cX9_finish 27 = .ok (.putfield 78, 3) := by decide +kernel
theorem dX9_finish_30 : decode cX9_finish 30 = .ok (.return_, 1) := by decide +kernel
theorem dX9_code_0 : decode cX9_code 0 = .ok (.aload_n 0, 1) := by decide +kernel
theorem dX9_code_1 : decode cX9_code 1 = .ok (.iload_n 1, 1) := by decide +kernel
theorem dX9_code_2 : decode cX9_code 2 = .ok (.iload_n 2, 1) := by decide +kernel
theorem dX9_code_3 : decode cX9_code 3 = .ok (.invokevirtual 130, 3) := by decide +kernel
theorem dX9_code_6 : decode cX9_code 6 = .ok (.iload_n 3, 1) := by decide +kernel
theorem dX9_code_7 : decode cX9_code 7 = .ok (.ifCond .ne 13, 3) := by decide +kernel
theorem dX9_code_10 : decode cX9_code 10 = .ok (.new 105, 3) := by decide +kernel
theorem dX9_code_13 : decode cX9_code 13 = .ok (.dup, 1) := by decide +kernel
theorem dX9_code_14 : decode cX9_code 14 = .ok (.ldc 144, 2) := by decide +kernel
theorem dX9_code_16 : decode cX9_code 16 = .ok (.invokespecial 109, 3) := by decide +kernel
theorem dX9_code_19 : decode cX9_code 19 = .ok (.athrow, 1) := by decide +kernel
theorem dX9_code_20 : decode cX9_code 20 = .ok (.iload_n 3, 1) := by decide +kernel
theorem dX9_code_21 : decode cX9_code 21 = .ok (.iload 4, 2) := by decide +kernel
theorem dX9_code_23 : decode cX9_code 23 = .ok (.invokestatic 134, 3) := by decide +kernel
theorem dX9_code_26 : decode cX9_code 26 = .ok (.aload_n 0, 1) := by decide +kernel
theorem dX9_code_27 : decode cX9_code 27 = .ok (.getfield 26, 3) := by decide +kernel
theorem dX9_code_30 : decode cX9_code 30 = .ok (.iload_n 1, 1) := by decide +kernel
theorem dX9_code_31 : decode cX9_code 31 = .ok (.iload_n 2, 1) := by decide +kernel
theorem dX9_code_32 : decode cX9_code 32 = .ok (.invokestatic 137, 3) := by decide +kernel
theorem dX9_code_35 : decode cX9_code 35 = .ok (.iload_n 3, 1) := by decide +kernel
theorem dX9_code_36 : decode cX9_code 36 = .ok (.iload 4, 2) := by decide +kernel
theorem dX9_code_38 : decode cX9_code 38 = .ok (.invokevirtual 140, 3) := by decide +kernel
theorem dX9_code_41 : decode cX9_code 41 = .ok (.aload_n 0, 1) := by decide +kernel
theorem dX9_code_42 : decode cX9_code 42 = .ok (.iconst 1, 1) := by decide +kernel
theorem dX9_code_43 : decode cX9_code 43 = .ok (.putfield 78, 3) := by decide +kernel
theorem dX9_code_46 : decode cX9_code 46 = .ok (.return_, 1) := by decide +kernel
theorem dX9_penalty_0 : decode cX9_penalty 0 = .ok (.aload_n 0, 1) := by decide +kernel
theorem dX9_penalty_1 : decode cX9_penalty 1 = .ok (.iload_n 1, 1) := by decide +kernel
theorem dX9_penalty_2 : decode cX9_penalty 2 = .ok (.iload_n 2, 1) := by decide +kernel
theorem dX9_penalty_3 : decode cX9_penalty 3 = .ok (.invokevirtual 146, 3) := by decide +kernel
theorem dX9_penalty_6 : decode cX9_penalty 6 = .ok (.aload_n 0, 1) := by decide +kernel
theorem dX9_penalty_7 : decode cX9_penalty 7 = .ok (.getfield 26, 3) := by decide +kernel
theorem dX9_penalty_10 : decode cX9_penalty 10 = .ok (.getfield 149, 3) := by decide +kernel
theorem dX9_penalty_13 : decode cX9_penalty 13 = .ok (.iload_n 1, 1) := by decide +kernel
theorem dX9_penalty_14 : decode cX9_penalty 14 = .ok (.iload_n 2, 1) := by decide +kernel
theorem dX9_penalty_15 : decode cX9_penalty 15 = .ok (.invokestatic 137, 3) := by decide +kernel
theorem dX9_penalty_18 : decode cX9_penalty 18 = .ok (.iaload, 1) := by decide +kernel
theorem dX9_penalty_19 : decode cX9_penalty 19 = .ok (.ifCond .eq 13, 3) := by decide +kernel
theorem dX9_penalty_22 : decode cX9_penalty 22 = .ok (.new 85, 3) := by decide +kernel
theorem dX9_penalty_25 : decode cX9_penalty 25 = .ok (.dup, 1) := by decide +kernel
theorem dX9_penalty_26 : decode cX9_penalty 26 = .ok (.ldc 153, 2) := by decide +kernel
theorem dX9_penalty_28 : decode cX9_penalty 28 = .ok (.invokespecial 89, 3) := by decide +kernel
theorem dX9_penalty_31 : decode cX9_penalty 31 = .ok (.athrow, 1) := by decide +kernel
theorem dX9_penalty_32 : decode cX9_penalty 32 = .ok (.iload_n 3, 1) := by decide +kernel
theorem dX9_penalty_33 : decode cX9_penalty 33 = .ok (.ifCond .lt 9, 3) := by decide +kernel
theorem dX9_penalty_36 : decode cX9_penalty 36 = .ok (.iload_n 3, 1) := by decide +kernel
theorem dX9_penalty_37 : decode cX9_penalty 37 = .ok (.bipush 100, 2) := by decide +kernel
theorem dX9_penalty_39 : decode cX9_penalty 39 = .ok (.if_icmp .le 13, 3) := by decide +kernel
theorem dX9_penalty_42 : decode cX9_penalty 42 = .ok (.new 105, 3) := by decide +kernel
theorem dX9_penalty_45 : decode cX9_penalty 45 = .ok (.dup, 1) := by decide +kernel
theorem dX9_penalty_46 : decode cX9_penalty 46 = .ok (.ldc 155, 2) := by decide +kernel
theorem dX9_penalty_48 : decode cX9_penalty 48 = .ok (.invokespecial 109, 3) := by decide +kernel
theorem dX9_penalty_51 : decode cX9_penalty 51 = .ok (.athrow, 1) := by decide +kernel
theorem dX9_penalty_52 : decode cX9_penalty 52 = .ok (.aload_n 0, 1) := by decide +kernel
theorem dX9_penalty_53 : decode cX9_penalty 53 = .ok (.getfield 26, 3) := by decide +kernel
theorem dX9_penalty_56 : decode cX9_penalty 56 = .ok (.getfield 157, 3) := by decide +kernel
theorem dX9_penalty_59 : decode cX9_penalty 59 = .ok (.iload_n 1, 1) := by decide +kernel
theorem dX9_penalty_60 : decode cX9_penalty 60 = .ok (.iload_n 2, 1) := by decide +kernel
theorem dX9_penalty_61 : decode cX9_penalty 61 = .ok (.invokestatic 137, 3) := by decide +kernel
theorem dX9_penalty_64 : decode cX9_penalty 64 = .ok (.iload_n 3, 1) := by decide +kernel
theorem dX9_penalty_65 : decode cX9_penalty 65 = .ok (.iastore, 1) := by decide +kernel
theorem dX9_penalty_66 : decode cX9_penalty 66 = .ok (.aload_n 0, 1) := by decide +kernel
theorem dX9_penalty_67 : decode cX9_penalty 67 = .ok (.iconst 1, 1) := by decide +kernel
theorem dX9_penalty_68 : decode cX9_penalty 68 = .ok (.putfield 78, 3) := by decide +kernel
theorem dX9_penalty_71 : decode cX9_penalty 71 = .ok (.return_, 1) := by decide +kernel
theorem dX9_clear_0 : decode cX9_clear 0 = .ok (.aload_n 0, 1) := by decide +kernel
theorem dX9_clear_1 : decode cX9_clear 1 = .ok (.iload_n 1, 1) := by decide +kernel
theorem dX9_clear_2 : decode cX9_clear 2 = .ok (.iload_n 2, 1) := by decide +kernel
theorem dX9_clear_3 : decode cX9_clear 3 = .ok (.invokevirtual 146, 3) := by decide +kernel
theorem dX9_clear_6 : decode cX9_clear 6 = .ok (.aload_n 0, 1) := by decide +kernel
theorem dX9_clear_7 : decode cX9_clear 7 = .ok (.getfield 26, 3) := by decide +kernel
theorem dX9_clear_10 : decode cX9_clear 10 = .ok (.iload_n 1, 1) := by decide +kernel
theorem dX9_clear_11 : decode cX9_clear 11 = .ok (.iload_n 2, 1) := by decide +kernel
theorem dX9_clear_12 : decode cX9_clear 12 = .ok (.invokestatic 137, 3) := by decide +kernel
theorem dX9_clear_15 : decode cX9_clear 15 = .ok (.invokevirtual 160, 3) := by decide +kernel
theorem dX9_clear_18 : decode cX9_clear 18 = .ok (.istore_n 3, 1) := by decide +kernel
theorem dX9_clear_19 : decode cX9_clear 19 = .ok (.aload_n 0, 1) := by decide +kernel
theorem dX9_clear_20 : decode cX9_clear 20 = .ok (.getfield 26, 3) := by decide +kernel
theorem dX9_clear_23 : decode cX9_clear 23 = .ok (.iload_n 1, 1) := by decide +kernel
theorem dX9_clear_24 : decode cX9_clear 24 = .ok (.iload_n 2, 1) := by decide +kernel
theorem dX9_clear_25 : decode cX9_clear 25 = .ok (.invokestatic 137, 3) := by decide +kernel
theorem dX9_clear_28 : decode cX9_clear 28 = .ok (.invokevirtual 164, 3) := by decide +kernel
theorem dX9_clear_31 : decode cX9_clear 31 = .ok (.aload_n 0, 1) := by decide +kernel
theorem dX9_clear_32 : decode cX9_clear 32 = .ok (.iconst 1, 1) := by decide +kernel
theorem dX9_clear_33 : decode cX9_clear 33 = .ok (.putfield 78, 3) := by decide +kernel
theorem dX9_clear_36 : decode cX9_clear 36 = .ok (.iload_n 3, 1) := by decide +kernel
theorem dX9_clear_37 : decode cX9_clear 37 = .ok (.ireturn, 1) := by decide +kernel
theorem dX9_protest_0 : decode cX9_protest 0 = .ok (.aload_n 0, 1) := by decide +kernel
theorem dX9_protest_1 : decode cX9_protest 1 = .ok (.iload_n 1, 1) := by decide +kernel
theorem dX9_protest_2 : decode cX9_protest 2 = .ok (.iload_n 2, 1) := by decide +kernel
theorem dX9_protest_3 : decode cX9_protest 3 = .ok (.invokevirtual 130, 3) := by decide +kernel
theorem dX9_protest_6 : decode cX9_protest 6 = .ok (.iload_n 3, 1) := by decide +kernel
theorem dX9_protest_7 : decode cX9_protest 7 = .ok (.iload 4, 2) := by decide +kernel
theorem dX9_protest_9 : decode cX9_protest 9 = .ok (.invokestatic 134, 3) := by decide +kernel
theorem dX9_protest_12 : decode cX9_protest 12 = .ok (.aload_n 0, 1) := by decide +kernel
theorem dX9_protest_13 : decode cX9_protest 13 = .ok (.getfield 33, 3) := by decide +kernel
theorem dX9_protest_16 : decode cX9_protest 16 = .ok (.getfield 167, 3) := by decide +kernel
theorem dX9_protest_19 : decode cX9_protest 19 = .ok (.bipush 40, 2) := by decide +kernel
theorem dX9_protest_21 : decode cX9_protest 21 = .ok (.if_icmp .lt 13, 3) := by decide +kernel
theorem dX9_protest_24 : decode cX9_protest 24 = .ok (.new 96, 3) := by decide +kernel
theorem dX9_protest_27 : decode cX9_protest 27 = .ok (.dup, 1) := by decide +kernel
theorem dX9_protest_28 : decode cX9_protest 28 = .ok (.ldc 168, 2) := by decide +kernel
theorem dX9_protest_30 : decode cX9_protest 30 = .ok (.invokespecial 100, 3) := by decide +kernel
theorem dX9_protest_33 : decode cX9_protest 33 = .ok (.athrow, 1) := by decide +kernel
theorem dX9_protest_34 : decode cX9_protest 34 = .ok (.aload_n 0, 1) := by decide +kernel
theorem dX9_protest_35 : decode cX9_protest 35 = .ok (.iconst 1, 1) := by decide +kernel
theorem dX9_protest_36 : decode cX9_protest 36 = .ok (.putfield 78, 3) := by decide +kernel
theorem dX9_protest_39 : decode cX9_protest 39 = .ok (.aload_n 0, 1) := by decide +kernel
theorem dX9_protest_40 : decode cX9_protest 40 = .ok (.getfield 33, 3) := by decide +kernel
theorem dX9_protest_43 : decode cX9_protest 43 = .ok (.iload_n 1, 1) := by decide +kernel
theorem dX9_protest_44 : decode cX9_protest 44 = .ok (.iload_n 2, 1) := by decide +kernel
theorem dX9_protest_45 : decode cX9_protest 45 = .ok (.invokestatic 137, 3) := by decide +kernel
theorem dX9_protest_48 : decode cX9_protest 48 = .ok (.iload_n 3, 1) := by decide +kernel
theorem dX9_protest_49 : decode cX9_protest 49 = .ok (.iload 4, 2) := by decide +kernel
theorem dX9_protest_51 : decode cX9_protest 51 = .ok (.invokevirtual 170, 3) := by decide +kernel
theorem dX9_protest_54 : decode cX9_protest 54 = .ok (.ireturn, 1) := by decide +kernel
theorem dX9_reopen_0 : decode cX9_reopen 0 = .ok (.iload_n 1, 1) := by decide +kernel
theorem dX9_reopen_1 : decode cX9_reopen 1 = .ok (.ifCond .lt 14, 3) := by decide +kernel
theorem dX9_reopen_4 : decode cX9_reopen 4 = .ok (.iload_n 1, 1) := by decide +kernel
theorem dX9_reopen_5 : decode cX9_reopen 5 = .ok (.aload_n 0, 1) := by decide +kernel
theorem dX9_reopen_6 : decode cX9_reopen 6 = .ok (.getfield 33, 3) := by decide +kernel
theorem dX9_reopen_9 : decode cX9_reopen 9 = .ok (.getfield 167, 3) := by decide +kernel
theorem dX9_reopen_12 : decode cX9_reopen 12 = .ok (.if_icmp .lt 13, 3) := by decide +kernel
theorem dX9_reopen_15 : decode cX9_reopen 15 = .ok (.new 173, 3) := by decide +kernel
theorem dX9_reopen_18 : decode cX9_reopen 18 = .ok (.dup, 1) := by decide +kernel
theorem dX9_reopen_19 : decode cX9_reopen 19 = .ok (.ldc 175, 2) := by decide +kernel
theorem dX9_reopen_21 : decode cX9_reopen 21 = .ok (.invokespecial 177, 3) := by decide +kernel
theorem dX9_reopen_24 : decode cX9_reopen 24 = .ok (.athrow, 1) := by decide +kernel
theorem dX9_reopen_25 : decode cX9_reopen 25 = .ok (.aload_n 0, 1) := by decide +kernel
theorem dX9_reopen_26 : decode cX9_reopen 26 = .ok (.getfield 33, 3) := by decide +kernel
theorem dX9_reopen_29 : decode cX9_reopen 29 = .ok (.getfield 178, 3) := by decide +kernel
theorem dX9_reopen_32 : decode cX9_reopen 32 = .ok (.iload_n 1, 1) := by decide +kernel
theorem dX9_reopen_33 : decode cX9_reopen 33 = .ok (.baload, 1) := by decide +kernel
theorem dX9_reopen_34 : decode cX9_reopen 34 = .ok (.ifCond .eq 13, 3) := by decide +kernel
theorem dX9_reopen_37 : decode cX9_reopen 37 = .ok (.new 85, 3) := by decide +kernel
theorem dX9_reopen_40 : decode cX9_reopen 40 = .ok (.dup, 1) := by decide +kernel
theorem dX9_reopen_41 : decode cX9_reopen 41 = .ok (.ldc 181, 2) := by decide +kernel
theorem dX9_reopen_43 : decode cX9_reopen 43 = .ok (.invokespecial 89, 3) := by decide +kernel
theorem dX9_reopen_46 : decode cX9_reopen 46 = .ok (.athrow, 1) := by decide +kernel
theorem dX9_reopen_47 : decode cX9_reopen 47 = .ok (.aload_n 0, 1) := by decide +kernel
theorem dX9_reopen_48 : decode cX9_reopen 48 = .ok (.getfield 33, 3) := by decide +kernel
theorem dX9_reopen_51 : decode cX9_reopen 51 = .ok (.getfield 178, 3) := by decide +kernel
theorem dX9_reopen_54 : decode cX9_reopen 54 = .ok (.iload_n 1, 1) := by decide +kernel
theorem dX9_reopen_55 : decode cX9_reopen 55 = .ok (.iconst 1, 1) := by decide +kernel
theorem dX9_reopen_56 : decode cX9_reopen 56 = .ok (.bastore, 1) := by decide +kernel
theorem dX9_reopen_57 : decode cX9_reopen 57 = .ok (.aload_n 0, 1) := by decide +kernel
theorem dX9_reopen_58 : decode cX9_reopen 58 = .ok (.iconst 1, 1) := by decide +kernel
theorem dX9_reopen_59 : decode cX9_reopen 59 = .ok (.putfield 78, 3) := by decide +kernel
theorem dX9_reopen_62 : decode cX9_reopen 62 = .ok (.return_, 1) := by decide +kernel
theorem dX9_discards_0 : decode cX9_discards 0 = .ok (.iload_n 1, 1) := by decide +kernel
theorem dX9_discards_1 : decode cX9_discards 1 = .ok (.iconst 1, 1) := by decide +kernel
theorem dX9_discards_2 : decode cX9_discards 2 = .ok (.if_icmp .lt 20, 3) := by decide +kernel
theorem dX9_discards_5 : decode cX9_discards 5 = .ok (.iload_n 1, 1) := by decide +kernel
theorem dX9_discards_6 : decode cX9_discards 6 = .ok (.bipush 16, 2) := by decide +kernel
theorem dX9_discards_8 : decode cX9_discards 8 = .ok (.if_icmp .gt 14, 3) := by decide +kernel
theorem dX9_discards_11 : decode cX9_discards 11 = .ok (.iload_n 2, 1) := by decide +kernel
theorem dX9_discards_12 : decode cX9_discards 12 = .ok (.iconst 1, 1) := by decide +kernel
theorem dX9_discards_13 : decode cX9_discards 13 = .ok (.if_icmp .lt 9, 3) := by decide +kernel
theorem dX9_discards_16 : decode cX9_discards 16 = .ok (.iload_n 2, 1) := by decide +kernel
theorem dX9_discards_17 : decode cX9_discards 17 = .ok (.bipush 15, 2) := by decide +kernel
theorem dX9_discards_19 : decode cX9_discards 19 = .ok (.if_icmp .le 13, 3) := by decide +kernel
theorem dX9_discards_22 : decode cX9_discards 22 = .ok (.new 105, 3) := by decide +kernel
theorem dX9_discards_25 : decode cX9_discards 25 = .ok (.dup, 1) := by decide +kernel
theorem dX9_discards_26 : decode cX9_discards 26 = .ok (.ldc 183, 2) := by decide +kernel
theorem dX9_discards_28 : decode cX9_discards 28 = .ok (.invokespecial 109, 3) := by decide +kernel
theorem dX9_discards_31 : decode cX9_discards 31 = .ok (.athrow, 1) := by decide +kernel
theorem dX9_discards_32 : decode cX9_discards 32 = .ok (.aload_n 0, 1) := by decide +kernel
theorem dX9_discards_33 : decode cX9_discards 33 = .ok (.getfield 40, 3) := by decide +kernel
theorem dX9_discards_36 : decode cX9_discards 36 = .ok (.iload_n 1, 1) := by decide +kernel
theorem dX9_discards_37 : decode cX9_discards 37 = .ok (.iload_n 2, 1) := by decide +kernel
theorem dX9_discards_38 : decode cX9_discards 38 = .ok (.invokevirtual 185, 3) := by decide +kernel
theorem dX9_discards_41 : decode cX9_discards 41 = .ok (.ifCond .ne 13, 3) := by decide +kernel
theorem dX9_discards_44 : decode cX9_discards 44 = .ok (.new 105, 3) := by decide +kernel
theorem dX9_discards_47 : decode cX9_discards 47 = .ok (.dup, 1) := by decide +kernel
theorem dX9_discards_48 : decode cX9_discards 48 = .ok (.ldc 188, 2) := by decide +kernel
theorem dX9_discards_50 : decode cX9_discards 50 = .ok (.invokespecial 109, 3) := by decide +kernel
theorem dX9_discards_53 : decode cX9_discards 53 = .ok (.athrow, 1) := by decide +kernel
theorem dX9_discards_54 : decode cX9_discards 54 = .ok (.aload_n 0, 1) := by decide +kernel
theorem dX9_discards_55 : decode cX9_discards 55 = .ok (.getfield 40, 3) := by decide +kernel
theorem dX9_discards_58 : decode cX9_discards 58 = .ok (.getfield 190, 3) := by decide +kernel
theorem dX9_discards_61 : decode cX9_discards 61 = .ok (.bipush 6, 2) := by decide +kernel
theorem dX9_discards_63 : decode cX9_discards 63 = .ok (.if_icmp .lt 13, 3) := by decide +kernel
theorem dX9_discards_66 : decode cX9_discards 66 = .ok (.new 96, 3) := by decide +kernel
theorem dX9_discards_69 : decode cX9_discards 69 = .ok (.dup, 1) := by decide +kernel
theorem dX9_discards_70 : decode cX9_discards 70 = .ok (.ldc 191, 2) := by decide +kernel
theorem dX9_discards_72 : decode cX9_discards 72 = .ok (.invokespecial 100, 3) := by decide +kernel
theorem dX9_discards_75 : decode cX9_discards 75 = .ok (.athrow, 1) := by decide +kernel
theorem dX9_discards_76 : decode cX9_discards 76 = .ok (.aload_n 0, 1) := by decide +kernel
theorem dX9_discards_77 : decode cX9_discards 77 = .ok (.getfield 40, 3) := by decide +kernel
theorem dX9_discards_80 : decode cX9_discards 80 = .ok (.iload_n 1, 1) := by decide +kernel
theorem dX9_discards_81 : decode cX9_discards 81 = .ok (.iload_n 2, 1) := by decide +kernel
theorem dX9_discards_82 : decode cX9_discards 82 = .ok (.invokevirtual 193, 3) := by decide +kernel
theorem dX9_discards_85 : decode cX9_discards 85 = .ok (.aload_n 0, 1) := by decide +kernel
theorem dX9_discards_86 : decode cX9_discards 86 = .ok (.iconst 1, 1) := by decide +kernel
theorem dX9_discards_87 : decode cX9_discards 87 = .ok (.putfield 78, 3) := by decide +kernel
theorem dX9_discards_90 : decode cX9_discards 90 = .ok (.return_, 1) := by decide +kernel
theorem dX9_lot_0 : decode cX9_lot 0 = .ok (.aload_n 0, 1) := by decide +kernel
theorem dX9_lot_1 : decode cX9_lot 1 = .ok (.iload_n 1, 1) := by decide +kernel
theorem dX9_lot_2 : decode cX9_lot 2 = .ok (.invokevirtual 195, 3) := by decide +kernel
theorem dX9_lot_5 : decode cX9_lot 5 = .ok (.iload_n 2, 1) := by decide +kernel
theorem dX9_lot_6 : decode cX9_lot 6 = .ok (.ifCond .lt 10, 3) := by decide +kernel
theorem dX9_lot_9 : decode cX9_lot 9 = .ok (.iload_n 2, 1) := by decide +kernel
theorem dX9_lot_10 : decode cX9_lot 10 = .ok (.sipush 999, 3) := by decide +kernel
theorem dX9_lot_13 : decode cX9_lot 13 = .ok (.if_icmp .le 13, 3) := by decide +kernel
theorem dX9_lot_16 : decode cX9_lot 16 = .ok (.new 105, 3) := by decide +kernel
theorem dX9_lot_19 : decode cX9_lot 19 = .ok (.dup, 1) := by decide +kernel
theorem dX9_lot_20 : decode cX9_lot 20 = .ok (.ldc 198, 2) := by decide +kernel
theorem dX9_lot_22 : decode cX9_lot 22 = .ok (.invokespecial 109, 3) := by decide +kernel
theorem dX9_lot_25 : decode cX9_lot 25 = .ok (.athrow, 1) := by decide +kernel
theorem dX9_lot_26 : decode cX9_lot 26 = .ok (.aload_n 0, 1) := by decide +kernel
theorem dX9_lot_27 : decode cX9_lot 27 = .ok (.getfield 12, 3) := by decide +kernel
theorem dX9_lot_30 : decode cX9_lot 30 = .ok (.getfield 200, 3) := by decide +kernel
theorem dX9_lot_33 : decode cX9_lot 33 = .ok (.iload_n 1, 1) := by decide +kernel
theorem dX9_lot_34 : decode cX9_lot 34 = .ok (.iaload, 1) := by decide +kernel
theorem dX9_lot_35 : decode cX9_lot 35 = .ok (.istore_n 3, 1) := by decide +kernel
theorem dX9_lot_36 : decode cX9_lot 36 = .ok (.aload_n 0, 1) := by decide +kernel
theorem dX9_lot_37 : decode cX9_lot 37 = .ok (.getfield 12, 3) := by decide +kernel
theorem dX9_lot_40 : decode cX9_lot 40 = .ok (.getfield 200, 3) := by decide +kernel
theorem dX9_lot_43 : decode cX9_lot 43 = .ok (.iload_n 1, 1) := by decide +kernel
theorem dX9_lot_44 : decode cX9_lot 44 = .ok (.iload_n 2, 1) := by decide +kernel
theorem dX9_lot_45 : decode cX9_lot 45 = .ok (.iastore, 1) := by decide +kernel
theorem dX9_lot_46 : decode cX9_lot 46 = .ok (.aload_n 0, 1) := by decide +kernel
theorem dX9_lot_47 : decode cX9_lot 47 = .ok (.iconst 1, 1) := by decide +kernel
theorem dX9_lot_48 : decode cX9_lot 48 = .ok (.putfield 78, 3) := by decide +kernel
theorem dX9_lot_51 : decode cX9_lot 51 = .ok (.iload_n 3, 1) := by decide +kernel
theorem dX9_lot_52 : decode cX9_lot 52 = .ok (.ireturn, 1) := by decide +kernel
theorem dX9_split_0 : decode cX9_split 0 = .ok (.aload_n 0, 1) := by decide +kernel
theorem dX9_split_1 : decode cX9_split 1 = .ok (.invokevirtual 203, 3) := by decide +kernel
theorem dX9_split_4 : decode cX9_split 4 = .ok (.aload_n 0, 1) := by decide +kernel
theorem dX9_split_5 : decode cX9_split 5 = .ok (.getfield 12, 3) := by decide +kernel
theorem dX9_split_8 : decode cX9_split 8 = .ok (.getfield 82, 3) := by decide +kernel
theorem dX9_split_11 : decode cX9_split 11 = .ok (.ifCond .ne 13, 3) := by decide +kernel
theorem dX9_split_14 : decode cX9_split 14 = .ok (.aload_n 0, 1) := by decide +kernel
theorem dX9_split_15 : decode cX9_split 15 = .ok (.getfield 49, 3) := by decide +kernel
theorem dX9_split_18 : decode cX9_split 18 = .ok (.invokevirtual 206, 3) := by decide +kernel
theorem dX9_split_21 : decode cX9_split 21 = .ok (.ifCond .ne 13, 3) := by decide +kernel
theorem dX9_split_24 : decode cX9_split 24 = .ok (.new 85, 3) := by decide +kernel
theorem dX9_split_27 : decode cX9_split 27 = .ok (.dup, 1) := by decide +kernel
theorem dX9_split_28 : decode cX9_split 28 = .ok (.ldc 210, 2) := by decide +kernel
theorem dX9_split_30 : decode cX9_split 30 = .ok (.invokespecial 89, 3) := by decide +kernel
theorem dX9_split_33 : decode cX9_split 33 = .ok (.athrow, 1) := by decide +kernel
theorem dX9_split_34 : decode cX9_split 34 = .ok (.iload_n 1, 1) := by decide +kernel
theorem dX9_split_35 : decode cX9_split 35 = .ok (.iconst 1, 1) := by decide +kernel
theorem dX9_split_36 : decode cX9_split 36 = .ok (.if_icmp .lt 32, 3) := by decide +kernel
theorem dX9_split_39 : decode cX9_split 39 = .ok (.iload_n 2, 1) := by decide +kernel
theorem dX9_split_40 : decode cX9_split 40 = .ok (.iconst 1, 1) := by decide +kernel
theorem dX9_split_41 : decode cX9_split 41 = .ok (.if_icmp .lt 27, 3) := by decide +kernel
theorem dX9_split_44 : decode cX9_split 44 = .ok (.iload_n 1, 1) := by decide +kernel
theorem dX9_split_45 : decode cX9_split 45 = .ok (.aload_n 0, 1) := by decide +kernel
theorem dX9_split_46 : decode cX9_split 46 = .ok (.getfield 12, 3) := by decide +kernel
theorem dX9_split_49 : decode cX9_split 49 = .ok (.getfield 92, 3) := by decide +kernel
theorem dX9_split_52 : decode cX9_split 52 = .ok (.if_icmp .gt 16, 3) := by decide +kernel
theorem dX9_split_55 : decode cX9_split 55 = .ok (.iload_n 2, 1) := by decide +kernel
theorem dX9_split_56 : decode cX9_split 56 = .ok (.aload_n 0, 1) := by decide +kernel
theorem dX9_split_57 : decode cX9_split 57 = .ok (.getfield 12, 3) := by decide +kernel
theorem dX9_split_60 : decode cX9_split 60 = .ok (.getfield 92, 3) := by decide +kernel
theorem dX9_split_63 : decode cX9_split 63 = .ok (.iload_n 1, 1) := by decide +kernel
theorem dX9_split_64 : decode cX9_split 64 = .ok (.isub, 1) := by decide +kernel
theorem dX9_split_65 : decode cX9_split 65 = .ok (.if_icmp .le 13, 3) := by decide +kernel
theorem dX9_split_68 : decode cX9_split 68 = .ok (.new 105, 3) := by decide +kernel
theorem dX9_split_71 : decode cX9_split 71 = .ok (.dup, 1) := by decide +kernel
theorem dX9_split_72 : decode cX9_split 72 = .ok (.ldc 212, 2) := by decide +kernel
theorem dX9_split_74 : decode cX9_split 74 = .ok (.invokespecial 109, 3) := by decide +kernel
theorem dX9_split_77 : decode cX9_split 77 = .ok (.athrow, 1) := by decide +kernel
theorem dX9_split_78 : decode cX9_split 78 = .ok (.iconst 1, 1) := by decide +kernel
theorem dX9_split_79 : decode cX9_split 79 = .ok (.istore_n 3, 1) := by decide +kernel
theorem dX9_split_80 : decode cX9_split 80 = .ok (.iload_n 3, 1) := by decide +kernel
theorem dX9_split_81 : decode cX9_split 81 = .ok (.aload_n 0, 1) := by decide +kernel
theorem dX9_split_82 : decode cX9_split 82 = .ok (.getfield 12, 3) := by decide +kernel
theorem dX9_split_85 : decode cX9_split 85 = .ok (.getfield 92, 3) := by decide +kernel
theorem dX9_split_88 : decode cX9_split 88 = .ok (.if_icmp .gt 31, 3) := by decide +kernel
theorem dX9_split_91 : decode cX9_split 91 = .ok (.aload_n 0, 1) := by decide +kernel
theorem dX9_split_92 : decode cX9_split 92 = .ok (.getfield 12, 3) := by decide +kernel
theorem dX9_split_95 : decode cX9_split 95 = .ok (.getfield 214, 3) := by decide +kernel
theorem dX9_split_98 : decode cX9_split 98 = .ok (.aload_n 0, 1) := by decide +kernel
theorem dX9_split_99 : decode cX9_split 99 = .ok (.getfield 67, 3) := by decide +kernel
theorem dX9_split_102 : decode cX9_split 102 = .ok (.iload_n 3, 1) := by decide +kernel
theorem dX9_split_103 : decode cX9_split 103 = .ok (.invokevirtual 217, 3) := by decide +kernel
theorem dX9_split_106 : decode cX9_split 106 = .ok (.iload_n 3, 1) := by decide +kernel
theorem dX9_split_107 : decode cX9_split 107 = .ok (.iload_n 1, 1) := by decide +kernel
theorem dX9_split_108 : decode cX9_split 108 = .ok (.iload_n 2, 1) := by decide +kernel
theorem dX9_split_109 : decode cX9_split 109 = .ok (.invokestatic 221, 3) := by decide +kernel
theorem dX9_split_112 : decode cX9_split 112 = .ok (.iastore, 1) := by decide +kernel
theorem dX9_split_113 : decode cX9_split 113 = .ok (.iinc 3 1, 3) := by decide +kernel
theorem dX9_split_116 : decode cX9_split 116 = .ok (.goto (-36), 3) := by decide +kernel
theorem dX9_split_119 : decode cX9_split 119 = .ok (.aload_n 0, 1) := by decide +kernel
theorem dX9_split_120 : decode cX9_split 120 = .ok (.getfield 12, 3) := by decide +kernel
theorem dX9_split_123 : decode cX9_split 123 = .ok (.iconst 1, 1) := by decide +kernel
theorem dX9_split_124 : decode cX9_split 124 = .ok (.putfield 82, 3) := by decide +kernel
theorem dX9_split_127 : decode cX9_split 127 = .ok (.aload_n 0, 1) := by decide +kernel
theorem dX9_split_128 : decode cX9_split 128 = .ok (.iconst 1, 1) := by decide +kernel
theorem dX9_split_129 : decode cX9_split 129 = .ok (.putfield 78, 3) := by decide +kernel
theorem dX9_split_132 : decode cX9_split 132 = .ok (.aload_n 0, 1) := by decide +kernel
theorem dX9_split_133 : decode cX9_split 133 = .ok (.getfield 12, 3) := by decide +kernel
theorem dX9_split_136 : decode cX9_split 136 = .ok (.getfield 92, 3) := by decide +kernel
theorem dX9_split_139 : decode cX9_split 139 = .ok (.iload_n 1, 1) := by decide +kernel
theorem dX9_split_140 : decode cX9_split 140 = .ok (.isub, 1) := by decide +kernel
theorem dX9_split_141 : decode cX9_split 141 = .ok (.iload_n 2, 1) := by decide +kernel
theorem dX9_split_142 : decode cX9_split 142 = .ok (.isub, 1) := by decide +kernel
theorem dX9_split_143 : decode cX9_split 143 = .ok (.ireturn, 1) := by decide +kernel
theorem dX9_points_0 : decode cX9_points 0 = .ok (.aload_n 0, 1) := by decide +kernel
theorem dX9_points_1 : decode cX9_points 1 = .ok (.iload_n 1, 1) := by decide +kernel
theorem dX9_points_2 : decode cX9_points 2 = .ok (.iload_n 2, 1) := by decide +kernel
theorem dX9_points_3 : decode cX9_points 3 = .ok (.invokevirtual 146, 3) := by decide +kernel
theorem dX9_points_6 : decode cX9_points 6 = .ok (.aload_n 0, 1) := by decide +kernel
theorem dX9_points_7 : decode cX9_points 7 = .ok (.invokevirtual 203, 3) := by decide +kernel
theorem dX9_points_10 : decode cX9_points 10 = .ok (.aload_n 0, 1) := by decide +kernel
theorem dX9_points_11 : decode cX9_points 11 = .ok (.getfield 49, 3) := by decide +kernel
theorem dX9_points_14 : decode cX9_points 14 = .ok (.getfield 224, 3) := by decide +kernel
theorem dX9_points_17 : decode cX9_points 17 = .ok (.iload_n 1, 1) := by decide +kernel
theorem dX9_points_18 : decode cX9_points 18 = .ok (.iload_n 2, 1) := by decide +kernel
theorem dX9_points_19 : decode cX9_points 19 = .ok (.invokestatic 137, 3) := by decide +kernel
theorem dX9_points_22 : decode cX9_points 22 = .ok (.iaload, 1) := by decide +kernel
theorem dX9_points_23 : decode cX9_points 23 = .ok (.ireturn, 1) := by decide +kernel
theorem dX9_isDiscard_0 : decode cX9_isDiscard 0 = .ok (.aload_n 0, 1) := by decide +kernel
theorem dX9_isDiscard_1 : decode cX9_isDiscard 1 = .ok (.iload_n 1, 1) := by decide +kernel
theorem dX9_isDiscard_2 : decode cX9_isDiscard 2 = .ok (.iload_n 2, 1) := by decide +kernel
theorem dX9_isDiscard_3 : decode cX9_isDiscard 3 = .ok (.invokevirtual 146, 3) := by decide +kernel
theorem dX9_isDiscard_6 : decode cX9_isDiscard 6 = .ok (.aload_n 0, 1) := by decide +kernel
theorem dX9_isDiscard_7 : decode cX9_isDiscard 7 = .ok (.invokevirtual 203, 3) := by decide +kernel
theorem dX9_isDiscard_10 : decode cX9_isDiscard 10 = .ok (.aload_n 0, 1) := by decide +kernel
theorem dX9_isDiscard_11 : decode cX9_isDiscard 11 = .ok (.getfield 58, 3) := by decide +kernel
theorem dX9_isDiscard_14 : decode cX9_isDiscard 14 = .ok (.getfield 227, 3) := by decide +kernel
theorem dX9_isDiscard_17 : decode cX9_isDiscard 17 = .ok (.iload_n 1, 1) := by decide +kernel
theorem dX9_isDiscard_18 : decode cX9_isDiscard 18 = .ok (.iload_n 2, 1) := by decide +kernel
theorem dX9_isDiscard_19 : decode cX9_isDiscard 19 = .ok (.invokestatic 137, 3) := by decide +kernel
theorem dX9_isDiscard_22 : decode cX9_isDiscard 22 = .ok (.baload, 1) := by decide +kernel
theorem dX9_isDiscard_23 : decode cX9_isDiscard 23 = .ok (.ireturn, 1) := by decide +kernel
theorem dX9_net_0 : decode cX9_net 0 = .ok (.aload_n 0, 1) := by decide +kernel
theorem dX9_net_1 : decode cX9_net 1 = .ok (.iload_n 1, 1) := by decide +kernel
theorem dX9_net_2 : decode cX9_net 2 = .ok (.invokevirtual 195, 3) := by decide +kernel
theorem dX9_net_5 : decode cX9_net 5 = .ok (.aload_n 0, 1) := by decide +kernel
theorem dX9_net_6 : decode cX9_net 6 = .ok (.invokevirtual 203, 3) := by decide +kernel
theorem dX9_net_9 : decode cX9_net 9 = .ok (.aload_n 0, 1) := by decide +kernel
theorem dX9_net_10 : decode cX9_net 10 = .ok (.getfield 58, 3) := by decide +kernel
theorem dX9_net_13 : decode cX9_net 13 = .ok (.getfield 230, 3) := by decide +kernel
theorem dX9_net_16 : decode cX9_net 16 = .ok (.iload_n 1, 1) := by decide +kernel
theorem dX9_net_17 : decode cX9_net 17 = .ok (.iaload, 1) := by decide +kernel
theorem dX9_net_18 : decode cX9_net 18 = .ok (.ireturn, 1) := by decide +kernel
theorem dX9_gross_0 : decode cX9_gross 0 = .ok (.aload_n 0, 1) := by decide +kernel
theorem dX9_gross_1 : decode cX9_gross 1 = .ok (.iload_n 1, 1) := by decide +kernel
theorem dX9_gross_2 : decode cX9_gross 2 = .ok (.invokevirtual 195, 3) := by decide +kernel
theorem dX9_gross_5 : decode cX9_gross 5 = .ok (.aload_n 0, 1) := by decide +kernel
theorem dX9_gross_6 : decode cX9_gross 6 = .ok (.invokevirtual 203, 3) := by decide +kernel
theorem dX9_gross_9 : decode cX9_gross 9 = .ok (.aload_n 0, 1) := by decide +kernel
theorem dX9_gross_10 : decode cX9_gross 10 = .ok (.getfield 58, 3) := by decide +kernel
theorem dX9_gross_13 : decode cX9_gross 13 = .ok (.getfield 233, 3) := by decide +kernel
theorem dX9_gross_16 : decode cX9_gross 16 = .ok (.iload_n 1, 1) := by decide +kernel
theorem dX9_gross_17 : decode cX9_gross 17 = .ok (.iaload, 1) := by decide +kernel
theorem dX9_gross_18 : decode cX9_gross 18 = .ok (.ireturn, 1) := by decide +kernel
theorem dX9_mean_0 : decode cX9_mean 0 = .ok (.aload_n 0, 1) := by decide +kernel
theorem dX9_mean_1 : decode cX9_mean 1 = .ok (.iload_n 1, 1) := by decide +kernel
theorem dX9_mean_2 : decode cX9_mean 2 = .ok (.invokevirtual 195, 3) := by decide +kernel
theorem dX9_mean_5 : decode cX9_mean 5 = .ok (.aload_n 0, 1) := by decide +kernel
theorem dX9_mean_6 : decode cX9_mean 6 = .ok (.invokevirtual 203, 3) := by decide +kernel
theorem dX9_mean_9 : decode cX9_mean 9 = .ok (.aload_n 0, 1) := by decide +kernel
theorem dX9_mean_10 : decode cX9_mean 10 = .ok (.getfield 58, 3) := by decide +kernel
theorem dX9_mean_13 : decode cX9_mean 13 = .ok (.getfield 236, 3) := by decide +kernel
theorem dX9_mean_16 : decode cX9_mean 16 = .ok (.iload_n 1, 1) := by decide +kernel
theorem dX9_mean_17 : decode cX9_mean 17 = .ok (.iaload, 1) := by decide +kernel
theorem dX9_mean_18 : decode cX9_mean 18 = .ok (.istore_n 2, 1) := by decide +kernel
theorem dX9_mean_19 : decode cX9_mean 19 = .ok (.iload_n 2, 1) := by decide +kernel
theorem dX9_mean_20 : decode cX9_mean 20 = .ok (.ifCond .ne 7, 3) := by decide +kernel
theorem dX9_mean_23 : decode cX9_mean 23 = .ok (.dconst 0, 1) := by decide +kernel
theorem dX9_mean_24 : decode cX9_mean 24 = .ok (.goto 19, 3) := by decide +kernel
theorem dX9_mean_27 : decode cX9_mean 27 = .ok (.aload_n 0, 1) := by decide +kernel
theorem dX9_mean_28 : decode cX9_mean 28 = .ok (.getfield 58, 3) := by decide +kernel
theorem dX9_mean_31 : decode cX9_mean 31 = .ok (.getfield 233, 3) := by decide +kernel
theorem dX9_mean_34 : decode cX9_mean 34 = .ok (.iload_n 1, 1) := by decide +kernel
theorem dX9_mean_35 : decode cX9_mean 35 = .ok (.iaload, 1) := by decide +kernel
theorem dX9_mean_36 : decode cX9_mean 36 = .ok (.i2d, 1) := by decide +kernel
theorem dX9_mean_37 : decode cX9_mean 37 = .ok (.bipush 10, 2) := by decide +kernel
theorem dX9_mean_39 : decode cX9_mean 39 = .ok (.iload_n 2, 1) := by decide +kernel
theorem dX9_mean_40 : decode cX9_mean 40 = .ok (.imul, 1) := by decide +kernel
theorem dX9_mean_41 : decode cX9_mean 41 = .ok (.i2d, 1) := by decide +kernel
theorem dX9_mean_42 : decode cX9_mean 42 = .ok (.ddiv, 1) := by decide +kernel
theorem dX9_mean_43 : decode cX9_mean 43 = .ok (.dreturn, 1) := by decide +kernel
theorem dX9_rank_0 : decode cX9_rank 0 = .ok (.aload_n 0, 1) := by decide +kernel
theorem dX9_rank_1 : decode cX9_rank 1 = .ok (.iload_n 1, 1) := by decide +kernel
theorem dX9_rank_2 : decode cX9_rank 2 = .ok (.invokevirtual 195, 3) := by decide +kernel
theorem dX9_rank_5 : decode cX9_rank 5 = .ok (.aload_n 0, 1) := by decide +kernel
theorem dX9_rank_6 : decode cX9_rank 6 = .ok (.invokevirtual 203, 3) := by decide +kernel
theorem dX9_rank_9 : decode cX9_rank 9 = .ok (.aload_n 0, 1) := by decide +kernel
theorem dX9_rank_10 : decode cX9_rank 10 = .ok (.getfield 67, 3) := by decide +kernel
theorem dX9_rank_13 : decode cX9_rank 13 = .ok (.iload_n 1, 1) := by decide +kernel
theorem dX9_rank_14 : decode cX9_rank 14 = .ok (.invokevirtual 239, 3) := by decide +kernel
theorem dX9_rank_17 : decode cX9_rank 17 = .ok (.ireturn, 1) := by decide +kernel
theorem dX9_at_0 : decode cX9_at 0 = .ok (.iload_n 1, 1) := by decide +kernel
theorem dX9_at_1 : decode cX9_at 1 = .ok (.iconst 1, 1) := by decide +kernel
theorem dX9_at_2 : decode cX9_at 2 = .ok (.if_icmp .lt 14, 3) := by decide +kernel
theorem dX9_at_5 : decode cX9_at 5 = .ok (.iload_n 1, 1) := by decide +kernel
theorem dX9_at_6 : decode cX9_at 6 = .ok (.aload_n 0, 1) := by decide +kernel
theorem dX9_at_7 : decode cX9_at 7 = .ok (.getfield 12, 3) := by decide +kernel
theorem dX9_at_10 : decode cX9_at 10 = .ok (.getfield 92, 3) := by decide +kernel
theorem dX9_at_13 : decode cX9_at 13 = .ok (.if_icmp .le 13, 3) := by decide +kernel
theorem dX9_at_16 : decode cX9_at 16 = .ok (.new 173, 3) := by decide +kernel
theorem dX9_at_19 : decode cX9_at 19 = .ok (.dup, 1) := by decide +kernel
theorem dX9_at_20 : decode cX9_at 20 = .ok (.ldc 242, 2) := by decide +kernel
theorem dX9_at_22 : decode cX9_at 22 = .ok (.invokespecial 177, 3) := by decide +kernel
theorem dX9_at_25 : decode cX9_at 25 = .ok (.athrow, 1) := by decide +kernel
theorem dX9_at_26 : decode cX9_at 26 = .ok (.aload_n 0, 1) := by decide +kernel
theorem dX9_at_27 : decode cX9_at 27 = .ok (.invokevirtual 203, 3) := by decide +kernel
theorem dX9_at_30 : decode cX9_at 30 = .ok (.aload_n 0, 1) := by decide +kernel
theorem dX9_at_31 : decode cX9_at 31 = .ok (.getfield 67, 3) := by decide +kernel
theorem dX9_at_34 : decode cX9_at 34 = .ok (.iload_n 1, 1) := by decide +kernel
theorem dX9_at_35 : decode cX9_at 35 = .ok (.invokevirtual 217, 3) := by decide +kernel
theorem dX9_at_38 : decode cX9_at 38 = .ok (.ireturn, 1) := by decide +kernel
theorem dX9_tie_0 : decode cX9_tie 0 = .ok (.aload_n 0, 1) := by decide +kernel
theorem dX9_tie_1 : decode cX9_tie 1 = .ok (.iload_n 1, 1) := by decide +kernel
theorem dX9_tie_2 : decode cX9_tie 2 = .ok (.invokevirtual 195, 3) := by decide +kernel
theorem dX9_tie_5 : decode cX9_tie 5 = .ok (.aload_n 0, 1) := by decide +kernel
theorem dX9_tie_6 : decode cX9_tie 6 = .ok (.iload_n 2, 1) := by decide +kernel
theorem dX9_tie_7 : decode cX9_tie 7 = .ok (.invokevirtual 195, 3) := by decide +kernel
theorem dX9_tie_10 : decode cX9_tie 10 = .ok (.iload_n 1, 1) := by decide +kernel
theorem dX9_tie_11 : decode cX9_tie 11 = .ok (.iload_n 2, 1) := by decide +kernel
theorem dX9_tie_12 : decode cX9_tie 12 = .ok (.if_icmp .ne 13, 3) := by decide +kernel
theorem dX9_tie_15 : decode cX9_tie 15 = .ok (.new 105, 3) := by decide +kernel
theorem dX9_tie_18 : decode cX9_tie 18 = .ok (.dup, 1) := by decide +kernel
theorem dX9_tie_19 : decode cX9_tie 19 = .ok (.ldc 244, 2) := by decide +kernel
theorem dX9_tie_21 : decode cX9_tie 21 = .ok (.invokespecial 109, 3) := by decide +kernel
theorem dX9_tie_24 : decode cX9_tie 24 = .ok (.athrow, 1) := by decide +kernel
theorem dX9_tie_25 : decode cX9_tie 25 = .ok (.aload_n 0, 1) := by decide +kernel
theorem dX9_tie_26 : decode cX9_tie 26 = .ok (.invokevirtual 203, 3) := by decide +kernel
theorem dX9_tie_29 : decode cX9_tie 29 = .ok (.aload_n 0, 1) := by decide +kernel
theorem dX9_tie_30 : decode cX9_tie 30 = .ok (.getfield 67, 3) := by decide +kernel
theorem dX9_tie_33 : decode cX9_tie 33 = .ok (.iload_n 1, 1) := by decide +kernel
theorem dX9_tie_34 : decode cX9_tie 34 = .ok (.iload_n 2, 1) := by decide +kernel
theorem dX9_tie_35 : decode cX9_tie 35 = .ok (.invokevirtual 246, 3) := by decide +kernel
theorem dX9_tie_38 : decode cX9_tie 38 = .ok (.ireturn, 1) := by decide +kernel
theorem dX9_what_0 : decode cX9_what 0 = .ok (.aload_n 0, 1) := by decide +kernel
theorem dX9_what_1 : decode cX9_what 1 = .ok (.iload_n 1, 1) := by decide +kernel
theorem dX9_what_2 : decode cX9_what 2 = .ok (.iload_n 2, 1) := by decide +kernel
theorem dX9_what_3 : decode cX9_what 3 = .ok (.invokevirtual 130, 3) := by decide +kernel
theorem dX9_what_6 : decode cX9_what 6 = .ok (.iload_n 3, 1) := by decide +kernel
theorem dX9_what_7 : decode cX9_what 7 = .ok (.iload 4, 2) := by decide +kernel
theorem dX9_what_9 : decode cX9_what 9 = .ok (.invokestatic 134, 3) := by decide +kernel
theorem dX9_what_12 : decode cX9_what 12 = .ok (.aload_n 0, 1) := by decide +kernel
theorem dX9_what_13 : decode cX9_what 13 = .ok (.getfield 33, 3) := by decide +kernel
theorem dX9_what_16 : decode cX9_what 16 = .ok (.iload_n 1, 1) := by decide +kernel
theorem dX9_what_17 : decode cX9_what 17 = .ok (.iload_n 2, 1) := by decide +kernel
theorem dX9_what_18 : decode cX9_what 18 = .ok (.invokestatic 137, 3) := by decide +kernel
theorem dX9_what_21 : decode cX9_what 21 = .ok (.iload_n 3, 1) := by decide +kernel
theorem dX9_what_22 : decode cX9_what 22 = .ok (.iload 4, 2) := by decide +kernel
theorem dX9_what_24 : decode cX9_what 24 = .ok (.invokevirtual 170, 3) := by decide +kernel
theorem dX9_what_27 : decode cX9_what 27 = .ok (.pop, 1) := by decide +kernel
theorem dX9_what_28 : decode cX9_what 28 = .ok (.aload_n 0, 1) := by decide +kernel
theorem dX9_what_29 : decode cX9_what 29 = .ok (.getfield 49, 3) := by decide +kernel
theorem dX9_what_32 : decode cX9_what 32 = .ok (.invokevirtual 249, 3) := by decide +kernel
theorem dX9_what_35 : decode cX9_what 35 = .ok (.aload_n 0, 1) := by decide +kernel
theorem dX9_what_36 : decode cX9_what 36 = .ok (.getfield 58, 3) := by decide +kernel
theorem dX9_what_39 : decode cX9_what 39 = .ok (.invokevirtual 252, 3) := by decide +kernel
theorem dX9_what_42 : decode cX9_what 42 = .ok (.aload_n 0, 1) := by decide +kernel
theorem dX9_what_43 : decode cX9_what 43 = .ok (.getfield 33, 3) := by decide +kernel
theorem dX9_what_46 : decode cX9_what 46 = .ok (.invokevirtual 253, 3) := by decide +kernel
theorem dX9_what_49 : decode cX9_what 49 = .ok (.aload_n 0, 1) := by decide +kernel
theorem dX9_what_50 : decode cX9_what 50 = .ok (.iconst 1, 1) := by decide +kernel
theorem dX9_what_51 : decode cX9_what 51 = .ok (.putfield 78, 3) := by decide +kernel
theorem dX9_what_54 : decode cX9_what 54 = .ok (.aload_n 0, 1) := by decide +kernel
theorem dX9_what_55 : decode cX9_what 55 = .ok (.getfield 58, 3) := by decide +kernel
theorem dX9_what_58 : decode cX9_what 58 = .ok (.getfield 230, 3) := by decide +kernel
theorem dX9_what_61 : decode cX9_what 61 = .ok (.iload_n 2, 1) := by decide +kernel
theorem dX9_what_62 : decode cX9_what 62 = .ok (.iaload, 1) := by decide +kernel
theorem dX9_what_63 : decode cX9_what 63 = .ok (.ireturn, 1) := by decide +kernel
theorem dX9_missing_0 : decode cX9_missing 0 = .ok (.aload_n 0, 1) := by decide +kernel
theorem dX9_missing_1 : decode cX9_missing 1 = .ok (.iload_n 1, 1) := by decide +kernel
theorem dX9_missing_2 : decode cX9_missing 2 = .ok (.invokevirtual 122, 3) := by decide +kernel
theorem dX9_missing_5 : decode cX9_missing 5 = .ok (.aload_n 0, 1) := by decide +kernel
theorem dX9_missing_6 : decode cX9_missing 6 = .ok (.invokevirtual 203, 3) := by decide +kernel
theorem dX9_missing_9 : decode cX9_missing 9 = .ok (.iload_n 2, 1) := by decide +kernel
theorem dX9_missing_10 : decode cX9_missing 10 = .ok (.istore_n 3, 1) := by decide +kernel
theorem dX9_missing_11 : decode cX9_missing 11 = .ok (.iconst 0, 1) := by decide +kernel
theorem dX9_missing_12 : decode cX9_missing 12 = .ok (.istore 4, 2) := by decide +kernel
theorem dX9_missing_14 : decode cX9_missing 14 = .ok (.iload 4, 2) := by decide +kernel
theorem dX9_missing_16 : decode cX9_missing 16 = .ok (.aload_n 0, 1) := by decide +kernel
theorem dX9_missing_17 : decode cX9_missing 17 = .ok (.getfield 12, 3) := by decide +kernel
theorem dX9_missing_20 : decode cX9_missing 20 = .ok (.getfield 92, 3) := by decide +kernel
theorem dX9_missing_23 : decode cX9_missing 23 = .ok (.if_icmp .ge 32, 3) := by decide +kernel
theorem dX9_missing_26 : decode cX9_missing 26 = .ok (.aload_n 0, 1) := by decide +kernel
theorem dX9_missing_27 : decode cX9_missing 27 = .ok (.getfield 49, 3) := by decide +kernel
theorem dX9_missing_30 : decode cX9_missing 30 = .ok (.iload_n 1, 1) := by decide +kernel
theorem dX9_missing_31 : decode cX9_missing 31 = .ok (.iload 4, 2) := by decide +kernel
theorem dX9_missing_33 : decode cX9_missing 33 = .ok (.invokevirtual 256, 3) := by decide +kernel
theorem dX9_missing_36 : decode cX9_missing 36 = .ok (.ifCond .eq 13, 3) := by decide +kernel
theorem dX9_missing_39 : decode cX9_missing 39 = .ok (.iload_n 3, 1) := by decide +kernel
theorem dX9_missing_40 : decode cX9_missing 40 = .ok (.ifCond .ne 6, 3) := by decide +kernel
theorem dX9_missing_43 : decode cX9_missing 43 = .ok (.iload 4, 2) := by decide +kernel
theorem dX9_missing_45 : decode cX9_missing 45 = .ok (.ireturn, 1) := by decide +kernel
theorem dX9_missing_46 : decode cX9_missing 46 = .ok (.iinc 3 (-1), 3) := by decide +kernel
theorem dX9_missing_49 : decode cX9_missing 49 = .ok (.iinc 4 1, 3) := by decide +kernel
theorem dX9_missing_52 : decode cX9_missing 52 = .ok (.goto (-38), 3) := by decide +kernel
theorem dX9_missing_55 : decode cX9_missing 55 = .ok (.iconst (-1), 1) := by decide +kernel
theorem dX9_missing_56 : decode cX9_missing 56 = .ok (.ireturn, 1) := by decide +kernel
theorem dX9_told_0 : decode cX9_told 0 = .ok (.aload_n 0, 1) := by decide +kernel
theorem dX9_told_1 : decode cX9_told 1 = .ok (.iload_n 1, 1) := by decide +kernel
theorem dX9_told_2 : decode cX9_told 2 = .ok (.invokevirtual 195, 3) := by decide +kernel
theorem dX9_told_5 : decode cX9_told 5 = .ok (.aload_n 0, 1) := by decide +kernel
theorem dX9_told_6 : decode cX9_told 6 = .ok (.invokevirtual 203, 3) := by decide +kernel
theorem dX9_told_9 : decode cX9_told 9 = .ok (.iload_n 2, 1) := by decide +kernel
theorem dX9_told_10 : decode cX9_told 10 = .ok (.tableswitch 70 0 3 #[30, 40, 50, 60], 30) := by decide +kernel
theorem dX9_told_40 : decode cX9_told 40 = .ok (.aload_n 0, 1) := by decide +kernel
theorem dX9_told_41 : decode cX9_told 41 = .ok (.getfield 12, 3) := by decide +kernel
theorem dX9_told_44 : decode cX9_told 44 = .ok (.getfield 214, 3) := by decide +kernel
theorem dX9_told_47 : decode cX9_told 47 = .ok (.iload_n 1, 1) := by decide +kernel
theorem dX9_told_48 : decode cX9_told 48 = .ok (.iaload, 1) := by decide +kernel
theorem dX9_told_49 : decode cX9_told 49 = .ok (.ireturn, 1) := by decide +kernel
theorem dX9_told_50 : decode cX9_told 50 = .ok (.aload_n 0, 1) := by decide +kernel
theorem dX9_told_51 : decode cX9_told 51 = .ok (.getfield 12, 3) := by decide +kernel
theorem dX9_told_54 : decode cX9_told 54 = .ok (.getfield 200, 3) := by decide +kernel
theorem dX9_told_57 : decode cX9_told 57 = .ok (.iload_n 1, 1) := by decide +kernel
theorem dX9_told_58 : decode cX9_told 58 = .ok (.iaload, 1) := by decide +kernel
theorem dX9_told_59 : decode cX9_told 59 = .ok (.ireturn, 1) := by decide +kernel
theorem dX9_told_60 : decode cX9_told 60 = .ok (.aload_n 0, 1) := by decide +kernel
theorem dX9_told_61 : decode cX9_told 61 = .ok (.getfield 58, 3) := by decide +kernel
theorem dX9_told_64 : decode cX9_told 64 = .ok (.getfield 236, 3) := by decide +kernel
theorem dX9_told_67 : decode cX9_told 67 = .ok (.iload_n 1, 1) := by decide +kernel
theorem dX9_told_68 : decode cX9_told 68 = .ok (.iaload, 1) := by decide +kernel
theorem dX9_told_69 : decode cX9_told 69 = .ok (.ireturn, 1) := by decide +kernel
theorem dX9_told_70 : decode cX9_told 70 = .ok (.aload_n 0, 1) := by decide +kernel
theorem dX9_told_71 : decode cX9_told 71 = .ok (.getfield 58, 3) := by decide +kernel
theorem dX9_told_74 : decode cX9_told 74 = .ok (.getfield 259, 3) := by decide +kernel
theorem dX9_told_77 : decode cX9_told 77 = .ok (.iload_n 1, 1) := by decide +kernel
theorem dX9_told_78 : decode cX9_told 78 = .ok (.iaload, 1) := by decide +kernel
theorem dX9_told_79 : decode cX9_told 79 = .ok (.ireturn, 1) := by decide +kernel
theorem dX9_told_80 : decode cX9_told 80 = .ok (.new 105, 3) := by decide +kernel
theorem dX9_told_83 : decode cX9_told 83 = .ok (.dup, 1) := by decide +kernel
theorem dX9_told_84 : decode cX9_told 84 = .ok (.ldc_w 262, 3) := by decide +kernel
theorem dX9_told_87 : decode cX9_told 87 = .ok (.invokespecial 109, 3) := by decide +kernel
theorem dX9_told_90 : decode cX9_told 90 = .ok (.athrow, 1) := by decide +kernel
theorem dX9_sheet_0 : decode cX9_sheet 0 = .ok (.aload_n 0, 1) := by decide +kernel
theorem dX9_sheet_1 : decode cX9_sheet 1 = .ok (.invokevirtual 203, 3) := by decide +kernel
theorem dX9_sheet_4 : decode cX9_sheet 4 = .ok (.aload_n 0, 1) := by decide +kernel
theorem dX9_sheet_5 : decode cX9_sheet 5 = .ok (.getfield 74, 3) := by decide +kernel
theorem dX9_sheet_8 : decode cX9_sheet 8 = .ok (.invokevirtual 264, 3) := by decide +kernel
theorem dX9_sheet_11 : decode cX9_sheet 11 = .ok (.iconst 1, 1) := by decide +kernel
theorem dX9_sheet_12 : decode cX9_sheet 12 = .ok (.istore_n 1, 1) := by decide +kernel
theorem dX9_sheet_13 : decode cX9_sheet 13 = .ok (.iload_n 1, 1) := by decide +kernel
theorem dX9_sheet_14 : decode cX9_sheet 14 = .ok (.aload_n 0, 1) := by decide +kernel
theorem dX9_sheet_15 : decode cX9_sheet 15 = .ok (.getfield 12, 3) := by decide +kernel
theorem dX9_sheet_18 : decode cX9_sheet 18 = .ok (.getfield 92, 3) := by decide +kernel
theorem dX9_sheet_21 : decode cX9_sheet 21 = .ok (.if_icmp .gt 22, 3) := by decide +kernel
theorem dX9_sheet_24 : decode cX9_sheet 24 = .ok (.aload_n 0, 1) := by decide +kernel
theorem dX9_sheet_25 : decode cX9_sheet 25 = .ok (.iload_n 1, 1) := by decide +kernel
theorem dX9_sheet_26 : decode cX9_sheet 26 = .ok (.aload_n 0, 1) := by decide +kernel
theorem dX9_sheet_27 : decode cX9_sheet 27 = .ok (.getfield 67, 3) := by decide +kernel
theorem dX9_sheet_30 : decode cX9_sheet 30 = .ok (.iload_n 1, 1) := by decide +kernel
theorem dX9_sheet_31 : decode cX9_sheet 31 = .ok (.invokevirtual 217, 3) := by decide +kernel
theorem dX9_sheet_34 : decode cX9_sheet 34 = .ok (.invokevirtual 267, 3) := by decide +kernel
theorem dX9_sheet_37 : decode cX9_sheet 37 = .ok (.iinc 1 1, 3) := by decide +kernel
theorem dX9_sheet_40 : decode cX9_sheet 40 = .ok (.goto (-27), 3) := by decide +kernel
theorem dX9_sheet_43 : decode cX9_sheet 43 = .ok (.aload_n 0, 1) := by decide +kernel
theorem dX9_sheet_44 : decode cX9_sheet 44 = .ok (.getfield 74, 3) := by decide +kernel
theorem dX9_sheet_47 : decode cX9_sheet 47 = .ok (.getfield 270, 3) := by decide +kernel
theorem dX9_sheet_50 : decode cX9_sheet 50 = .ok (.ireturn, 1) := by decide +kernel
theorem dX9_sheetByte_0 : decode cX9_sheetByte 0 = .ok (.iload_n 1, 1) := by decide +kernel
theorem dX9_sheetByte_1 : decode cX9_sheetByte 1 = .ok (.ifCond .lt 14, 3) := by decide +kernel
theorem dX9_sheetByte_4 : decode cX9_sheetByte 4 = .ok (.iload_n 1, 1) := by decide +kernel
theorem dX9_sheetByte_5 : decode cX9_sheetByte 5 = .ok (.aload_n 0, 1) := by decide +kernel
theorem dX9_sheetByte_6 : decode cX9_sheetByte 6 = .ok (.getfield 74, 3) := by decide +kernel
theorem dX9_sheetByte_9 : decode cX9_sheetByte 9 = .ok (.getfield 270, 3) := by decide +kernel
theorem dX9_sheetByte_12 : decode cX9_sheetByte 12 = .ok (.if_icmp .lt 14, 3) := by decide +kernel
theorem dX9_sheetByte_15 : decode cX9_sheetByte 15 = .ok (.new 173, 3) := by decide +kernel
theorem dX9_sheetByte_18 : decode cX9_sheetByte 18 = .ok (.dup, 1) := by decide +kernel
theorem dX9_sheetByte_19 : decode cX9_sheetByte 19 = .ok (.ldc_w 273, 3) := by decide +kernel
theorem dX9_sheetByte_22 : decode cX9_sheetByte 22 = .ok (.invokespecial 177, 3) := by decide +kernel
theorem dX9_sheetByte_25 : decode cX9_sheetByte 25 = .ok (.athrow, 1) := by decide +kernel
theorem dX9_sheetByte_26 : decode cX9_sheetByte 26 = .ok (.aload_n 0, 1) := by decide +kernel
theorem dX9_sheetByte_27 : decode cX9_sheetByte 27 = .ok (.getfield 74, 3) := by decide +kernel
theorem dX9_sheetByte_30 : decode cX9_sheetByte 30 = .ok (.getfield 275, 3) := by decide +kernel
theorem dX9_sheetByte_33 : decode cX9_sheetByte 33 = .ok (.iload_n 1, 1) := by decide +kernel
theorem dX9_sheetByte_34 : decode cX9_sheetByte 34 = .ok (.baload, 1) := by decide +kernel
theorem dX9_sheetByte_35 : decode cX9_sheetByte 35 = .ok (.ireturn, 1) := by decide +kernel
theorem dX9_cell_0 : decode cX9_cell 0 = .ok (.iload_n 0, 1) := by decide +kernel
theorem dX9_cell_1 : decode cX9_cell 1 = .ok (.bipush 40, 2) := by decide +kernel
theorem dX9_cell_3 : decode cX9_cell 3 = .ok (.imul, 1) := by decide +kernel
theorem dX9_cell_4 : decode cX9_cell 4 = .ok (.iload_n 1, 1) := by decide +kernel
theorem dX9_cell_5 : decode cX9_cell 5 = .ok (.iadd, 1) := by decide +kernel
theorem dX9_cell_6 : decode cX9_cell 6 = .ok (.ireturn, 1) := by decide +kernel
theorem dX9_requireRace_0 : decode cX9_requireRace 0 = .ok (.iload_n 1, 1) := by decide +kernel
theorem dX9_requireRace_1 : decode cX9_requireRace 1 = .ok (.ifCond .lt 14, 3) := by decide +kernel
theorem dX9_requireRace_4 : decode cX9_requireRace 4 = .ok (.iload_n 1, 1) := by decide +kernel
theorem dX9_requireRace_5 : decode cX9_requireRace 5 = .ok (.aload_n 0, 1) := by decide +kernel
theorem dX9_requireRace_6 : decode cX9_requireRace 6 = .ok (.getfield 19, 3) := by decide +kernel
theorem dX9_requireRace_9 : decode cX9_requireRace 9 = .ok (.getfield 116, 3) := by decide +kernel
theorem dX9_requireRace_12 : decode cX9_requireRace 12 = .ok (.if_icmp .lt 14, 3) := by decide +kernel
theorem dX9_requireRace_15 : decode cX9_requireRace 15 = .ok (.new 173, 3) := by decide +kernel
theorem dX9_requireRace_18 : decode cX9_requireRace 18 = .ok (.dup, 1) := by decide +kernel
theorem dX9_requireRace_19 : decode cX9_requireRace 19 = .ok (.ldc_w 279, 3) := by decide +kernel
theorem dX9_requireRace_22 : decode cX9_requireRace 22 = .ok (.invokespecial 177, 3) := by decide +kernel
theorem dX9_requireRace_25 : decode cX9_requireRace 25 = .ok (.athrow, 1) := by decide +kernel
theorem dX9_requireRace_26 : decode cX9_requireRace 26 = .ok (.return_, 1) := by decide +kernel
theorem dX9_requireBoat_0 : decode cX9_requireBoat 0 = .ok (.iload_n 1, 1) := by decide +kernel
theorem dX9_requireBoat_1 : decode cX9_requireBoat 1 = .ok (.ifCond .lt 14, 3) := by decide +kernel
theorem dX9_requireBoat_4 : decode cX9_requireBoat 4 = .ok (.iload_n 1, 1) := by decide +kernel
theorem dX9_requireBoat_5 : decode cX9_requireBoat 5 = .ok (.aload_n 0, 1) := by decide +kernel
theorem dX9_requireBoat_6 : decode cX9_requireBoat 6 = .ok (.getfield 12, 3) := by decide +kernel
theorem dX9_requireBoat_9 : decode cX9_requireBoat 9 = .ok (.getfield 92, 3) := by decide +kernel
theorem dX9_requireBoat_12 : decode cX9_requireBoat 12 = .ok (.if_icmp .lt 14, 3) := by decide +kernel
theorem dX9_requireBoat_15 : decode cX9_requireBoat 15 = .ok (.new 173, 3) := by decide +kernel
theorem dX9_requireBoat_18 : decode cX9_requireBoat 18 = .ok (.dup, 1) := by decide +kernel
theorem dX9_requireBoat_19 : decode cX9_requireBoat 19 = .ok (.ldc_w 281, 3) := by decide +kernel
theorem dX9_requireBoat_22 : decode cX9_requireBoat 22 = .ok (.invokespecial 177, 3) := by decide +kernel
theorem dX9_requireBoat_25 : decode cX9_requireBoat 25 = .ok (.athrow, 1) := by decide +kernel
theorem dX9_requireBoat_26 : decode cX9_requireBoat 26 = .ok (.return_, 1) := by decide +kernel
theorem dX9_requireRaceAndBoat_0 : decode cX9_requireRaceAndBoat 0 = .ok (.aload_n 0, 1) := by decide +kernel
theorem dX9_requireRaceAndBoat_1 : decode cX9_requireRaceAndBoat 1 = .ok (.iload_n 1, 1) := by decide +kernel
theorem dX9_requireRaceAndBoat_2 : decode cX9_requireRaceAndBoat 2 = .ok (.invokevirtual 122, 3) := by decide +kernel
theorem dX9_requireRaceAndBoat_5 : decode cX9_requireRaceAndBoat 5 = .ok (.aload_n 0, 1) := by decide +kernel
theorem dX9_requireRaceAndBoat_6 : decode cX9_requireRaceAndBoat 6 = .ok (.iload_n 2, 1) := by decide +kernel
theorem dX9_requireRaceAndBoat_7 : decode cX9_requireRaceAndBoat 7 = .ok (.invokevirtual 195, 3) := by decide +kernel
theorem dX9_requireRaceAndBoat_10 : decode cX9_requireRaceAndBoat 10 = .ok (.return_, 1) := by decide +kernel
theorem dX9_requireRaceOfBoat_0 : decode cX9_requireRaceOfBoat 0 = .ok (.aload_n 0, 1) := by decide +kernel
theorem dX9_requireRaceOfBoat_1 : decode cX9_requireRaceOfBoat 1 = .ok (.iload_n 1, 1) := by decide +kernel
theorem dX9_requireRaceOfBoat_2 : decode cX9_requireRaceOfBoat 2 = .ok (.iload_n 2, 1) := by decide +kernel
theorem dX9_requireRaceOfBoat_3 : decode cX9_requireRaceOfBoat 3 = .ok (.invokevirtual 146, 3) := by decide +kernel
theorem dX9_requireRaceOfBoat_6 : decode cX9_requireRaceOfBoat 6 = .ok (.aload_n 0, 1) := by decide +kernel
theorem dX9_requireRaceOfBoat_7 : decode cX9_requireRaceOfBoat 7 = .ok (.getfield 12, 3) := by decide +kernel
theorem dX9_requireRaceOfBoat_10 : decode cX9_requireRaceOfBoat 10 = .ok (.iload_n 2, 1) := by decide +kernel
theorem dX9_requireRaceOfBoat_11 : decode cX9_requireRaceOfBoat 11 = .ok (.aload_n 0, 1) := by decide +kernel
theorem dX9_requireRaceOfBoat_12 : decode cX9_requireRaceOfBoat 12 = .ok (.getfield 19, 3) := by decide +kernel
theorem dX9_requireRaceOfBoat_15 : decode cX9_requireRaceOfBoat 15 = .ok (.getfield 283, 3) := by decide +kernel
theorem dX9_requireRaceOfBoat_18 : decode cX9_requireRaceOfBoat 18 = .ok (.iload_n 1, 1) := by decide +kernel
theorem dX9_requireRaceOfBoat_19 : decode cX9_requireRaceOfBoat 19 = .ok (.iaload, 1) := by decide +kernel
theorem dX9_requireRaceOfBoat_20 : decode cX9_requireRaceOfBoat 20 = .ok (.invokevirtual 284, 3) := by decide +kernel
theorem dX9_requireRaceOfBoat_23 : decode cX9_requireRaceOfBoat 23 = .ok (.ifCond .ne 14, 3) := by decide +kernel
theorem dX9_requireRaceOfBoat_26 : decode cX9_requireRaceOfBoat 26 = .ok (.new 85, 3) := by decide +kernel
theorem dX9_requireRaceOfBoat_29 : decode cX9_requireRaceOfBoat 29 = .ok (.dup, 1) := by decide +kernel
theorem dX9_requireRaceOfBoat_30 : decode cX9_requireRaceOfBoat 30 = .ok (.ldc_w 287, 3) := by decide +kernel
theorem dX9_requireRaceOfBoat_33 : decode cX9_requireRaceOfBoat 33 = .ok (.invokespecial 89, 3) := by decide +kernel
theorem dX9_requireRaceOfBoat_36 : decode cX9_requireRaceOfBoat 36 = .ok (.athrow, 1) := by decide +kernel
theorem dX9_requireRaceOfBoat_37 : decode cX9_requireRaceOfBoat 37 = .ok (.return_, 1) := by decide +kernel
theorem dX9_requireEntry_0 : decode cX9_requireEntry 0 = .ok (.iload_n 0, 1) := by decide +kernel
theorem dX9_requireEntry_1 : decode cX9_requireEntry 1 = .ok (.iload_n 1, 1) := by decide +kernel
theorem dX9_requireEntry_2 : decode cX9_requireEntry 2 = .ok (.invokestatic 289, 3) := by decide +kernel
theorem dX9_requireEntry_5 : decode cX9_requireEntry 5 = .ok (.ifCond .ne 14, 3) := by decide +kernel
theorem dX9_requireEntry_8 : decode cX9_requireEntry 8 = .ok (.new 105, 3) := by decide +kernel
theorem dX9_requireEntry_11 : decode cX9_requireEntry 11 = .ok (.dup, 1) := by decide +kernel
theorem dX9_requireEntry_12 : decode cX9_requireEntry 12 = .ok (.ldc_w 292, 3) := by decide +kernel
theorem dX9_requireEntry_15 : decode cX9_requireEntry 15 = .ok (.invokespecial 109, 3) := by decide +kernel
theorem dX9_requireEntry_18 : decode cX9_requireEntry 18 = .ok (.athrow, 1) := by decide +kernel
theorem dX9_requireEntry_19 : decode cX9_requireEntry 19 = .ok (.return_, 1) := by decide +kernel
theorem dX9_isEntry_0 : decode cX9_isEntry 0 = .ok (.iload_n 0, 1) := by decide +kernel
theorem dX9_isEntry_1 : decode cX9_isEntry 1 = .ok (.ifCond .ne 20, 3) := by decide +kernel
theorem dX9_isEntry_4 : decode cX9_isEntry 4 = .ok (.iload_n 1, 1) := by decide +kernel
theorem dX9_isEntry_5 : decode cX9_isEntry 5 = .ok (.iconst 1, 1) := by decide +kernel
theorem dX9_isEntry_6 : decode cX9_isEntry 6 = .ok (.if_icmp .lt 13, 3) := by decide +kernel
theorem dX9_isEntry_9 : decode cX9_isEntry 9 = .ok (.iload_n 1, 1) := by decide +kernel
theorem dX9_isEntry_10 : decode cX9_isEntry 10 = .ok (.bipush 99, 2) := by decide +kernel
theorem dX9_isEntry_12 : decode cX9_isEntry 12 = .ok (.if_icmp .gt 7, 3) := by decide +kernel
theorem dX9_isEntry_15 : decode cX9_isEntry 15 = .ok (.iconst 1, 1) := by decide +kernel
theorem dX9_isEntry_16 : decode cX9_isEntry 16 = .ok (.goto 4, 3) := by decide +kernel
theorem dX9_isEntry_19 : decode cX9_isEntry 19 = .ok (.iconst 0, 1) := by decide +kernel
theorem dX9_isEntry_20 : decode cX9_isEntry 20 = .ok (.ireturn, 1) := by decide +kernel
theorem dX9_isEntry_21 : decode cX9_isEntry 21 = .ok (.iload_n 0, 1) := by decide +kernel
theorem dX9_isEntry_22 : decode cX9_isEntry 22 = .ok (.bipush 8, 2) := by decide +kernel
theorem dX9_isEntry_24 : decode cX9_isEntry 24 = .ok (.if_icmp .ne 20, 3) := by decide +kernel
theorem dX9_isEntry_27 : decode cX9_isEntry 27 = .ok (.iload_n 1, 1) := by decide +kernel
theorem dX9_isEntry_28 : decode cX9_isEntry 28 = .ok (.ifCond .lt 14, 3) := by decide +kernel
theorem dX9_isEntry_31 : decode cX9_isEntry 31 = .ok (.iload_n 1, 1) := by decide +kernel
theorem dX9_isEntry_32 : decode cX9_isEntry 32 = .ok (.sipush 9999, 3) := by decide +kernel
theorem dX9_isEntry_35 : decode cX9_isEntry 35 = .ok (.if_icmp .gt 7, 3) := by decide +kernel
theorem dX9_isEntry_38 : decode cX9_isEntry 38 = .ok (.iconst 1, 1) := by decide +kernel
theorem dX9_isEntry_39 : decode cX9_isEntry 39 = .ok (.goto 4, 3) := by decide +kernel
theorem dX9_isEntry_42 : decode cX9_isEntry 42 = .ok (.iconst 0, 1) := by decide +kernel
theorem dX9_isEntry_43 : decode cX9_isEntry 43 = .ok (.ireturn, 1) := by decide +kernel
theorem dX9_isEntry_44 : decode cX9_isEntry 44 = .ok (.iload_n 0, 1) := by decide +kernel
theorem dX9_isEntry_45 : decode cX9_isEntry 45 = .ok (.iconst 1, 1) := by decide +kernel
theorem dX9_isEntry_46 : decode cX9_isEntry 46 = .ok (.if_icmp .lt 17, 3) := by decide +kernel
theorem dX9_isEntry_49 : decode cX9_isEntry 49 = .ok (.iload_n 0, 1) := by decide +kernel
theorem dX9_isEntry_50 : decode cX9_isEntry 50 = .ok (.bipush 7, 2) := by decide +kernel
theorem dX9_isEntry_52 : decode cX9_isEntry 52 = .ok (.if_icmp .gt 11, 3) := by decide +kernel
theorem dX9_isEntry_55 : decode cX9_isEntry 55 = .ok (.iload_n 1, 1) := by decide +kernel
theorem dX9_isEntry_56 : decode cX9_isEntry 56 = .ok (.ifCond .ne 7, 3) := by decide +kernel
theorem dX9_isEntry_59 : decode cX9_isEntry 59 = .ok (.iconst 1, 1) := by decide +kernel
theorem dX9_isEntry_60 : decode cX9_isEntry 60 = .ok (.goto 4, 3) := by decide +kernel
theorem dX9_isEntry_63 : decode cX9_isEntry 63 = .ok (.iconst 0, 1) := by decide +kernel
theorem dX9_isEntry_64 : decode cX9_isEntry 64 = .ok (.ireturn, 1) := by decide +kernel
theorem dX9_fitsTheSplit_0 : decode cX9_fitsTheSplit 0 = .ok (.aload_n 0, 1) := by decide +kernel
theorem dX9_fitsTheSplit_1 : decode cX9_fitsTheSplit 1 = .ok (.getfield 12, 3) := by decide +kernel
theorem dX9_fitsTheSplit_4 : decode cX9_fitsTheSplit 4 = .ok (.getfield 82, 3) := by decide +kernel
theorem dX9_fitsTheSplit_7 : decode cX9_fitsTheSplit 7 = .ok (.ifCond .eq 17, 3) := by decide +kernel
theorem dX9_fitsTheSplit_10 : decode cX9_fitsTheSplit 10 = .ok (.iload_n 1, 1) := by decide +kernel
theorem dX9_fitsTheSplit_11 : decode cX9_fitsTheSplit 11 = .ok (.ifCond .eq 11, 3) := by decide +kernel
theorem dX9_fitsTheSplit_14 : decode cX9_fitsTheSplit 14 = .ok (.iload_n 2, 1) := by decide +kernel
theorem dX9_fitsTheSplit_15 : decode cX9_fitsTheSplit 15 = .ok (.ifCond .eq 7, 3) := by decide +kernel
theorem dX9_fitsTheSplit_18 : decode cX9_fitsTheSplit 18 = .ok (.iconst 1, 1) := by decide +kernel
theorem dX9_fitsTheSplit_19 : decode cX9_fitsTheSplit 19 = .ok (.goto 4, 3) := by decide +kernel
theorem dX9_fitsTheSplit_22 : decode cX9_fitsTheSplit 22 = .ok (.iconst 0, 1) := by decide +kernel
theorem dX9_fitsTheSplit_23 : decode cX9_fitsTheSplit 23 = .ok (.ireturn, 1) := by decide +kernel
theorem dX9_fitsTheSplit_24 : decode cX9_fitsTheSplit 24 = .ok (.iload_n 1, 1) := by decide +kernel
theorem dX9_fitsTheSplit_25 : decode cX9_fitsTheSplit 25 = .ok (.iconst 1, 1) := by decide +kernel
theorem dX9_fitsTheSplit_26 : decode cX9_fitsTheSplit 26 = .ok (.if_icmp .eq 11, 3) := by decide +kernel
theorem dX9_fitsTheSplit_29 : decode cX9_fitsTheSplit 29 = .ok (.iload_n 2, 1) := by decide +kernel
theorem dX9_fitsTheSplit_30 : decode cX9_fitsTheSplit 30 = .ok (.ifCond .ne 7, 3) := by decide +kernel
theorem dX9_fitsTheSplit_33 : decode cX9_fitsTheSplit 33 = .ok (.iconst 1, 1) := by decide +kernel
theorem dX9_fitsTheSplit_34 : decode cX9_fitsTheSplit 34 = .ok (.goto 4, 3) := by decide +kernel
theorem dX9_fitsTheSplit_37 : decode cX9_fitsTheSplit 37 = .ok (.iconst 0, 1) := by decide +kernel
theorem dX9_fitsTheSplit_38 : decode cX9_fitsTheSplit 38 = .ok (.ireturn, 1) := by decide +kernel
theorem dX9_fleetOfRank_0 : decode cX9_fleetOfRank 0 = .ok (.iload_n 0, 1) := by decide +kernel
theorem dX9_fleetOfRank_1 : decode cX9_fleetOfRank 1 = .ok (.iload_n 1, 1) := by decide +kernel
theorem dX9_fleetOfRank_2 : decode cX9_fleetOfRank 2 = .ok (.if_icmp .gt 5, 3) := by decide +kernel
theorem dX9_fleetOfRank_5 : decode cX9_fleetOfRank 5 = .ok (.iconst 1, 1) := by decide +kernel
theorem dX9_fleetOfRank_6 : decode cX9_fleetOfRank 6 = .ok (.ireturn, 1) := by decide +kernel
theorem dX9_fleetOfRank_7 : decode cX9_fleetOfRank 7 = .ok (.iload_n 0, 1) := by decide +kernel
theorem dX9_fleetOfRank_8 : decode cX9_fleetOfRank 8 = .ok (.iload_n 1, 1) := by decide +kernel
theorem dX9_fleetOfRank_9 : decode cX9_fleetOfRank 9 = .ok (.iload_n 2, 1) := by decide +kernel
theorem dX9_fleetOfRank_10 : decode cX9_fleetOfRank 10 = .ok (.iadd, 1) := by decide +kernel
theorem dX9_fleetOfRank_11 : decode cX9_fleetOfRank 11 = .ok (.if_icmp .gt 7, 3) := by decide +kernel
theorem dX9_fleetOfRank_14 : decode cX9_fleetOfRank 14 = .ok (.iconst 2, 1) := by decide +kernel
theorem dX9_fleetOfRank_15 : decode cX9_fleetOfRank 15 = .ok (.goto 4, 3) := by decide +kernel
theorem dX9_fleetOfRank_18 : decode cX9_fleetOfRank 18 = .ok (.iconst 3, 1) := by decide +kernel
theorem dX9_fleetOfRank_19 : decode cX9_fleetOfRank 19 = .ok (.ireturn, 1) := by decide +kernel
theorem dX9_bringUpToDate_0 : decode cX9_bringUpToDate 0 = .ok (.aload_n 0, 1) := by decide +kernel
theorem dX9_bringUpToDate_1 : decode cX9_bringUpToDate 1 = .ok (.getfield 78, 3) := by decide +kernel
theorem dX9_bringUpToDate_4 : decode cX9_bringUpToDate 4 = .ok (.ifCond .eq 29, 3) := by decide +kernel
theorem dX9_bringUpToDate_7 : decode cX9_bringUpToDate 7 = .ok (.aload_n 0, 1) := by decide +kernel
theorem dX9_bringUpToDate_8 : decode cX9_bringUpToDate 8 = .ok (.getfield 49, 3) := by decide +kernel
theorem dX9_bringUpToDate_11 : decode cX9_bringUpToDate 11 = .ok (.invokevirtual 249, 3) := by decide +kernel
theorem dX9_bringUpToDate_14 : decode cX9_bringUpToDate 14 = .ok (.aload_n 0, 1) := by decide +kernel
theorem dX9_bringUpToDate_15 : decode cX9_bringUpToDate 15 = .ok (.getfield 58, 3) := by decide +kernel
theorem dX9_bringUpToDate_18 : decode cX9_bringUpToDate 18 = .ok (.invokevirtual 252, 3) := by decide +kernel
theorem dX9_bringUpToDate_21 : decode cX9_bringUpToDate 21 = .ok (.aload_n 0, 1) := by decide +kernel
theorem dX9_bringUpToDate_22 : decode cX9_bringUpToDate 22 = .ok (.getfield 67, 3) := by decide +kernel
theorem dX9_bringUpToDate_25 : decode cX9_bringUpToDate 25 = .ok (.invokevirtual 294, 3) := by decide +kernel
theorem dX9_bringUpToDate_28 : decode cX9_bringUpToDate 28 = .ok (.aload_n 0, 1) := by decide +kernel
theorem dX9_bringUpToDate_29 : decode cX9_bringUpToDate 29 = .ok (.iconst 0, 1) := by decide +kernel
theorem dX9_bringUpToDate_30 : decode cX9_bringUpToDate 30 = .ok (.putfield 78, 3) := by decide +kernel
theorem dX9_bringUpToDate_33 : decode cX9_bringUpToDate 33 = .ok (.return_, 1) := by decide +kernel
theorem dX9_writeLine_0 : decode cX9_writeLine 0 = .ok (.aload_n 0, 1) := by decide +kernel
theorem dX9_writeLine_1 : decode cX9_writeLine 1 = .ok (.getfield 74, 3) := by decide +kernel
theorem dX9_writeLine_4 : decode cX9_writeLine 4 = .ok (.iload_n 1, 1) := by decide +kernel
theorem dX9_writeLine_5 : decode cX9_writeLine 5 = .ok (.invokevirtual 295, 3) := by decide +kernel
theorem dX9_writeLine_8 : decode cX9_writeLine 8 = .ok (.aload_n 0, 1) := by decide +kernel
theorem dX9_writeLine_9 : decode cX9_writeLine 9 = .ok (.getfield 74, 3) := by decide +kernel
theorem dX9_writeLine_12 : decode cX9_writeLine 12 = .ok (.ldc_w 298, 3) := by decide +kernel
theorem dX9_writeLine_15 : decode cX9_writeLine 15 = .ok (.invokevirtual 300, 3) := by decide +kernel
theorem dX9_writeLine_18 : decode cX9_writeLine 18 = .ok (.aload_n 0, 1) := by decide +kernel
theorem dX9_writeLine_19 : decode cX9_writeLine 19 = .ok (.getfield 74, 3) := by decide +kernel
theorem dX9_writeLine_22 : decode cX9_writeLine 22 = .ok (.iload_n 2, 1) := by decide +kernel
theorem dX9_writeLine_23 : decode cX9_writeLine 23 = .ok (.invokevirtual 295, 3) := by decide +kernel
theorem dX9_writeLine_26 : decode cX9_writeLine 26 = .ok (.aload_n 0, 1) := by decide +kernel
theorem dX9_writeLine_27 : decode cX9_writeLine 27 = .ok (.getfield 74, 3) := by decide +kernel
theorem dX9_writeLine_30 : decode cX9_writeLine 30 = .ok (.ldc_w 303, 3) := by decide +kernel
theorem dX9_writeLine_33 : decode cX9_writeLine 33 = .ok (.invokevirtual 300, 3) := by decide +kernel
theorem dX9_writeLine_36 : decode cX9_writeLine 36 = .ok (.aload_n 0, 1) := by decide +kernel
theorem dX9_writeLine_37 : decode cX9_writeLine 37 = .ok (.getfield 74, 3) := by decide +kernel
theorem dX9_writeLine_40 : decode cX9_writeLine 40 = .ok (.aload_n 0, 1) := by decide +kernel
theorem dX9_writeLine_41 : decode cX9_writeLine 41 = .ok (.getfield 58, 3) := by decide +kernel
theorem dX9_writeLine_44 : decode cX9_writeLine 44 = .ok (.getfield 230, 3) := by decide +kernel
theorem dX9_writeLine_47 : decode cX9_writeLine 47 = .ok (.iload_n 2, 1) := by decide +kernel
theorem dX9_writeLine_48 : decode cX9_writeLine 48 = .ok (.iaload, 1) := by decide +kernel
theorem dX9_writeLine_49 : decode cX9_writeLine 49 = .ok (.invokevirtual 305, 3) := by decide +kernel
theorem dX9_writeLine_52 : decode cX9_writeLine 52 = .ok (.aload_n 0, 1) := by decide +kernel
theorem dX9_writeLine_53 : decode cX9_writeLine 53 = .ok (.getfield 74, 3) := by decide +kernel
theorem dX9_writeLine_56 : decode cX9_writeLine 56 = .ok (.ldc_w 308, 3) := by decide +kernel
theorem dX9_writeLine_59 : decode cX9_writeLine 59 = .ok (.invokevirtual 300, 3) := by decide +kernel
theorem dX9_writeLine_62 : decode cX9_writeLine 62 = .ok (.aload_n 0, 1) := by decide +kernel
theorem dX9_writeLine_63 : decode cX9_writeLine 63 = .ok (.getfield 74, 3) := by decide +kernel
theorem dX9_writeLine_66 : decode cX9_writeLine 66 = .ok (.aload_n 0, 1) := by decide +kernel
theorem dX9_writeLine_67 : decode cX9_writeLine 67 = .ok (.getfield 58, 3) := by decide +kernel
theorem dX9_writeLine_70 : decode cX9_writeLine 70 = .ok (.getfield 233, 3) := by decide +kernel
theorem dX9_writeLine_73 : decode cX9_writeLine 73 = .ok (.iload_n 2, 1) := by decide +kernel
theorem dX9_writeLine_74 : decode cX9_writeLine 74 = .ok (.iaload, 1) := by decide +kernel
theorem dX9_writeLine_75 : decode cX9_writeLine 75 = .ok (.invokevirtual 305, 3) := by decide +kernel
theorem dX9_writeLine_78 : decode cX9_writeLine 78 = .ok (.aload_n 0, 1) := by decide +kernel
theorem dX9_writeLine_79 : decode cX9_writeLine 79 = .ok (.getfield 74, 3) := by decide +kernel
theorem dX9_writeLine_82 : decode cX9_writeLine 82 = .ok (.ldc_w 310, 3) := by decide +kernel
theorem dX9_writeLine_85 : decode cX9_writeLine 85 = .ok (.invokevirtual 300, 3) := by decide +kernel
theorem dX9_writeLine_88 : decode cX9_writeLine 88 = .ok (.iconst 0, 1) := by decide +kernel
theorem dX9_writeLine_89 : decode cX9_writeLine 89 = .ok (.istore_n 3, 1) := by decide +kernel
theorem dX9_writeLine_90 : decode cX9_writeLine 90 = .ok (.iload_n 3, 1) := by decide +kernel
theorem dX9_writeLine_91 : decode cX9_writeLine 91 = .ok (.aload_n 0, 1) := by decide +kernel
theorem dX9_writeLine_92 : decode cX9_writeLine 92 = .ok (.getfield 19, 3) := by decide +kernel
theorem dX9_writeLine_95 : decode cX9_writeLine 95 = .ok (.getfield 116, 3) := by decide +kernel
theorem dX9_writeLine_98 : decode cX9_writeLine 98 = .ok (.if_icmp .ge 34, 3) := by decide +kernel
theorem dX9_writeLine_101 : decode cX9_writeLine 101 = .ok (.aload_n 0, 1) := by decide +kernel
theorem dX9_writeLine_102 : decode cX9_writeLine 102 = .ok (.getfield 49, 3) := by decide +kernel
theorem dX9_writeLine_105 : decode cX9_writeLine 105 = .ok (.getfield 312, 3) := by decide +kernel
theorem dX9_writeLine_108 : decode cX9_writeLine 108 = .ok (.iload_n 3, 1) := by decide +kernel
theorem dX9_writeLine_109 : decode cX9_writeLine 109 = .ok (.iload_n 2, 1) := by decide +kernel
theorem dX9_writeLine_110 : decode cX9_writeLine 110 = .ok (.invokestatic 137, 3) := by decide +kernel
theorem dX9_writeLine_113 : decode cX9_writeLine 113 = .ok (.baload, 1) := by decide +kernel
theorem dX9_writeLine_114 : decode cX9_writeLine 114 = .ok (.ifCond .eq 12, 3) := by decide +kernel
theorem dX9_writeLine_117 : decode cX9_writeLine 117 = .ok (.aload_n 0, 1) := by decide +kernel
theorem dX9_writeLine_118 : decode cX9_writeLine 118 = .ok (.iload_n 3, 1) := by decide +kernel
theorem dX9_writeLine_119 : decode cX9_writeLine 119 = .ok (.iload_n 2, 1) := by decide +kernel
theorem dX9_writeLine_120 : decode cX9_writeLine 120 = .ok (.invokestatic 137, 3) := by decide +kernel
theorem dX9_writeLine_123 : decode cX9_writeLine 123 = .ok (.invokevirtual 315, 3) := by decide +kernel
theorem dX9_writeLine_126 : decode cX9_writeLine 126 = .ok (.iinc 3 1, 3) := by decide +kernel
theorem dX9_writeLine_129 : decode cX9_writeLine 129 = .ok (.goto (-39), 3) := by decide +kernel
theorem dX9_writeLine_132 : decode cX9_writeLine 132 = .ok (.aload_n 0, 1) := by decide +kernel
theorem dX9_writeLine_133 : decode cX9_writeLine 133 = .ok (.getfield 74, 3) := by decide +kernel
theorem dX9_writeLine_136 : decode cX9_writeLine 136 = .ok (.ldc_w 318, 3) := by decide +kernel
theorem dX9_writeLine_139 : decode cX9_writeLine 139 = .ok (.invokevirtual 300, 3) := by decide +kernel
theorem dX9_writeLine_142 : decode cX9_writeLine 142 = .ok (.return_, 1) := by decide +kernel
theorem dX9_writeScore_0 : decode cX9_writeScore 0 = .ok (.aload_n 0, 1) := by decide +kernel
theorem dX9_writeScore_1 : decode cX9_writeScore 1 = .ok (.getfield 58, 3) := by decide +kernel
theorem dX9_writeScore_4 : decode cX9_writeScore 4 = .ok (.getfield 227, 3) := by decide +kernel
theorem dX9_writeScore_7 : decode cX9_writeScore 7 = .ok (.iload_n 1, 1) := by decide +kernel
theorem dX9_writeScore_8 : decode cX9_writeScore 8 = .ok (.baload, 1) := by decide +kernel
theorem dX9_writeScore_9 : decode cX9_writeScore 9 = .ok (.istore_n 2, 1) := by decide +kernel
theorem dX9_writeScore_10 : decode cX9_writeScore 10 = .ok (.aload_n 0, 1) := by decide +kernel
theorem dX9_writeScore_11 : decode cX9_writeScore 11 = .ok (.getfield 74, 3) := by decide +kernel
theorem dX9_writeScore_14 : decode cX9_writeScore 14 = .ok (.iload_n 2, 1) := by decide +kernel
theorem dX9_writeScore_15 : decode cX9_writeScore 15 = .ok (.ifCond .eq 9, 3) := by decide +kernel
theorem dX9_writeScore_18 : decode cX9_writeScore 18 = .ok (.ldc_w 320, 3) := by decide +kernel
theorem dX9_writeScore_21 : decode cX9_writeScore 21 = .ok (.goto 6, 3) := by decide +kernel
theorem dX9_writeScore_24 : decode cX9_writeScore 24 = .ok (.ldc_w 303, 3) := by decide +kernel
theorem dX9_writeScore_27 : decode cX9_writeScore 27 = .ok (.invokevirtual 300, 3) := by decide +kernel
theorem dX9_writeScore_30 : decode cX9_writeScore 30 = .ok (.aload_n 0, 1) := by decide +kernel
theorem dX9_writeScore_31 : decode cX9_writeScore 31 = .ok (.getfield 74, 3) := by decide +kernel
theorem dX9_writeScore_34 : decode cX9_writeScore 34 = .ok (.aload_n 0, 1) := by decide +kernel
theorem dX9_writeScore_35 : decode cX9_writeScore 35 = .ok (.getfield 58, 3) := by decide +kernel
theorem dX9_writeScore_38 : decode cX9_writeScore 38 = .ok (.getfield 322, 3) := by decide +kernel
theorem dX9_writeScore_41 : decode cX9_writeScore 41 = .ok (.iload_n 1, 1) := by decide +kernel
theorem dX9_writeScore_42 : decode cX9_writeScore 42 = .ok (.iaload, 1) := by decide +kernel
theorem dX9_writeScore_43 : decode cX9_writeScore 43 = .ok (.invokevirtual 305, 3) := by decide +kernel
theorem dX9_writeScore_46 : decode cX9_writeScore 46 = .ok (.aload_n 0, 1) := by decide +kernel
theorem dX9_writeScore_47 : decode cX9_writeScore 47 = .ok (.getfield 74, 3) := by decide +kernel
theorem dX9_writeScore_50 : decode cX9_writeScore 50 = .ok (.aload_n 0, 1) := by decide +kernel
theorem dX9_writeScore_51 : decode cX9_writeScore 51 = .ok (.getfield 49, 3) := by decide +kernel
theorem dX9_writeScore_54 : decode cX9_writeScore 54 = .ok (.getfield 325, 3) := by decide +kernel
theorem dX9_writeScore_57 : decode cX9_writeScore 57 = .ok (.getfield 149, 3) := by decide +kernel
theorem dX9_writeScore_60 : decode cX9_writeScore 60 = .ok (.iload_n 1, 1) := by decide +kernel
theorem dX9_writeScore_61 : decode cX9_writeScore 61 = .ok (.iaload, 1) := by decide +kernel
theorem dX9_writeScore_62 : decode cX9_writeScore 62 = .ok (.aload_n 0, 1) := by decide +kernel
theorem dX9_writeScore_63 : decode cX9_writeScore 63 = .ok (.getfield 49, 3) := by decide +kernel
theorem dX9_writeScore_66 : decode cX9_writeScore 66 = .ok (.getfield 325, 3) := by decide +kernel
theorem dX9_writeScore_69 : decode cX9_writeScore 69 = .ok (.getfield 157, 3) := by decide +kernel
theorem dX9_writeScore_72 : decode cX9_writeScore 72 = .ok (.iload_n 1, 1) := by decide +kernel
theorem dX9_writeScore_73 : decode cX9_writeScore 73 = .ok (.iaload, 1) := by decide +kernel
theorem dX9_writeScore_74 : decode cX9_writeScore 74 = .ok (.invokestatic 328, 3) := by decide +kernel
theorem dX9_writeScore_77 : decode cX9_writeScore 77 = .ok (.invokevirtual 300, 3) := by decide +kernel
theorem dX9_writeScore_80 : decode cX9_writeScore 80 = .ok (.aload_n 0, 1) := by decide +kernel
theorem dX9_writeScore_81 : decode cX9_writeScore 81 = .ok (.getfield 74, 3) := by decide +kernel
theorem dX9_writeScore_84 : decode cX9_writeScore 84 = .ok (.iload_n 2, 1) := by decide +kernel
theorem dX9_writeScore_85 : decode cX9_writeScore 85 = .ok (.ifCond .eq 9, 3) := by decide +kernel
theorem dX9_writeScore_88 : decode cX9_writeScore 88 = .ok (.ldc_w 332, 3) := by decide +kernel
theorem dX9_writeScore_91 : decode cX9_writeScore 91 = .ok (.goto 6, 3) := by decide +kernel
theorem dX9_writeScore_94 : decode cX9_writeScore 94 = .ok (.ldc_w 334, 3) := by decide +kernel
theorem dX9_writeScore_97 : decode cX9_writeScore 97 = .ok (.invokevirtual 300, 3) := by decide +kernel
theorem dX9_writeScore_100 : decode cX9_writeScore 100 = .ok (.return_, 1) := by decide +kernel
theorem dX9_shortName_0 : decode cX9_shortName 0 = .ok (.iload_n 0, 1) := by decide +kernel
theorem dX9_shortName_1 : decode cX9_shortName 1 = .ok (.tableswitch 97 0 8 #[51, 65, 69, 73, 77, 81, 85, 89, 93], 51) := by decide +kernel
theorem dX9_shortName_52 : decode cX9_shortName 52 = .ok (.iload_n 1, 1) := by decide +kernel
theorem dX9_shortName_53 : decode cX9_shortName 53 = .ok (.ifCond .ne 9, 3) := by decide +kernel
theorem dX9_shortName_56 : decode cX9_shortName 56 = .ok (.ldc_w 334, 3) := by decide +kernel
theorem dX9_shortName_59 : decode cX9_shortName 59 = .ok (.goto 6, 3) := by decide +kernel
theorem dX9_shortName_62 : decode cX9_shortName 62 = .ok (.ldc_w 336, 3) := by decide +kernel
theorem dX9_shortName_65 : decode cX9_shortName 65 = .ok (.areturn, 1) := by decide +kernel
theorem dX9_shortName_66 : decode cX9_shortName 66 = .ok (.ldc_w 338, 3) := by decide +kernel
theorem dX9_shortName_69 : decode cX9_shortName 69 = .ok (.areturn, 1) := by decide +kernel
theorem dX9_shortName_70 : decode cX9_shortName 70 = .ok (.ldc_w 340, 3) := by decide +kernel
theorem dX9_shortName_73 : decode cX9_shortName 73 = .ok (.areturn, 1) := by decide +kernel
theorem dX9_shortName_74 : decode cX9_shortName 74 = .ok (.ldc_w 342, 3) := by decide +kernel
theorem dX9_shortName_77 : decode cX9_shortName 77 = .ok (.areturn, 1) := by decide +kernel
theorem dX9_shortName_78 : decode cX9_shortName 78 = .ok (.ldc_w 344, 3) := by decide +kernel
theorem dX9_shortName_81 : decode cX9_shortName 81 = .ok (.areturn, 1) := by decide +kernel
theorem dX9_shortName_82 : decode cX9_shortName 82 = .ok (.ldc_w 346, 3) := by decide +kernel
theorem dX9_shortName_85 : decode cX9_shortName 85 = .ok (.areturn, 1) := by decide +kernel
theorem dX9_shortName_86 : decode cX9_shortName 86 = .ok (.ldc_w 348, 3) := by decide +kernel
theorem dX9_shortName_89 : decode cX9_shortName 89 = .ok (.areturn, 1) := by decide +kernel
theorem dX9_shortName_90 : decode cX9_shortName 90 = .ok (.ldc_w 350, 3) := by decide +kernel
theorem dX9_shortName_93 : decode cX9_shortName 93 = .ok (.areturn, 1) := by decide +kernel
theorem dX9_shortName_94 : decode cX9_shortName 94 = .ok (.ldc_w 352, 3) := by decide +kernel
theorem dX9_shortName_97 : decode cX9_shortName 97 = .ok (.areturn, 1) := by decide +kernel
theorem dX9_shortName_98 : decode cX9_shortName 98 = .ok (.ldc_w 354, 3) := by decide +kernel
theorem dX9_shortName_101 : decode cX9_shortName 101 = .ok (.areturn, 1) := by decide +kernel
theorem dJ9_min_7cf53_0 : decode cJ9_min_7cf53 0 = .ok (.iload_n 0, 1) := by decide +kernel
theorem dJ9_min_7cf53_1 : decode cJ9_min_7cf53 1 = .ok (.iload_n 1, 1) := by decide +kernel
theorem dJ9_min_7cf53_2 : decode cJ9_min_7cf53 2 = .ok (.if_icmp .gt 7, 3) := by decide +kernel
theorem dJ9_min_7cf53_5 : decode cJ9_min_7cf53 5 = .ok (.iload_n 0, 1) := by decide +kernel
theorem dJ9_min_7cf53_6 : decode cJ9_min_7cf53 6 = .ok (.goto 4, 3) := by decide +kernel
theorem dJ9_min_7cf53_9 : decode cJ9_min_7cf53 9 = .ok (.iload_n 1, 1) := by decide +kernel
theorem dJ9_min_7cf53_10 : decode cJ9_min_7cf53 10 = .ok (.ireturn, 1) := by decide +kernel
theorem dJ0_length_8abf5_0 : decode cJ0_length_8abf5 0 = .ok (.aload_n 0, 1) := by decide +kernel
theorem dJ0_length_8abf5_1 : decode cJ0_length_8abf5 1 = .ok (.getfield 9, 3) := by decide +kernel
theorem dJ0_length_8abf5_4 : decode cJ0_length_8abf5 4 = .ok (.arraylength, 1) := by decide +kernel
theorem dJ0_length_8abf5_5 : decode cJ0_length_8abf5 5 = .ok (.aload_n 0, 1) := by decide +kernel
theorem dJ0_length_8abf5_6 : decode cJ0_length_8abf5 6 = .ok (.invokevirtual 335, 3) := by decide +kernel
theorem dJ0_length_8abf5_9 : decode cJ0_length_8abf5 9 = .ok (.ishr, 1) := by decide +kernel
theorem dJ0_length_8abf5_10 : decode cJ0_length_8abf5 10 = .ok (.ireturn, 1) := by decide +kernel
theorem dJ0_charAt_5068e_0 : decode cJ0_charAt_5068e 0 = .ok (.aload_n 0, 1) := by decide +kernel
theorem dJ0_charAt_5068e_1 : decode cJ0_charAt_5068e 1 = .ok (.invokevirtual 492, 3) := by decide +kernel
theorem dJ0_charAt_5068e_4 : decode cJ0_charAt_5068e 4 = .ok (.ifCond .eq 12, 3) := by decide +kernel
theorem dJ0_charAt_5068e_7 : decode cJ0_charAt_5068e 7 = .ok (.aload_n 0, 1) := by decide +kernel
theorem dJ0_charAt_5068e_8 : decode cJ0_charAt_5068e 8 = .ok (.getfield 9, 3) := by decide +kernel
theorem dJ0_charAt_5068e_11 : decode cJ0_charAt_5068e 11 = .ok (.iload_n 1, 1) := by decide +kernel
theorem dJ0_charAt_5068e_12 : decode cJ0_charAt_5068e 12 = .ok (.invokestatic 495, 3) := by decide +kernel
theorem dJ0_charAt_5068e_15 : decode cJ0_charAt_5068e 15 = .ok (.ireturn, 1) := by decide +kernel
theorem dJ0_charAt_5068e_16 : decode cJ0_charAt_5068e 16 = .ok (.aload_n 0, 1) := by decide +kernel
theorem dJ0_charAt_5068e_17 : decode cJ0_charAt_5068e 17 = .ok (.getfield 9, 3) := by decide +kernel
theorem dJ0_charAt_5068e_20 : decode cJ0_charAt_5068e 20 = .ok (.iload_n 1, 1) := by decide +kernel
theorem dJ0_charAt_5068e_21 : decode cJ0_charAt_5068e 21 = .ok (.invokestatic 498, 3) := by decide +kernel
theorem dJ0_charAt_5068e_24 : decode cJ0_charAt_5068e 24 = .ok (.ireturn, 1) := by decide +kernel
theorem dJ0_coder_7d493_0 : decode cJ0_coder_7d493 0 = .ok (.getstatic 38, 3) := by decide +kernel
theorem dJ0_coder_7d493_3 : decode cJ0_coder_7d493 3 = .ok (.ifCond .eq 10, 3) := by decide +kernel
theorem dJ0_coder_7d493_6 : decode cJ0_coder_7d493 6 = .ok (.aload_n 0, 1) := by decide +kernel
theorem dJ0_coder_7d493_7 : decode cJ0_coder_7d493 7 = .ok (.getfield 15, 3) := by decide +kernel
theorem dJ0_coder_7d493_10 : decode cJ0_coder_7d493 10 = .ok (.goto 4, 3) := by decide +kernel
theorem dJ0_coder_7d493_13 : decode cJ0_coder_7d493 13 = .ok (.iconst 1, 1) := by decide +kernel
theorem dJ0_coder_7d493_14 : decode cJ0_coder_7d493 14 = .ok (.ireturn, 1) := by decide +kernel
theorem dJ0_isLatin1_aae02_0 : decode cJ0_isLatin1_aae02 0 = .ok (.getstatic 38, 3) := by decide +kernel
theorem dJ0_isLatin1_aae02_3 : decode cJ0_isLatin1_aae02 3 = .ok (.ifCond .eq 14, 3) := by decide +kernel
theorem dJ0_isLatin1_aae02_6 : decode cJ0_isLatin1_aae02 6 = .ok (.aload_n 0, 1) := by decide +kernel
theorem dJ0_isLatin1_aae02_7 : decode cJ0_isLatin1_aae02 7 = .ok (.getfield 15, 3) := by decide +kernel
theorem dJ0_isLatin1_aae02_10 : decode cJ0_isLatin1_aae02 10 = .ok (.ifCond .ne 7, 3) := by decide +kernel
theorem dJ0_isLatin1_aae02_13 : decode cJ0_isLatin1_aae02 13 = .ok (.iconst 1, 1) := by decide +kernel
theorem dJ0_isLatin1_aae02_14 : decode cJ0_isLatin1_aae02 14 = .ok (.goto 4, 3) := by decide +kernel
theorem dJ0_isLatin1_aae02_17 : decode cJ0_isLatin1_aae02 17 = .ok (.iconst 0, 1) := by decide +kernel
theorem dJ0_isLatin1_aae02_18 : decode cJ0_isLatin1_aae02 18 = .ok (.ireturn, 1) := by decide +kernel
theorem dJ0_checkIndex_df160_0 : decode cJ0_checkIndex_df160 0 = .ok (.iload_n 0, 1) := by decide +kernel
theorem dJ0_checkIndex_df160_1 : decode cJ0_checkIndex_df160 1 = .ok (.iload_n 1, 1) := by decide +kernel
theorem dJ0_checkIndex_df160_2 : decode cJ0_checkIndex_df160 2 = .ok (.getstatic 1053, 3) := by decide +kernel
theorem dJ0_checkIndex_df160_5 : decode cJ0_checkIndex_df160 5 = .ok (.invokestatic 1059, 3) := by decide +kernel
theorem dJ0_checkIndex_df160_8 : decode cJ0_checkIndex_df160 8 = .ok (.pop, 1) := by decide +kernel
theorem dJ0_checkIndex_df160_9 : decode cJ0_checkIndex_df160 9 = .ok (.return_, 1) := by decide +kernel
theorem dJ1_charAt_3b067_0 : decode cJ1_charAt_3b067 0 = .ok (.iload_n 1, 1) := by decide +kernel
theorem dJ1_charAt_3b067_1 : decode cJ1_charAt_3b067 1 = .ok (.aload_n 0, 1) := by decide +kernel
theorem dJ1_charAt_3b067_2 : decode cJ1_charAt_3b067 2 = .ok (.arraylength, 1) := by decide +kernel
theorem dJ1_charAt_3b067_3 : decode cJ1_charAt_3b067 3 = .ok (.invokestatic 9, 3) := by decide +kernel
theorem dJ1_charAt_3b067_6 : decode cJ1_charAt_3b067 6 = .ok (.aload_n 0, 1) := by decide +kernel
theorem dJ1_charAt_3b067_7 : decode cJ1_charAt_3b067 7 = .ok (.iload_n 1, 1) := by decide +kernel
theorem dJ1_charAt_3b067_8 : decode cJ1_charAt_3b067 8 = .ok (.baload, 1) := by decide +kernel
theorem dJ1_charAt_3b067_9 : decode cJ1_charAt_3b067 9 = .ok (.sipush 255, 3) := by decide +kernel
theorem dJ1_charAt_3b067_12 : decode cJ1_charAt_3b067 12 = .ok (.iand, 1) := by decide +kernel
theorem dJ1_charAt_3b067_13 : decode cJ1_charAt_3b067 13 = .ok (.i2c, 1) := by decide +kernel
theorem dJ1_charAt_3b067_14 : decode cJ1_charAt_3b067 14 = .ok (.ireturn, 1) := by decide +kernel
theorem dJ2_getChar_3b067_0 : decode cJ2_getChar_3b067 0 = .ok (.getstatic 44, 3) := by decide +kernel
theorem dJ2_getChar_3b067_3 : decode cJ2_getChar_3b067 3 = .ok (.ifCond .ne 25, 3) := by decide +kernel
theorem dJ2_getChar_3b067_6 : decode cJ2_getChar_3b067 6 = .ok (.iload_n 1, 1) := by decide +kernel
theorem dJ2_getChar_3b067_7 : decode cJ2_getChar_3b067 7 = .ok (.ifCond .lt 11, 3) := by decide +kernel
theorem dJ2_getChar_3b067_10 : decode cJ2_getChar_3b067 10 = .ok (.iload_n 1, 1) := by decide +kernel
theorem dJ2_getChar_3b067_11 : decode cJ2_getChar_3b067 11 = .ok (.aload_n 0, 1) := by decide +kernel
theorem dJ2_getChar_3b067_12 : decode cJ2_getChar_3b067 12 = .ok (.invokestatic 48, 3) := by decide +kernel
theorem dJ2_getChar_3b067_15 : decode cJ2_getChar_3b067 15 = .ok (.if_icmp .lt 13, 3) := by decide +kernel
theorem dJ2_getChar_3b067_18 : decode cJ2_getChar_3b067 18 = .ok (.new 52, 3) := by decide +kernel
theorem dJ2_getChar_3b067_21 : decode cJ2_getChar_3b067 21 = .ok (.dup, 1) := by decide +kernel
theorem dJ2_getChar_3b067_22 : decode cJ2_getChar_3b067 22 = .ok (.ldc 54, 2) := by decide +kernel
theorem dJ2_getChar_3b067_24 : decode cJ2_getChar_3b067 24 = .ok (.invokespecial 56, 3) := by decide +kernel
theorem dJ2_getChar_3b067_27 : decode cJ2_getChar_3b067 27 = .ok (.athrow, 1) := by decide +kernel
theorem dJ2_getChar_3b067_28 : decode cJ2_getChar_3b067 28 = .ok (.iload_n 1, 1) := by decide +kernel
theorem dJ2_getChar_3b067_29 : decode cJ2_getChar_3b067 29 = .ok (.iconst 1, 1) := by decide +kernel
theorem dJ2_getChar_3b067_30 : decode cJ2_getChar_3b067 30 = .ok (.ishl, 1) := by decide +kernel
theorem dJ2_getChar_3b067_31 : decode cJ2_getChar_3b067 31 = .ok (.istore_n 1, 1) := by decide +kernel
theorem dJ2_getChar_3b067_32 : decode cJ2_getChar_3b067 32 = .ok (.aload_n 0, 1) := by decide +kernel
theorem dJ2_getChar_3b067_33 : decode cJ2_getChar_3b067 33 = .ok (.iload_n 1, 1) := by decide +kernel
theorem dJ2_getChar_3b067_34 : decode cJ2_getChar_3b067 34 = .ok (.iinc 1 1, 3) := by decide +kernel
theorem dJ2_getChar_3b067_37 : decode cJ2_getChar_3b067 37 = .ok (.baload, 1) := by decide +kernel
theorem dJ2_getChar_3b067_38 : decode cJ2_getChar_3b067 38 = .ok (.sipush 255, 3) := by decide +kernel
theorem dJ2_getChar_3b067_41 : decode cJ2_getChar_3b067 41 = .ok (.iand, 1) := by decide +kernel
theorem dJ2_getChar_3b067_42 : decode cJ2_getChar_3b067 42 = .ok (.getstatic 59, 3) := by decide +kernel
theorem dJ2_getChar_3b067_45 : decode cJ2_getChar_3b067 45 = .ok (.ishl, 1) := by decide +kernel
theorem dJ2_getChar_3b067_46 : decode cJ2_getChar_3b067 46 = .ok (.aload_n 0, 1) := by decide +kernel
theorem dJ2_getChar_3b067_47 : decode cJ2_getChar_3b067 47 = .ok (.iload_n 1, 1) := by decide +kernel
theorem dJ2_getChar_3b067_48 : decode cJ2_getChar_3b067 48 = .ok (.baload, 1) := by decide +kernel
theorem dJ2_getChar_3b067_49 : decode cJ2_getChar_3b067 49 = .ok (.sipush 255, 3) := by decide +kernel
theorem dJ2_getChar_3b067_52 : decode cJ2_getChar_3b067 52 = .ok (.iand, 1) := by decide +kernel
theorem dJ2_getChar_3b067_53 : decode cJ2_getChar_3b067 53 = .ok (.getstatic 63, 3) := by decide +kernel
theorem dJ2_getChar_3b067_56 : decode cJ2_getChar_3b067 56 = .ok (.ishl, 1) := by decide +kernel
theorem dJ2_getChar_3b067_57 : decode cJ2_getChar_3b067 57 = .ok (.ior, 1) := by decide +kernel
theorem dJ2_getChar_3b067_58 : decode cJ2_getChar_3b067 58 = .ok (.i2c, 1) := by decide +kernel
theorem dJ2_getChar_3b067_59 : decode cJ2_getChar_3b067 59 = .ok (.ireturn, 1) := by decide +kernel
theorem dJ2_length_9d52b_0 : decode cJ2_length_9d52b 0 = .ok (.aload_n 0, 1) := by decide +kernel
theorem dJ2_length_9d52b_1 : decode cJ2_length_9d52b 1 = .ok (.arraylength, 1) := by decide +kernel
theorem dJ2_length_9d52b_2 : decode cJ2_length_9d52b 2 = .ok (.iconst 1, 1) := by decide +kernel
theorem dJ2_length_9d52b_3 : decode cJ2_length_9d52b 3 = .ok (.ishr, 1) := by decide +kernel
theorem dJ2_length_9d52b_4 : decode cJ2_length_9d52b 4 = .ok (.ireturn, 1) := by decide +kernel
theorem dJ2_charAt_3b067_0 : decode cJ2_charAt_3b067 0 = .ok (.iload_n 1, 1) := by decide +kernel
theorem dJ2_charAt_3b067_1 : decode cJ2_charAt_3b067 1 = .ok (.aload_n 0, 1) := by decide +kernel
theorem dJ2_charAt_3b067_2 : decode cJ2_charAt_3b067 2 = .ok (.invokestatic 67, 3) := by decide +kernel
theorem dJ2_charAt_3b067_5 : decode cJ2_charAt_3b067 5 = .ok (.aload_n 0, 1) := by decide +kernel
theorem dJ2_charAt_3b067_6 : decode cJ2_charAt_3b067 6 = .ok (.iload_n 1, 1) := by decide +kernel
theorem dJ2_charAt_3b067_7 : decode cJ2_charAt_3b067 7 = .ok (.invokestatic 71, 3) := by decide +kernel
theorem dJ2_charAt_3b067_10 : decode cJ2_charAt_3b067 10 = .ok (.ireturn, 1) := by decide +kernel
theorem dJ2_checkIndex_2214a_0 : decode cJ2_checkIndex_2214a 0 = .ok (.iload_n 0, 1) := by decide +kernel
theorem dJ2_checkIndex_2214a_1 : decode cJ2_checkIndex_2214a 1 = .ok (.aload_n 1, 1) := by decide +kernel
theorem dJ2_checkIndex_2214a_2 : decode cJ2_checkIndex_2214a 2 = .ok (.invokestatic 48, 3) := by decide +kernel
theorem dJ2_checkIndex_2214a_5 : decode cJ2_checkIndex_2214a 5 = .ok (.invokestatic 414, 3) := by decide +kernel
theorem dJ2_checkIndex_2214a_8 : decode cJ2_checkIndex_2214a 8 = .ok (.return_, 1) := by decide +kernel
theorem dJ7_fill_53178_0 : decode cJ7_fill_53178 0 = .ok (.iconst 0, 1) := by decide +kernel
theorem dJ7_fill_53178_1 : decode cJ7_fill_53178 1 = .ok (.istore_n 2, 1) := by decide +kernel
theorem dJ7_fill_53178_2 : decode cJ7_fill_53178 2 = .ok (.aload_n 0, 1) := by decide +kernel
theorem dJ7_fill_53178_3 : decode cJ7_fill_53178 3 = .ok (.arraylength, 1) := by decide +kernel
theorem dJ7_fill_53178_4 : decode cJ7_fill_53178 4 = .ok (.istore_n 3, 1) := by decide +kernel
theorem dJ7_fill_53178_5 : decode cJ7_fill_53178 5 = .ok (.iload_n 2, 1) := by decide +kernel
theorem dJ7_fill_53178_6 : decode cJ7_fill_53178 6 = .ok (.iload_n 3, 1) := by decide +kernel
theorem dJ7_fill_53178_7 : decode cJ7_fill_53178 7 = .ok (.if_icmp .ge 13, 3) := by decide +kernel
theorem dJ7_fill_53178_10 : decode cJ7_fill_53178 10 = .ok (.aload_n 0, 1) := by decide +kernel
theorem dJ7_fill_53178_11 : decode cJ7_fill_53178 11 = .ok (.iload_n 2, 1) := by decide +kernel
theorem dJ7_fill_53178_12 : decode cJ7_fill_53178 12 = .ok (.iload_n 1, 1) := by decide +kernel
theorem dJ7_fill_53178_13 : decode cJ7_fill_53178 13 = .ok (.iastore, 1) := by decide +kernel
theorem dJ7_fill_53178_14 : decode cJ7_fill_53178 14 = .ok (.iinc 2 1, 3) := by decide +kernel
theorem dJ7_fill_53178_17 : decode cJ7_fill_53178 17 = .ok (.goto (-12), 3) := by decide +kernel
theorem dJ7_fill_53178_20 : decode cJ7_fill_53178 20 = .ok (.return_, 1) := by decide +kernel
theorem dJ3_checkIndex_8e157_0 : decode cJ3_checkIndex_8e157 0 = .ok (.iload_n 0, 1) := by decide +kernel
theorem dJ3_checkIndex_8e157_1 : decode cJ3_checkIndex_8e157 1 = .ok (.ifCond .lt 8, 3) := by decide +kernel
theorem dJ3_checkIndex_8e157_4 : decode cJ3_checkIndex_8e157 4 = .ok (.iload_n 0, 1) := by decide +kernel
theorem dJ3_checkIndex_8e157_5 : decode cJ3_checkIndex_8e157 5 = .ok (.iload_n 1, 1) := by decide +kernel
theorem dJ3_checkIndex_8e157_6 : decode cJ3_checkIndex_8e157 6 = .ok (.if_icmp .lt 10, 3) := by decide +kernel
theorem dJ3_checkIndex_8e157_9 : decode cJ3_checkIndex_8e157 9 = .ok (.aload_n 2, 1) := by decide +kernel
theorem dJ3_checkIndex_8e157_10 : decode cJ3_checkIndex_8e157 10 = .ok (.iload_n 0, 1) := by decide +kernel
theorem dJ3_checkIndex_8e157_11 : decode cJ3_checkIndex_8e157 11 = .ok (.iload_n 1, 1) := by decide +kernel
theorem dJ3_checkIndex_8e157_12 : decode cJ3_checkIndex_8e157 12 = .ok (.invokestatic 95, 3) := by decide +kernel
theorem dJ3_checkIndex_8e157_15 : decode cJ3_checkIndex_8e157 15 = .ok (.athrow, 1) := by decide +kernel
theorem dJ3_checkIndex_8e157_16 : decode cJ3_checkIndex_8e157 16 = .ok (.iload_n 0, 1) := by decide +kernel
theorem dJ3_checkIndex_8e157_17 : decode cJ3_checkIndex_8e157 17 = .ok (.ireturn, 1) := by decide +kernel
