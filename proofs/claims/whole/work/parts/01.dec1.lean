theorem dX0_init_0 : decode cX0_init 0 = .ok (.aload_n 0, 1) := by decide +kernel
theorem dX0_init_1 : decode cX0_init 1 = .ok (.invokespecial 3, 3) := by decide +kernel
theorem dX0_init_4 : decode cX0_init 4 = .ok (.aload_n 0, 1) := by decide +kernel
theorem dX0_init_5 : decode cX0_init 5 = .ok (.iconst (-1), 1) := by decide +kernel
theorem dX0_init_6 : decode cX0_init 6 = .ok (.putfield 9, 3) := by decide +kernel
theorem dX0_init_9 : decode cX0_init 9 = .ok (.aload_n 0, 1) := by decide +kernel
theorem dX0_init_10 : decode cX0_init 10 = .ok (.iconst (-1), 1) := by decide +kernel
theorem dX0_init_11 : decode cX0_init 11 = .ok (.putfield 15, 3) := by decide +kernel
theorem dX0_init_14 : decode cX0_init 14 = .ok (.return_, 1) := by decide +kernel
theorem dX0_become_0 : decode cX0_become 0 = .ok (.aload_n 0, 1) := by decide +kernel
theorem dX0_become_1 : decode cX0_become 1 = .ok (.iload_n 1, 1) := by decide +kernel
theorem dX0_become_2 : decode cX0_become 2 = .ok (.putfield 18, 3) := by decide +kernel
theorem dX0_become_5 : decode cX0_become 5 = .ok (.aload_n 0, 1) := by decide +kernel
theorem dX0_become_6 : decode cX0_become 6 = .ok (.lload_n 2, 1) := by decide +kernel
theorem dX0_become_7 : decode cX0_become 7 = .ok (.putfield 21, 3) := by decide +kernel
theorem dX0_become_10 : decode cX0_become 10 = .ok (.aload_n 0, 1) := by decide +kernel
theorem dX0_become_11 : decode cX0_become 11 = .ok (.iload 4, 2) := by decide +kernel
theorem dX0_become_13 : decode cX0_become 13 = .ok (.putfield 9, 3) := by decide +kernel
theorem dX0_become_16 : decode cX0_become 16 = .ok (.aload_n 0, 1) := by decide +kernel
theorem dX0_become_17 : decode cX0_become 17 = .ok (.iload 5, 2) := by decide +kernel
theorem dX0_become_19 : decode cX0_become 19 = .ok (.putfield 15, 3) := by decide +kernel
theorem dX0_become_22 : decode cX0_become 22 = .ok (.return_, 1) := by decide +kernel
theorem dX0_becomeNone_0 : decode cX0_becomeNone 0 = .ok (.aload_n 0, 1) := by decide +kernel
theorem dX0_becomeNone_1 : decode cX0_becomeNone 1 = .ok (.iconst 0, 1) := by decide +kernel
theorem dX0_becomeNone_2 : decode cX0_becomeNone 2 = .ok (.lconst 0, 1) := by decide +kernel
theorem dX0_becomeNone_3 : decode cX0_becomeNone 3 = .ok (.iconst (-1), 1) := by decide +kernel
theorem dX0_becomeNone_4 : decode cX0_becomeNone 4 = .ok (.iconst (-1), 1) := by decide +kernel
theorem dX0_becomeNone_5 : decode cX0_becomeNone 5 = .ok (.invokevirtual 25, 3) := by decide +kernel
theorem dX0_becomeNone_8 : decode cX0_becomeNone 8 = .ok (.return_, 1) := by decide +kernel
theorem dX0_becomeAs_0 : decode cX0_becomeAs 0 = .ok (.aload_n 0, 1) := by decide +kernel
theorem dX0_becomeAs_1 : decode cX0_becomeAs 1 = .ok (.aload_n 1, 1) := by decide +kernel
theorem dX0_becomeAs_2 : decode cX0_becomeAs 2 = .ok (.getfield 18, 3) := by decide +kernel
theorem dX0_becomeAs_5 : decode cX0_becomeAs 5 = .ok (.aload_n 1, 1) := by decide +kernel
theorem dX0_becomeAs_6 : decode cX0_becomeAs 6 = .ok (.getfield 21, 3) := by decide +kernel
theorem dX0_becomeAs_9 : decode cX0_becomeAs 9 = .ok (.aload_n 1, 1) := by decide +kernel
theorem dX0_becomeAs_10 : decode cX0_becomeAs 10 = .ok (.getfield 9, 3) := by decide +kernel
theorem dX0_becomeAs_13 : decode cX0_becomeAs 13 = .ok (.aload_n 1, 1) := by decide +kernel
theorem dX0_becomeAs_14 : decode cX0_becomeAs 14 = .ok (.getfield 15, 3) := by decide +kernel
theorem dX0_becomeAs_17 : decode cX0_becomeAs 17 = .ok (.invokevirtual 25, 3) := by decide +kernel
theorem dX0_becomeAs_20 : decode cX0_becomeAs 20 = .ok (.return_, 1) := by decide +kernel
theorem dX1_init_0 : decode cX1_init 0 = .ok (.aload_n 0, 1) := by decide +kernel
theorem dX1_init_1 : decode cX1_init 1 = .ok (.invokespecial 3, 3) := by decide +kernel
theorem dX1_init_4 : decode cX1_init 4 = .ok (.aload_n 0, 1) := by decide +kernel
theorem dX1_init_5 : decode cX1_init 5 = .ok (.bipush 6, 2) := by decide +kernel
theorem dX1_init_7 : decode cX1_init 7 = .ok (.newarray .long, 2) := by decide +kernel
theorem dX1_init_9 : decode cX1_init 9 = .ok (.putfield 9, 3) := by decide +kernel
theorem dX1_init_12 : decode cX1_init 12 = .ok (.aload_n 0, 1) := by decide +kernel
theorem dX1_init_13 : decode cX1_init 13 = .ok (.bipush 8, 2) := by decide +kernel
theorem dX1_init_15 : decode cX1_init 15 = .ok (.newarray .long, 2) := by decide +kernel
theorem dX1_init_17 : decode cX1_init 17 = .ok (.putfield 15, 3) := by decide +kernel
theorem dX1_init_20 : decode cX1_init 20 = .ok (.aload_n 0, 1) := by decide +kernel
theorem dX1_init_21 : decode cX1_init 21 = .ok (.new 18, 3) := by decide +kernel
theorem dX1_init_24 : decode cX1_init 24 = .ok (.dup, 1) := by decide +kernel
theorem dX1_init_25 : decode cX1_init 25 = .ok (.invokespecial 20, 3) := by decide +kernel
theorem dX1_init_28 : decode cX1_init 28 = .ok (.putfield 21, 3) := by decide +kernel
theorem dX1_init_31 : decode cX1_init 31 = .ok (.return_, 1) := by decide +kernel
theorem dX1_beginWith_0 : decode cX1_beginWith 0 = .ok (.aload_n 0, 1) := by decide +kernel
theorem dX1_beginWith_1 : decode cX1_beginWith 1 = .ok (.aload_n 2, 1) := by decide +kernel
theorem dX1_beginWith_2 : decode cX1_beginWith 2 = .ok (.putfield 25, 3) := by decide +kernel
theorem dX1_beginWith_5 : decode cX1_beginWith 5 = .ok (.aload_n 0, 1) := by decide +kernel
theorem dX1_beginWith_6 : decode cX1_beginWith 6 = .ok (.iload_n 1, 1) := by decide +kernel
theorem dX1_beginWith_7 : decode cX1_beginWith 7 = .ok (.putfield 29, 3) := by decide +kernel
theorem dX1_beginWith_10 : decode cX1_beginWith 10 = .ok (.aload_n 0, 1) := by decide +kernel
theorem dX1_beginWith_11 : decode cX1_beginWith 11 = .ok (.iconst 0, 1) := by decide +kernel
theorem dX1_beginWith_12 : decode cX1_beginWith 12 = .ok (.putfield 33, 3) := by decide +kernel
theorem dX1_beginWith_15 : decode cX1_beginWith 15 = .ok (.aload_n 0, 1) := by decide +kernel
theorem dX1_beginWith_16 : decode cX1_beginWith 16 = .ok (.iconst 0, 1) := by decide +kernel
theorem dX1_beginWith_17 : decode cX1_beginWith 17 = .ok (.putfield 36, 3) := by decide +kernel
theorem dX1_beginWith_20 : decode cX1_beginWith 20 = .ok (.aload_n 0, 1) := by decide +kernel
theorem dX1_beginWith_21 : decode cX1_beginWith 21 = .ok (.iconst 0, 1) := by decide +kernel
theorem dX1_beginWith_22 : decode cX1_beginWith 22 = .ok (.putfield 39, 3) := by decide +kernel
theorem dX1_beginWith_25 : decode cX1_beginWith 25 = .ok (.aload_n 0, 1) := by decide +kernel
theorem dX1_beginWith_26 : decode cX1_beginWith 26 = .ok (.iconst 0, 1) := by decide +kernel
theorem dX1_beginWith_27 : decode cX1_beginWith 27 = .ok (.putfield 42, 3) := by decide +kernel
theorem dX1_beginWith_30 : decode cX1_beginWith 30 = .ok (.aload_n 0, 1) := by decide +kernel
theorem dX1_beginWith_31 : decode cX1_beginWith 31 = .ok (.getfield 9, 3) := by decide +kernel
theorem dX1_beginWith_34 : decode cX1_beginWith 34 = .ok (.lconst 0, 1) := by decide +kernel
theorem dX1_beginWith_35 : decode cX1_beginWith 35 = .ok (.invokestatic 46, 3) := by decide +kernel
theorem dX1_beginWith_38 : decode cX1_beginWith 38 = .ok (.return_, 1) := by decide +kernel
theorem dX1_take_0 : decode cX1_take 0 = .ok (.aload_n 0, 1) := by decide +kernel
theorem dX1_take_1 : decode cX1_take 1 = .ok (.getfield 39, 3) := by decide +kernel
theorem dX1_take_4 : decode cX1_take 4 = .ok (.iload_n 1, 1) := by decide +kernel
theorem dX1_take_5 : decode cX1_take 5 = .ok (.if_icmp .ge 5, 3) := by decide +kernel
theorem dX1_take_8 : decode cX1_take 8 = .ok (.iconst 0, 1) := by decide +kernel
theorem dX1_take_9 : decode cX1_take 9 = .ok (.ireturn, 1) := by decide +kernel
theorem dX1_take_10 : decode cX1_take 10 = .ok (.aload_n 0, 1) := by decide +kernel
theorem dX1_take_11 : decode cX1_take 11 = .ok (.dup, 1) := by decide +kernel
theorem dX1_take_12 : decode cX1_take 12 = .ok (.getfield 39, 3) := by decide +kernel
theorem dX1_take_15 : decode cX1_take 15 = .ok (.iload_n 1, 1) := by decide +kernel
theorem dX1_take_16 : decode cX1_take 16 = .ok (.isub, 1) := by decide +kernel
theorem dX1_take_17 : decode cX1_take 17 = .ok (.putfield 39, 3) := by decide +kernel
theorem dX1_take_20 : decode cX1_take 20 = .ok (.iconst 1, 1) := by decide +kernel
theorem dX1_take_21 : decode cX1_take 21 = .ok (.ireturn, 1) := by decide +kernel
theorem dX1_taken_0 : decode cX1_taken 0 = .ok (.aload_n 0, 1) := by decide +kernel
theorem dX1_taken_1 : decode cX1_taken 1 = .ok (.getfield 39, 3) := by decide +kernel
theorem dX1_taken_4 : decode cX1_taken 4 = .ok (.iload_n 1, 1) := by decide +kernel
theorem dX1_taken_5 : decode cX1_taken 5 = .ok (.iadd, 1) := by decide +kernel
theorem dX1_taken_6 : decode cX1_taken 6 = .ok (.istore_n 2, 1) := by decide +kernel
theorem dX1_taken_7 : decode cX1_taken 7 = .ok (.iload_n 2, 1) := by decide +kernel
theorem dX1_taken_8 : decode cX1_taken 8 = .ok (.bipush 8, 2) := by decide +kernel
theorem dX1_taken_10 : decode cX1_taken 10 = .ok (.if_icmp .ge 12, 3) := by decide +kernel
theorem dX1_taken_13 : decode cX1_taken 13 = .ok (.aload_n 0, 1) := by decide +kernel
theorem dX1_taken_14 : decode cX1_taken 14 = .ok (.getfield 15, 3) := by decide +kernel
theorem dX1_taken_17 : decode cX1_taken 17 = .ok (.iload_n 2, 1) := by decide +kernel
theorem dX1_taken_18 : decode cX1_taken 18 = .ok (.laload, 1) := by decide +kernel
theorem dX1_taken_19 : decode cX1_taken 19 = .ok (.goto 4, 3) := by decide +kernel
theorem dX1_taken_22 : decode cX1_taken 22 = .ok (.lconst 0, 1) := by decide +kernel
theorem dX1_taken_23 : decode cX1_taken 23 = .ok (.lreturn, 1) := by decide +kernel
theorem dX1_lay_0 : decode cX1_lay 0 = .ok (.aload_n 0, 1) := by decide +kernel
theorem dX1_lay_1 : decode cX1_lay 1 = .ok (.getfield 39, 3) := by decide +kernel
theorem dX1_lay_4 : decode cX1_lay 4 = .ok (.bipush 8, 2) := by decide +kernel
theorem dX1_lay_6 : decode cX1_lay 6 = .ok (.if_icmp .lt 6, 3) := by decide +kernel
theorem dX1_lay_9 : decode cX1_lay 9 = .ok (.bipush 8, 2) := by decide +kernel
theorem dX1_lay_11 : decode cX1_lay 11 = .ok (.ireturn, 1) := by decide +kernel
theorem dX1_lay_12 : decode cX1_lay 12 = .ok (.aload_n 0, 1) := by decide +kernel
theorem dX1_lay_13 : decode cX1_lay 13 = .ok (.getfield 15, 3) := by decide +kernel
theorem dX1_lay_16 : decode cX1_lay 16 = .ok (.aload_n 0, 1) := by decide +kernel
theorem dX1_lay_17 : decode cX1_lay 17 = .ok (.getfield 39, 3) := by decide +kernel
theorem dX1_lay_20 : decode cX1_lay 20 = .ok (.lload_n 1, 1) := by decide +kernel
theorem dX1_lay_21 : decode cX1_lay 21 = .ok (.lastore, 1) := by decide +kernel
theorem dX1_lay_22 : decode cX1_lay 22 = .ok (.aload_n 0, 1) := by decide +kernel
theorem dX1_lay_23 : decode cX1_lay 23 = .ok (.dup, 1) := by decide +kernel
theorem dX1_lay_24 : decode cX1_lay 24 = .ok (.getfield 39, 3) := by decide +kernel
theorem dX1_lay_27 : decode cX1_lay 27 = .ok (.iconst 1, 1) := by decide +kernel
theorem dX1_lay_28 : decode cX1_lay 28 = .ok (.iadd, 1) := by decide +kernel
theorem dX1_lay_29 : decode cX1_lay 29 = .ok (.putfield 39, 3) := by decide +kernel
theorem dX1_lay_32 : decode cX1_lay 32 = .ok (.iconst 0, 1) := by decide +kernel
theorem dX1_lay_33 : decode cX1_lay 33 = .ok (.ireturn, 1) := by decide +kernel
theorem dX1_local_0 : decode cX1_local 0 = .ok (.iload_n 1, 1) := by decide +kernel
theorem dX1_local_1 : decode cX1_local 1 = .ok (.ifCond .lt 18, 3) := by decide +kernel
theorem dX1_local_4 : decode cX1_local 4 = .ok (.iload_n 1, 1) := by decide +kernel
theorem dX1_local_5 : decode cX1_local 5 = .ok (.bipush 6, 2) := by decide +kernel
theorem dX1_local_7 : decode cX1_local 7 = .ok (.if_icmp .ge 12, 3) := by decide +kernel
theorem dX1_local_10 : decode cX1_local 10 = .ok (.aload_n 0, 1) := by decide +kernel
theorem dX1_local_11 : decode cX1_local 11 = .ok (.getfield 9, 3) := by decide +kernel
theorem dX1_local_14 : decode cX1_local 14 = .ok (.iload_n 1, 1) := by decide +kernel
theorem dX1_local_15 : decode cX1_local 15 = .ok (.laload, 1) := by decide +kernel
theorem dX1_local_16 : decode cX1_local 16 = .ok (.goto 4, 3) := by decide +kernel
theorem dX1_local_19 : decode cX1_local 19 = .ok (.lconst 0, 1) := by decide +kernel
theorem dX1_local_20 : decode cX1_local 20 = .ok (.lreturn, 1) := by decide +kernel
theorem dX1_setLocal_0 : decode cX1_setLocal 0 = .ok (.iload_n 1, 1) := by decide +kernel
theorem dX1_setLocal_1 : decode cX1_setLocal 1 = .ok (.ifCond .lt 16, 3) := by decide +kernel
theorem dX1_setLocal_4 : decode cX1_setLocal 4 = .ok (.iload_n 1, 1) := by decide +kernel
theorem dX1_setLocal_5 : decode cX1_setLocal 5 = .ok (.bipush 6, 2) := by decide +kernel
theorem dX1_setLocal_7 : decode cX1_setLocal 7 = .ok (.if_icmp .ge 10, 3) := by decide +kernel
theorem dX1_setLocal_10 : decode cX1_setLocal 10 = .ok (.aload_n 0, 1) := by decide +kernel
theorem dX1_setLocal_11 : decode cX1_setLocal 11 = .ok (.getfield 9, 3) := by decide +kernel
theorem dX1_setLocal_14 : decode cX1_setLocal 14 = .ok (.iload_n 1, 1) := by decide +kernel
theorem dX1_setLocal_15 : decode cX1_setLocal 15 = .ok (.lload_n 2, 1) := by decide +kernel
theorem dX1_setLocal_16 : decode cX1_setLocal 16 = .ok (.lastore, 1) := by decide +kernel
theorem dX1_setLocal_17 : decode cX1_setLocal 17 = .ok (.return_, 1) := by decide +kernel
theorem dX1_beginsLast_0 : decode cX1_beginsLast 0 = .ok (.aload_n 0, 1) := by decide +kernel
theorem dX1_beginsLast_1 : decode cX1_beginsLast 1 = .ok (.getfield 42, 3) := by decide +kernel
theorem dX1_beginsLast_4 : decode cX1_beginsLast 4 = .ok (.ifCond .ne 20, 3) := by decide +kernel
theorem dX1_beginsLast_7 : decode cX1_beginsLast 7 = .ok (.aload_n 0, 1) := by decide +kernel
theorem dX1_beginsLast_8 : decode cX1_beginsLast 8 = .ok (.getfield 25, 3) := by decide +kernel
theorem dX1_beginsLast_11 : decode cX1_beginsLast 11 = .ok (.aload_n 0, 1) := by decide +kernel
theorem dX1_beginsLast_12 : decode cX1_beginsLast 12 = .ok (.getfield 25, 3) := by decide +kernel
theorem dX1_beginsLast_15 : decode cX1_beginsLast 15 = .ok (.getfield 52, 3) := by decide +kernel
theorem dX1_beginsLast_18 : decode cX1_beginsLast 18 = .ok (.invokevirtual 57, 3) := by decide +kernel
theorem dX1_beginsLast_21 : decode cX1_beginsLast 21 = .ok (.ifCond .ne 5, 3) := by decide +kernel
theorem dX1_beginsLast_24 : decode cX1_beginsLast 24 = .ok (.iconst 0, 1) := by decide +kernel
theorem dX1_beginsLast_25 : decode cX1_beginsLast 25 = .ok (.ireturn, 1) := by decide +kernel
theorem dX1_beginsLast_26 : decode cX1_beginsLast 26 = .ok (.aload_n 0, 1) := by decide +kernel
theorem dX1_beginsLast_27 : decode cX1_beginsLast 27 = .ok (.iconst 1, 1) := by decide +kernel
theorem dX1_beginsLast_28 : decode cX1_beginsLast 28 = .ok (.putfield 42, 3) := by decide +kernel
theorem dX1_beginsLast_31 : decode cX1_beginsLast 31 = .ok (.aload_n 0, 1) := by decide +kernel
theorem dX1_beginsLast_32 : decode cX1_beginsLast 32 = .ok (.iconst 0, 1) := by decide +kernel
theorem dX1_beginsLast_33 : decode cX1_beginsLast 33 = .ok (.putfield 39, 3) := by decide +kernel
theorem dX1_beginsLast_36 : decode cX1_beginsLast 36 = .ok (.aload_n 0, 1) := by decide +kernel
theorem dX1_beginsLast_37 : decode cX1_beginsLast 37 = .ok (.aload_n 0, 1) := by decide +kernel
theorem dX1_beginsLast_38 : decode cX1_beginsLast 38 = .ok (.getfield 25, 3) := by decide +kernel
theorem dX1_beginsLast_41 : decode cX1_beginsLast 41 = .ok (.getfield 52, 3) := by decide +kernel
theorem dX1_beginsLast_44 : decode cX1_beginsLast 44 = .ok (.putfield 36, 3) := by decide +kernel
theorem dX1_beginsLast_47 : decode cX1_beginsLast 47 = .ok (.iconst 1, 1) := by decide +kernel
theorem dX1_beginsLast_48 : decode cX1_beginsLast 48 = .ok (.ireturn, 1) := by decide +kernel
theorem dX1_putNumberAside_0 : decode cX1_putNumberAside 0 = .ok (.aload_n 0, 1) := by decide +kernel
theorem dX1_putNumberAside_1 : decode cX1_putNumberAside 1 = .ok (.iconst 0, 1) := by decide +kernel
theorem dX1_putNumberAside_2 : decode cX1_putNumberAside 2 = .ok (.putfield 61, 3) := by decide +kernel
theorem dX1_putNumberAside_5 : decode cX1_putNumberAside 5 = .ok (.aload_n 0, 1) := by decide +kernel
theorem dX1_putNumberAside_6 : decode cX1_putNumberAside 6 = .ok (.lload_n 1, 1) := by decide +kernel
theorem dX1_putNumberAside_7 : decode cX1_putNumberAside 7 = .ok (.putfield 64, 3) := by decide +kernel
theorem dX1_putNumberAside_10 : decode cX1_putNumberAside 10 = .ok (.return_, 1) := by decide +kernel
theorem dX1_putFaultAside_0 : decode cX1_putFaultAside 0 = .ok (.aload_n 0, 1) := by decide +kernel
theorem dX1_putFaultAside_1 : decode cX1_putFaultAside 1 = .ok (.iconst 1, 1) := by decide +kernel
theorem dX1_putFaultAside_2 : decode cX1_putFaultAside 2 = .ok (.putfield 61, 3) := by decide +kernel
theorem dX1_putFaultAside_5 : decode cX1_putFaultAside 5 = .ok (.aload_n 0, 1) := by decide +kernel
theorem dX1_putFaultAside_6 : decode cX1_putFaultAside 6 = .ok (.getfield 21, 3) := by decide +kernel
theorem dX1_putFaultAside_9 : decode cX1_putFaultAside 9 = .ok (.aload_n 1, 1) := by decide +kernel
theorem dX1_putFaultAside_10 : decode cX1_putFaultAside 10 = .ok (.invokevirtual 68, 3) := by decide +kernel
theorem dX1_putFaultAside_13 : decode cX1_putFaultAside 13 = .ok (.return_, 1) := by decide +kernel
theorem dX1_goOn_0 : decode cX1_goOn 0 = .ok (.aload_n 0, 1) := by decide +kernel
theorem dX1_goOn_1 : decode cX1_goOn 1 = .ok (.getfield 25, 3) := by decide +kernel
theorem dX1_goOn_4 : decode cX1_goOn 4 = .ok (.aload_n 0, 1) := by decide +kernel
theorem dX1_goOn_5 : decode cX1_goOn 5 = .ok (.getfield 36, 3) := by decide +kernel
theorem dX1_goOn_8 : decode cX1_goOn 8 = .ok (.invokevirtual 57, 3) := by decide +kernel
theorem dX1_goOn_11 : decode cX1_goOn 11 = .ok (.ifCond .ne 6, 3) := by decide +kernel
theorem dX1_goOn_14 : decode cX1_goOn 14 = .ok (.bipush 10, 2) := by decide +kernel
theorem dX1_goOn_16 : decode cX1_goOn 16 = .ok (.ireturn, 1) := by decide +kernel
theorem dX1_goOn_17 : decode cX1_goOn 17 = .ok (.aload_n 0, 1) := by decide +kernel
theorem dX1_goOn_18 : decode cX1_goOn 18 = .ok (.aload_n 0, 1) := by decide +kernel
theorem dX1_goOn_19 : decode cX1_goOn 19 = .ok (.getfield 36, 3) := by decide +kernel
theorem dX1_goOn_22 : decode cX1_goOn 22 = .ok (.putfield 33, 3) := by decide +kernel
theorem dX1_goOn_25 : decode cX1_goOn 25 = .ok (.iconst 0, 1) := by decide +kernel
theorem dX1_goOn_26 : decode cX1_goOn 26 = .ok (.ireturn, 1) := by decide +kernel
theorem dX2_init_0 : decode cX2_init 0 = .ok (.aload_n 0, 1) := by decide +kernel
theorem dX2_init_1 : decode cX2_init 1 = .ok (.invokespecial 3, 3) := by decide +kernel
theorem dX2_init_4 : decode cX2_init 4 = .ok (.aload_n 0, 1) := by decide +kernel
theorem dX2_init_5 : decode cX2_init 5 = .ok (.iconst 3, 1) := by decide +kernel
theorem dX2_init_6 : decode cX2_init 6 = .ok (.anewarray 9, 3) := by decide +kernel
theorem dX2_init_9 : decode cX2_init 9 = .ok (.putfield 11, 3) := by decide +kernel
theorem dX2_init_12 : decode cX2_init 12 = .ok (.aload_n 0, 1) := by decide +kernel
theorem dX2_init_13 : decode cX2_init 13 = .ok (.iconst 3, 1) := by decide +kernel
theorem dX2_init_14 : decode cX2_init 14 = .ok (.anewarray 17, 3) := by decide +kernel
theorem dX2_init_17 : decode cX2_init 17 = .ok (.putfield 19, 3) := by decide +kernel
theorem dX2_init_20 : decode cX2_init 20 = .ok (.iconst 0, 1) := by decide +kernel
theorem dX2_init_21 : decode cX2_init 21 = .ok (.istore_n 1, 1) := by decide +kernel
theorem dX2_init_22 : decode cX2_init 22 = .ok (.iload_n 1, 1) := by decide +kernel
theorem dX2_init_23 : decode cX2_init 23 = .ok (.iconst 3, 1) := by decide +kernel
theorem dX2_init_24 : decode cX2_init 24 = .ok (.if_icmp .ge 35, 3) := by decide +kernel
theorem dX2_init_27 : decode cX2_init 27 = .ok (.aload_n 0, 1) := by decide +kernel
theorem dX2_init_28 : decode cX2_init 28 = .ok (.getfield 11, 3) := by decide +kernel
theorem dX2_init_31 : decode cX2_init 31 = .ok (.iload_n 1, 1) := by decide +kernel
theorem dX2_init_32 : decode cX2_init 32 = .ok (.new 9, 3) := by decide +kernel
theorem dX2_init_35 : decode cX2_init 35 = .ok (.dup, 1) := by decide +kernel
theorem dX2_init_36 : decode cX2_init 36 = .ok (.invokespecial 23, 3) := by decide +kernel
theorem dX2_init_39 : decode cX2_init 39 = .ok (.aastore, 1) := by decide +kernel
theorem dX2_init_40 : decode cX2_init 40 = .ok (.aload_n 0, 1) := by decide +kernel
theorem dX2_init_41 : decode cX2_init 41 = .ok (.getfield 19, 3) := by decide +kernel
theorem dX2_init_44 : decode cX2_init 44 = .ok (.iload_n 1, 1) := by decide +kernel
theorem dX2_init_45 : decode cX2_init 45 = .ok (.new 17, 3) := by decide +kernel
theorem dX2_init_48 : decode cX2_init 48 = .ok (.dup, 1) := by decide +kernel
theorem dX2_init_49 : decode cX2_init 49 = .ok (.invokespecial 24, 3) := by decide +kernel
theorem dX2_init_52 : decode cX2_init 52 = .ok (.aastore, 1) := by decide +kernel
theorem dX2_init_53 : decode cX2_init 53 = .ok (.iinc 1 1, 3) := by decide +kernel
theorem dX2_init_56 : decode cX2_init 56 = .ok (.goto (-34), 3) := by decide +kernel
theorem dX2_init_59 : decode cX2_init 59 = .ok (.return_, 1) := by decide +kernel
theorem dX2_isFull_0 : decode cX2_isFull 0 = .ok (.aload_n 0, 1) := by decide +kernel
theorem dX2_isFull_1 : decode cX2_isFull 1 = .ok (.getfield 25, 3) := by decide +kernel
theorem dX2_isFull_4 : decode cX2_isFull 4 = .ok (.iconst 3, 1) := by decide +kernel
theorem dX2_isFull_5 : decode cX2_isFull 5 = .ok (.if_icmp .lt 7, 3) := by decide +kernel
theorem dX2_isFull_8 : decode cX2_isFull 8 = .ok (.iconst 1, 1) := by decide +kernel
theorem dX2_isFull_9 : decode cX2_isFull 9 = .ok (.goto 4, 3) := by decide +kernel
theorem dX2_isFull_12 : decode cX2_isFull 12 = .ok (.iconst 0, 1) := by decide +kernel
theorem dX2_isFull_13 : decode cX2_isFull 13 = .ok (.ireturn, 1) := by decide +kernel
theorem dX2_keep_0 : decode cX2_keep 0 = .ok (.aload_n 0, 1) := by decide +kernel
theorem dX2_keep_1 : decode cX2_keep 1 = .ok (.invokevirtual 29, 3) := by decide +kernel
theorem dX2_keep_4 : decode cX2_keep 4 = .ok (.ifCond .ne 59, 3) := by decide +kernel
theorem dX2_keep_7 : decode cX2_keep 7 = .ok (.aload_n 0, 1) := by decide +kernel
theorem dX2_keep_8 : decode cX2_keep 8 = .ok (.getfield 11, 3) := by decide +kernel
theorem dX2_keep_11 : decode cX2_keep 11 = .ok (.aload_n 0, 1) := by decide +kernel
theorem dX2_keep_12 : decode cX2_keep 12 = .ok (.getfield 25, 3) := by decide +kernel
theorem dX2_keep_15 : decode cX2_keep 15 = .ok (.aaload, 1) := by decide +kernel
theorem dX2_keep_16 : decode cX2_keep 16 = .ok (.aload_n 1, 1) := by decide +kernel
theorem dX2_keep_17 : decode cX2_keep 17 = .ok (.invokevirtual 33, 3) := by decide +kernel
theorem dX2_keep_20 : decode cX2_keep 20 = .ok (.aload_n 0, 1) := by decide +kernel
theorem dX2_keep_21 : decode cX2_keep 21 = .ok (.getfield 19, 3) := by decide +kernel
theorem dX2_keep_24 : decode cX2_keep 24 = .ok (.aload_n 0, 1) := by decide +kernel
theorem dX2_keep_25 : decode cX2_keep 25 = .ok (.getfield 25, 3) := by decide +kernel
theorem dX2_keep_28 : decode cX2_keep 28 = .ok (.aaload, 1) := by decide +kernel
theorem dX2_keep_29 : decode cX2_keep 29 = .ok (.aload_n 2, 1) := by decide +kernel
theorem dX2_keep_30 : decode cX2_keep 30 = .ok (.aload_n 2, 1) := by decide +kernel
theorem dX2_keep_31 : decode cX2_keep 31 = .ok (.getfield 37, 3) := by decide +kernel
theorem dX2_keep_34 : decode cX2_keep 34 = .ok (.invokevirtual 40, 3) := by decide +kernel
theorem dX2_keep_37 : decode cX2_keep 37 = .ok (.aload_n 0, 1) := by decide +kernel
theorem dX2_keep_38 : decode cX2_keep 38 = .ok (.getfield 19, 3) := by decide +kernel
theorem dX2_keep_41 : decode cX2_keep 41 = .ok (.aload_n 0, 1) := by decide +kernel
theorem dX2_keep_42 : decode cX2_keep 42 = .ok (.getfield 25, 3) := by decide +kernel
theorem dX2_keep_45 : decode cX2_keep 45 = .ok (.aaload, 1) := by decide +kernel
theorem dX2_keep_46 : decode cX2_keep 46 = .ok (.aload_n 2, 1) := by decide +kernel
theorem dX2_keep_47 : decode cX2_keep 47 = .ok (.getfield 37, 3) := by decide +kernel
theorem dX2_keep_50 : decode cX2_keep 50 = .ok (.putfield 37, 3) := by decide +kernel
theorem dX2_keep_53 : decode cX2_keep 53 = .ok (.aload_n 0, 1) := by decide +kernel
theorem dX2_keep_54 : decode cX2_keep 54 = .ok (.dup, 1) := by decide +kernel
theorem dX2_keep_55 : decode cX2_keep 55 = .ok (.getfield 25, 3) := by decide +kernel
theorem dX2_keep_58 : decode cX2_keep 58 = .ok (.iconst 1, 1) := by decide +kernel
theorem dX2_keep_59 : decode cX2_keep 59 = .ok (.iadd, 1) := by decide +kernel
theorem dX2_keep_60 : decode cX2_keep 60 = .ok (.putfield 25, 3) := by decide +kernel
theorem dX2_keep_63 : decode cX2_keep 63 = .ok (.return_, 1) := by decide +kernel
theorem dX2_bringBack_0 : decode cX2_bringBack 0 = .ok (.aload_n 0, 1) := by decide +kernel
theorem dX2_bringBack_1 : decode cX2_bringBack 1 = .ok (.getfield 25, 3) := by decide +kernel
theorem dX2_bringBack_4 : decode cX2_bringBack 4 = .ok (.ifCond .ne 5, 3) := by decide +kernel
theorem dX2_bringBack_7 : decode cX2_bringBack 7 = .ok (.iconst 0, 1) := by decide +kernel
theorem dX2_bringBack_8 : decode cX2_bringBack 8 = .ok (.ireturn, 1) := by decide +kernel
theorem dX2_bringBack_9 : decode cX2_bringBack 9 = .ok (.aload_n 0, 1) := by decide +kernel
theorem dX2_bringBack_10 : decode cX2_bringBack 10 = .ok (.dup, 1) := by decide +kernel
theorem dX2_bringBack_11 : decode cX2_bringBack 11 = .ok (.getfield 25, 3) := by decide +kernel
theorem dX2_bringBack_14 : decode cX2_bringBack 14 = .ok (.iconst 1, 1) := by decide +kernel
theorem dX2_bringBack_15 : decode cX2_bringBack 15 = .ok (.isub, 1) := by decide +kernel
theorem dX2_bringBack_16 : decode cX2_bringBack 16 = .ok (.putfield 25, 3) := by decide +kernel
theorem dX2_bringBack_19 : decode cX2_bringBack 19 = .ok (.aload_n 1, 1) := by decide +kernel
theorem dX2_bringBack_20 : decode cX2_bringBack 20 = .ok (.aload_n 0, 1) := by decide +kernel
theorem dX2_bringBack_21 : decode cX2_bringBack 21 = .ok (.getfield 11, 3) := by decide +kernel
theorem dX2_bringBack_24 : decode cX2_bringBack 24 = .ok (.aload_n 0, 1) := by decide +kernel
theorem dX2_bringBack_25 : decode cX2_bringBack 25 = .ok (.getfield 25, 3) := by decide +kernel
theorem dX2_bringBack_28 : decode cX2_bringBack 28 = .ok (.aaload, 1) := by decide +kernel
theorem dX2_bringBack_29 : decode cX2_bringBack 29 = .ok (.invokevirtual 33, 3) := by decide +kernel
theorem dX2_bringBack_32 : decode cX2_bringBack 32 = .ok (.aload_n 2, 1) := by decide +kernel
theorem dX2_bringBack_33 : decode cX2_bringBack 33 = .ok (.aload_n 0, 1) := by decide +kernel
theorem dX2_bringBack_34 : decode cX2_bringBack 34 = .ok (.getfield 19, 3) := by decide +kernel
theorem dX2_bringBack_37 : decode cX2_bringBack 37 = .ok (.aload_n 0, 1) := by decide +kernel
theorem dX2_bringBack_38 : decode cX2_bringBack 38 = .ok (.getfield 25, 3) := by decide +kernel
theorem dX2_bringBack_41 : decode cX2_bringBack 41 = .ok (.aaload, 1) := by decide +kernel
theorem dX2_bringBack_42 : decode cX2_bringBack 42 = .ok (.aload_n 0, 1) := by decide +kernel
theorem dX2_bringBack_43 : decode cX2_bringBack 43 = .ok (.getfield 19, 3) := by decide +kernel
theorem dX2_bringBack_46 : decode cX2_bringBack 46 = .ok (.aload_n 0, 1) := by decide +kernel
theorem dX2_bringBack_47 : decode cX2_bringBack 47 = .ok (.getfield 25, 3) := by decide +kernel
theorem dX2_bringBack_50 : decode cX2_bringBack 50 = .ok (.aaload, 1) := by decide +kernel
theorem dX2_bringBack_51 : decode cX2_bringBack 51 = .ok (.getfield 37, 3) := by decide +kernel
theorem dX2_bringBack_54 : decode cX2_bringBack 54 = .ok (.invokevirtual 40, 3) := by decide +kernel
theorem dX2_bringBack_57 : decode cX2_bringBack 57 = .ok (.iconst 1, 1) := by decide +kernel
theorem dX2_bringBack_58 : decode cX2_bringBack 58 = .ok (.ireturn, 1) := by decide +kernel
theorem dX2_clear_0 : decode cX2_clear 0 = .ok (.aload_n 0, 1) := by decide +kernel
theorem dX2_clear_1 : decode cX2_clear 1 = .ok (.getfield 25, 3) := by decide +kernel
theorem dX2_clear_4 : decode cX2_clear 4 = .ok (.istore_n 1, 1) := by decide +kernel
theorem dX2_clear_5 : decode cX2_clear 5 = .ok (.aload_n 0, 1) := by decide +kernel
theorem dX2_clear_6 : decode cX2_clear 6 = .ok (.iconst 0, 1) := by decide +kernel
theorem dX2_clear_7 : decode cX2_clear 7 = .ok (.putfield 25, 3) := by decide +kernel
theorem dX2_clear_10 : decode cX2_clear 10 = .ok (.iload_n 1, 1) := by decide +kernel
theorem dX2_clear_11 : decode cX2_clear 11 = .ok (.ireturn, 1) := by decide +kernel
theorem dX3_through_0 : decode cX3_through 0 = .ok (.iload_n 0, 1) := by decide +kernel
theorem dX3_through_1 : decode cX3_through 1 = .ok (.tableswitch 78 0 7 #[47, 51, 56, 61, 66, 78, 70, 74], 47) := by decide +kernel
theorem dX3_through_48 : decode cX3_through 48 = .ok (.lload_n 1, 1) := by decide +kernel
theorem dX3_through_49 : decode cX3_through 49 = .ok (.lconst 1, 1) := by decide +kernel
theorem dX3_through_50 : decode cX3_through 50 = .ok (.land, 1) := by decide +kernel
theorem dX3_through_51 : decode cX3_through 51 = .ok (.lreturn, 1) := by decide +kernel
theorem dX3_through_52 : decode cX3_through 52 = .ok (.lload_n 1, 1) := by decide +kernel
theorem dX3_through_53 : decode cX3_through 53 = .ok (.l2i, 1) := by decide +kernel
theorem dX3_through_54 : decode cX3_through 54 = .ok (.i2b, 1) := by decide +kernel
theorem dX3_through_55 : decode cX3_through 55 = .ok (.i2l, 1) := by decide +kernel
theorem dX3_through_56 : decode cX3_through 56 = .ok (.lreturn, 1) := by decide +kernel
theorem dX3_through_57 : decode cX3_through 57 = .ok (.lload_n 1, 1) := by decide +kernel
theorem dX3_through_58 : decode cX3_through 58 = .ok (.l2i, 1) := by decide +kernel
theorem dX3_through_59 : decode cX3_through 59 = .ok (.i2s, 1) := by decide +kernel
theorem dX3_through_60 : decode cX3_through 60 = .ok (.i2l, 1) := by decide +kernel
theorem dX3_through_61 : decode cX3_through 61 = .ok (.lreturn, 1) := by decide +kernel
theorem dX3_through_62 : decode cX3_through 62 = .ok (.lload_n 1, 1) := by decide +kernel
theorem dX3_through_63 : decode cX3_through 63 = .ok (.l2i, 1) := by decide +kernel
theorem dX3_through_64 : decode cX3_through 64 = .ok (.i2c, 1) := by decide +kernel
theorem dX3_through_65 : decode cX3_through 65 = .ok (.i2l, 1) := by decide +kernel
theorem dX3_through_66 : decode cX3_through 66 = .ok (.lreturn, 1) := by decide +kernel
theorem dX3_through_67 : decode cX3_through 67 = .ok (.lload_n 1, 1) := by decide +kernel
theorem dX3_through_68 : decode cX3_through 68 = .ok (.l2i, 1) := by decide +kernel
theorem dX3_through_69 : decode cX3_through 69 = .ok (.i2l, 1) := by decide +kernel
theorem dX3_through_70 : decode cX3_through 70 = .ok (.lreturn, 1) := by decide +kernel
theorem dX3_through_71 : decode cX3_through 71 = .ok (.lload_n 1, 1) := by decide +kernel
theorem dX3_through_72 : decode cX3_through 72 = .ok (.l2f, 1) := by decide +kernel
theorem dX3_through_73 : decode cX3_through 73 = .ok (.f2l, 1) := by decide +kernel
theorem dX3_through_74 : decode cX3_through 74 = .ok (.lreturn, 1) := by decide +kernel
theorem dX3_through_75 : decode cX3_through 75 = .ok (.lload_n 1, 1) := by decide +kernel
theorem dX3_through_76 : decode cX3_through 76 = .ok (.l2d, 1) := by decide +kernel
theorem dX3_through_77 : decode cX3_through 77 = .ok (.d2l, 1) := by decide +kernel
theorem dX3_through_78 : decode cX3_through 78 = .ok (.lreturn, 1) := by decide +kernel
theorem dX3_through_79 : decode cX3_through 79 = .ok (.lload_n 1, 1) := by decide +kernel
theorem dX3_through_80 : decode cX3_through 80 = .ok (.lreturn, 1) := by decide +kernel
theorem dX3_goesInto_0 : decode cX3_goesInto 0 = .ok (.iload_n 0, 1) := by decide +kernel
theorem dX3_goesInto_1 : decode cX3_goesInto 1 = .ok (.iconst 1, 1) := by decide +kernel
theorem dX3_goesInto_2 : decode cX3_goesInto 2 = .ok (.if_icmp .lt 17, 3) := by decide +kernel
theorem dX3_goesInto_5 : decode cX3_goesInto 5 = .ok (.iload_n 0, 1) := by decide +kernel
theorem dX3_goesInto_6 : decode cX3_goesInto 6 = .ok (.iload_n 1, 1) := by decide +kernel
theorem dX3_goesInto_7 : decode cX3_goesInto 7 = .ok (.if_icmp .ge 12, 3) := by decide +kernel
theorem dX3_goesInto_10 : decode cX3_goesInto 10 = .ok (.iload_n 1, 1) := by decide +kernel
theorem dX3_goesInto_11 : decode cX3_goesInto 11 = .ok (.iconst 3, 1) := by decide +kernel
theorem dX3_goesInto_12 : decode cX3_goesInto 12 = .ok (.if_icmp .eq 7, 3) := by decide +kernel
theorem dX3_goesInto_15 : decode cX3_goesInto 15 = .ok (.iconst 1, 1) := by decide +kernel
theorem dX3_goesInto_16 : decode cX3_goesInto 16 = .ok (.goto 4, 3) := by decide +kernel
theorem dX3_goesInto_19 : decode cX3_goesInto 19 = .ok (.iconst 0, 1) := by decide +kernel
theorem dX3_goesInto_20 : decode cX3_goesInto 20 = .ok (.ireturn, 1) := by decide +kernel
theorem dX4_init_0 : decode cX4_init 0 = .ok (.aload_n 0, 1) := by decide +kernel
theorem dX4_init_1 : decode cX4_init 1 = .ok (.invokespecial 3, 3) := by decide +kernel
theorem dX4_init_4 : decode cX4_init 4 = .ok (.aload_n 0, 1) := by decide +kernel
theorem dX4_init_5 : decode cX4_init 5 = .ok (.new 9, 3) := by decide +kernel
theorem dX4_init_8 : decode cX4_init 8 = .ok (.dup, 1) := by decide +kernel
theorem dX4_init_9 : decode cX4_init 9 = .ok (.invokespecial 11, 3) := by decide +kernel
theorem dX4_init_12 : decode cX4_init 12 = .ok (.putfield 12, 3) := by decide +kernel
theorem dX4_init_15 : decode cX4_init 15 = .ok (.aload_n 0, 1) := by decide +kernel
theorem dX4_init_16 : decode cX4_init 16 = .ok (.new 18, 3) := by decide +kernel
theorem dX4_init_19 : decode cX4_init 19 = .ok (.dup, 1) := by decide +kernel
theorem dX4_init_20 : decode cX4_init 20 = .ok (.invokespecial 20, 3) := by decide +kernel
theorem dX4_init_23 : decode cX4_init 23 = .ok (.putfield 21, 3) := by decide +kernel
theorem dX4_init_26 : decode cX4_init 26 = .ok (.aload_n 0, 1) := by decide +kernel
theorem dX4_init_27 : decode cX4_init 27 = .ok (.new 25, 3) := by decide +kernel
theorem dX4_init_30 : decode cX4_init 30 = .ok (.dup, 1) := by decide +kernel
theorem dX4_init_31 : decode cX4_init 31 = .ok (.invokespecial 27, 3) := by decide +kernel
theorem dX4_init_34 : decode cX4_init 34 = .ok (.putfield 28, 3) := by decide +kernel
theorem dX4_init_37 : decode cX4_init 37 = .ok (.aload_n 0, 1) := by decide +kernel
theorem dX4_init_38 : decode cX4_init 38 = .ok (.bipush 12, 2) := by decide +kernel
theorem dX4_init_40 : decode cX4_init 40 = .ok (.anewarray 32, 3) := by decide +kernel
theorem dX4_init_43 : decode cX4_init 43 = .ok (.putfield 34, 3) := by decide +kernel
theorem dX4_init_46 : decode cX4_init 46 = .ok (.aload_n 0, 1) := by decide +kernel
theorem dX4_init_47 : decode cX4_init 47 = .ok (.bipush 12, 2) := by decide +kernel
theorem dX4_init_49 : decode cX4_init 49 = .ok (.anewarray 38, 3) := by decide +kernel
theorem dX4_init_52 : decode cX4_init 52 = .ok (.putfield 40, 3) := by decide +kernel
theorem dX4_init_55 : decode cX4_init 55 = .ok (.aload_n 0, 1) := by decide +kernel
theorem dX4_init_56 : decode cX4_init 56 = .ok (.bipush 60, 2) := by decide +kernel
theorem dX4_init_58 : decode cX4_init 58 = .ok (.newarray .long, 2) := by decide +kernel
theorem dX4_init_60 : decode cX4_init 60 = .ok (.putfield 44, 3) := by decide +kernel
theorem dX4_init_63 : decode cX4_init 63 = .ok (.aload_n 0, 1) := by decide +kernel
theorem dX4_init_64 : decode cX4_init 64 = .ok (.new 48, 3) := by decide +kernel
theorem dX4_init_67 : decode cX4_init 67 = .ok (.dup, 1) := by decide +kernel
theorem dX4_init_68 : decode cX4_init 68 = .ok (.invokespecial 50, 3) := by decide +kernel
theorem dX4_init_71 : decode cX4_init 71 = .ok (.putfield 51, 3) := by decide +kernel
theorem dX4_init_74 : decode cX4_init 74 = .ok (.iconst 0, 1) := by decide +kernel
theorem dX4_init_75 : decode cX4_init 75 = .ok (.istore_n 1, 1) := by decide +kernel
theorem dX4_init_76 : decode cX4_init 76 = .ok (.iload_n 1, 1) := by decide +kernel
theorem dX4_init_77 : decode cX4_init 77 = .ok (.bipush 12, 2) := by decide +kernel
theorem dX4_init_79 : decode cX4_init 79 = .ok (.if_icmp .ge 22, 3) := by decide +kernel
theorem dX4_init_82 : decode cX4_init 82 = .ok (.aload_n 0, 1) := by decide +kernel
theorem dX4_init_83 : decode cX4_init 83 = .ok (.getfield 40, 3) := by decide +kernel
theorem dX4_init_86 : decode cX4_init 86 = .ok (.iload_n 1, 1) := by decide +kernel
theorem dX4_init_87 : decode cX4_init 87 = .ok (.new 38, 3) := by decide +kernel
theorem dX4_init_90 : decode cX4_init 90 = .ok (.dup, 1) := by decide +kernel
theorem dX4_init_91 : decode cX4_init 91 = .ok (.invokespecial 55, 3) := by decide +kernel
theorem dX4_init_94 : decode cX4_init 94 = .ok (.aastore, 1) := by decide +kernel
theorem dX4_init_95 : decode cX4_init 95 = .ok (.iinc 1 1, 3) := by decide +kernel
theorem dX4_init_98 : decode cX4_init 98 = .ok (.goto (-22), 3) := by decide +kernel
theorem dX4_init_101 : decode cX4_init 101 = .ok (.return_, 1) := by decide +kernel
theorem dX4_addRoutine_0 : decode cX4_addRoutine 0 = .ok (.aload_n 0, 1) := by decide +kernel
theorem dX4_addRoutine_1 : decode cX4_addRoutine 1 = .ok (.getfield 56, 3) := by decide +kernel
theorem dX4_addRoutine_4 : decode cX4_addRoutine 4 = .ok (.bipush 12, 2) := by decide +kernel
theorem dX4_addRoutine_6 : decode cX4_addRoutine 6 = .ok (.if_icmp .lt 6, 3) := by decide +kernel
theorem dX4_addRoutine_9 : decode cX4_addRoutine 9 = .ok (.ldc 60, 2) := by decide +kernel
theorem dX4_addRoutine_11 : decode cX4_addRoutine 11 = .ok (.ireturn, 1) := by decide +kernel
theorem dX4_addRoutine_12 : decode cX4_addRoutine 12 = .ok (.aload_n 0, 1) := by decide +kernel
theorem dX4_addRoutine_13 : decode cX4_addRoutine 13 = .ok (.getfield 34, 3) := by decide +kernel
theorem dX4_addRoutine_16 : decode cX4_addRoutine 16 = .ok (.aload_n 0, 1) := by decide +kernel
theorem dX4_addRoutine_17 : decode cX4_addRoutine 17 = .ok (.getfield 56, 3) := by decide +kernel
theorem dX4_addRoutine_20 : decode cX4_addRoutine 20 = .ok (.new 32, 3) := by decide +kernel
theorem dX4_addRoutine_23 : decode cX4_addRoutine 23 = .ok (.dup, 1) := by decide +kernel
theorem dX4_addRoutine_24 : decode cX4_addRoutine 24 = .ok (.iload_n 1, 1) := by decide +kernel
theorem dX4_addRoutine_25 : decode cX4_addRoutine 25 = .ok (.invokespecial 61, 3) := by decide +kernel
theorem dX4_addRoutine_28 : decode cX4_addRoutine 28 = .ok (.aastore, 1) := by decide +kernel
theorem dX4_addRoutine_29 : decode cX4_addRoutine 29 = .ok (.aload_n 0, 1) := by decide +kernel
theorem dX4_addRoutine_30 : decode cX4_addRoutine 30 = .ok (.dup, 1) := by decide +kernel
theorem dX4_addRoutine_31 : decode cX4_addRoutine 31 = .ok (.getfield 56, 3) := by decide +kernel
theorem dX4_addRoutine_34 : decode cX4_addRoutine 34 = .ok (.iconst 1, 1) := by decide +kernel
theorem dX4_addRoutine_35 : decode cX4_addRoutine 35 = .ok (.iadd, 1) := by decide +kernel
theorem dX4_addRoutine_36 : decode cX4_addRoutine 36 = .ok (.putfield 56, 3) := by decide +kernel
theorem dX4_addRoutine_39 : decode cX4_addRoutine 39 = .ok (.aload_n 0, 1) := by decide +kernel
theorem dX4_addRoutine_40 : decode cX4_addRoutine 40 = .ok (.getfield 56, 3) := by decide +kernel
theorem dX4_addRoutine_43 : decode cX4_addRoutine 43 = .ok (.iconst 1, 1) := by decide +kernel
theorem dX4_addRoutine_44 : decode cX4_addRoutine 44 = .ok (.isub, 1) := by decide +kernel
theorem dX4_addRoutine_45 : decode cX4_addRoutine 45 = .ok (.ireturn, 1) := by decide +kernel
theorem dX4_routineAt_0 : decode cX4_routineAt 0 = .ok (.iload_n 1, 1) := by decide +kernel
theorem dX4_routineAt_1 : decode cX4_routineAt 1 = .ok (.ifCond .lt 20, 3) := by decide +kernel
theorem dX4_routineAt_4 : decode cX4_routineAt 4 = .ok (.iload_n 1, 1) := by decide +kernel
theorem dX4_routineAt_5 : decode cX4_routineAt 5 = .ok (.aload_n 0, 1) := by decide +kernel
theorem dX4_routineAt_6 : decode cX4_routineAt 6 = .ok (.getfield 56, 3) := by decide +kernel
theorem dX4_routineAt_9 : decode cX4_routineAt 9 = .ok (.if_icmp .ge 12, 3) := by decide +kernel
theorem dX4_routineAt_12 : decode cX4_routineAt 12 = .ok (.aload_n 0, 1) := by decide +kernel
theorem dX4_routineAt_13 : decode cX4_routineAt 13 = .ok (.getfield 34, 3) := by decide +kernel
theorem dX4_routineAt_16 : decode cX4_routineAt 16 = .ok (.iload_n 1, 1) := by decide +kernel
theorem dX4_routineAt_17 : decode cX4_routineAt 17 = .ok (.aaload, 1) := by decide +kernel
theorem dX4_routineAt_18 : decode cX4_routineAt 18 = .ok (.goto 4, 3) := by decide +kernel
theorem dX4_routineAt_21 : decode cX4_routineAt 21 = .ok (.aconst_null, 1) := by decide +kernel
theorem dX4_routineAt_22 : decode cX4_routineAt 22 = .ok (.areturn, 1) := by decide +kernel
theorem dX4_play_0 : decode cX4_play 0 = .ok (.aload_n 0, 1) := by decide +kernel
theorem dX4_play_1 : decode cX4_play 1 = .ok (.invokevirtual 64, 3) := by decide +kernel
theorem dX4_play_4 : decode cX4_play 4 = .ok (.aload_n 0, 1) := by decide +kernel
theorem dX4_play_5 : decode cX4_play 5 = .ok (.iload_n 1, 1) := by decide +kernel
theorem dX4_play_6 : decode cX4_play 6 = .ok (.aload_n 2, 1) := by decide +kernel
theorem dX4_play_7 : decode cX4_play 7 = .ok (.invokevirtual 67, 3) := by decide +kernel
theorem dX4_play_10 : decode cX4_play 10 = .ok (.astore 7, 2) := by decide +kernel
theorem dX4_play_12 : decode cX4_play 12 = .ok (.aload 7, 2) := by decide +kernel
theorem dX4_play_14 : decode cX4_play 14 = .ok (.iconst 0, 1) := by decide +kernel
theorem dX4_play_15 : decode cX4_play 15 = .ok (.lload_n 3, 1) := by decide +kernel
theorem dX4_play_16 : decode cX4_play 16 = .ok (.invokevirtual 71, 3) := by decide +kernel
theorem dX4_play_19 : decode cX4_play 19 = .ok (.aload 7, 2) := by decide +kernel
theorem dX4_play_21 : decode cX4_play 21 = .ok (.iconst 1, 1) := by decide +kernel
theorem dX4_play_22 : decode cX4_play 22 = .ok (.lload 5, 2) := by decide +kernel
theorem dX4_play_24 : decode cX4_play 24 = .ok (.invokevirtual 71, 3) := by decide +kernel
theorem dX4_play_27 : decode cX4_play 27 = .ok (.iconst 0, 1) := by decide +kernel
theorem dX4_play_28 : decode cX4_play 28 = .ok (.istore 8, 2) := by decide +kernel
theorem dX4_play_30 : decode cX4_play 30 = .ok (.iload 8, 2) := by decide +kernel
theorem dX4_play_32 : decode cX4_play 32 = .ok (.sipush 300, 3) := by decide +kernel
theorem dX4_play_35 : decode cX4_play 35 = .ok (.if_icmp .ge 32, 3) := by decide +kernel
theorem dX4_play_38 : decode cX4_play 38 = .ok (.aload_n 0, 1) := by decide +kernel
theorem dX4_play_39 : decode cX4_play 39 = .ok (.getfield 75, 3) := by decide +kernel
theorem dX4_play_42 : decode cX4_play 42 = .ok (.iconst 3, 1) := by decide +kernel
theorem dX4_play_43 : decode cX4_play 43 = .ok (.if_icmp .ne 24, 3) := by decide +kernel
theorem dX4_play_46 : decode cX4_play 46 = .ok (.aload_n 0, 1) := by decide +kernel
theorem dX4_play_47 : decode cX4_play 47 = .ok (.aload_n 0, 1) := by decide +kernel
theorem dX4_play_48 : decode cX4_play 48 = .ok (.getfield 40, 3) := by decide +kernel
theorem dX4_play_51 : decode cX4_play 51 = .ok (.aload_n 0, 1) := by decide +kernel
theorem dX4_play_52 : decode cX4_play 52 = .ok (.getfield 78, 3) := by decide +kernel
theorem dX4_play_55 : decode cX4_play 55 = .ok (.iconst 1, 1) := by decide +kernel
theorem dX4_play_56 : decode cX4_play 56 = .ok (.isub, 1) := by decide +kernel
theorem dX4_play_57 : decode cX4_play 57 = .ok (.aaload, 1) := by decide +kernel
theorem dX4_play_58 : decode cX4_play 58 = .ok (.invokevirtual 81, 3) := by decide +kernel
theorem dX4_play_61 : decode cX4_play 61 = .ok (.iinc 8 1, 3) := by decide +kernel
theorem dX4_play_64 : decode cX4_play 64 = .ok (.goto (-34), 3) := by decide +kernel
theorem dX4_play_67 : decode cX4_play 67 = .ok (.aload_n 0, 1) := by decide +kernel
theorem dX4_play_68 : decode cX4_play 68 = .ok (.getfield 75, 3) := by decide +kernel
theorem dX4_play_71 : decode cX4_play 71 = .ok (.iconst 3, 1) := by decide +kernel
theorem dX4_play_72 : decode cX4_play 72 = .ok (.if_icmp .ne 8, 3) := by decide +kernel
theorem dX4_play_75 : decode cX4_play 75 = .ok (.aload_n 0, 1) := by decide +kernel
theorem dX4_play_76 : decode cX4_play 76 = .ok (.iconst 2, 1) := by decide +kernel
theorem dX4_play_77 : decode cX4_play 77 = .ok (.putfield 75, 3) := by decide +kernel
theorem dX4_play_80 : decode cX4_play 80 = .ok (.aload_n 0, 1) := by decide +kernel
theorem dX4_play_81 : decode cX4_play 81 = .ok (.getfield 75, 3) := by decide +kernel
theorem dX4_play_84 : decode cX4_play 84 = .ok (.iconst 1, 1) := by decide +kernel
theorem dX4_play_85 : decode cX4_play 85 = .ok (.if_icmp .eq 10, 3) := by decide +kernel
theorem dX4_play_88 : decode cX4_play 88 = .ok (.aload_n 0, 1) := by decide +kernel
theorem dX4_play_89 : decode cX4_play 89 = .ok (.getfield 51, 3) := by decide +kernel
theorem dX4_play_92 : decode cX4_play 92 = .ok (.invokevirtual 85, 3) := by decide +kernel
theorem dX4_play_95 : decode cX4_play 95 = .ok (.aload_n 0, 1) := by decide +kernel
theorem dX4_play_96 : decode cX4_play 96 = .ok (.getfield 75, 3) := by decide +kernel
theorem dX4_play_99 : decode cX4_play 99 = .ok (.ireturn, 1) := by decide +kernel
theorem dX4_beginRun_0 : decode cX4_beginRun 0 = .ok (.aload_n 0, 1) := by decide +kernel
theorem dX4_beginRun_1 : decode cX4_beginRun 1 = .ok (.iconst 0, 1) := by decide +kernel
theorem dX4_beginRun_2 : decode cX4_beginRun 2 = .ok (.putfield 78, 3) := by decide +kernel
theorem dX4_beginRun_5 : decode cX4_beginRun 5 = .ok (.aload_n 0, 1) := by decide +kernel
theorem dX4_beginRun_6 : decode cX4_beginRun 6 = .ok (.iconst 0, 1) := by decide +kernel
theorem dX4_beginRun_7 : decode cX4_beginRun 7 = .ok (.putfield 88, 3) := by decide +kernel
theorem dX4_beginRun_10 : decode cX4_beginRun 10 = .ok (.aload_n 0, 1) := by decide +kernel
theorem dX4_beginRun_11 : decode cX4_beginRun 11 = .ok (.iconst 0, 1) := by decide +kernel
theorem dX4_beginRun_12 : decode cX4_beginRun 12 = .ok (.putfield 91, 3) := by decide +kernel
theorem dX4_beginRun_15 : decode cX4_beginRun 15 = .ok (.aload_n 0, 1) := by decide +kernel
theorem dX4_beginRun_16 : decode cX4_beginRun 16 = .ok (.iconst 0, 1) := by decide +kernel
theorem dX4_beginRun_17 : decode cX4_beginRun 17 = .ok (.putfield 94, 3) := by decide +kernel
theorem dX4_beginRun_20 : decode cX4_beginRun 20 = .ok (.aload_n 0, 1) := by decide +kernel
theorem dX4_beginRun_21 : decode cX4_beginRun 21 = .ok (.iconst 0, 1) := by decide +kernel
theorem dX4_beginRun_22 : decode cX4_beginRun 22 = .ok (.putfield 97, 3) := by decide +kernel
theorem dX4_beginRun_25 : decode cX4_beginRun 25 = .ok (.aload_n 0, 1) := by decide +kernel
theorem dX4_beginRun_26 : decode cX4_beginRun 26 = .ok (.iconst 0, 1) := by decide +kernel
theorem dX4_beginRun_27 : decode cX4_beginRun 27 = .ok (.putfield 100, 3) := by decide +kernel
theorem dX4_beginRun_30 : decode cX4_beginRun 30 = .ok (.aload_n 0, 1) := by decide +kernel
theorem dX4_beginRun_31 : decode cX4_beginRun 31 = .ok (.iconst 0, 1) := by decide +kernel
theorem dX4_beginRun_32 : decode cX4_beginRun 32 = .ok (.putfield 103, 3) := by decide +kernel
theorem dX4_beginRun_35 : decode cX4_beginRun 35 = .ok (.aload_n 0, 1) := by decide +kernel
theorem dX4_beginRun_36 : decode cX4_beginRun 36 = .ok (.iconst 0, 1) := by decide +kernel
theorem dX4_beginRun_37 : decode cX4_beginRun 37 = .ok (.putfield 106, 3) := by decide +kernel
theorem dX4_beginRun_40 : decode cX4_beginRun 40 = .ok (.aload_n 0, 1) := by decide +kernel
theorem dX4_beginRun_41 : decode cX4_beginRun 41 = .ok (.lconst 0, 1) := by decide +kernel
theorem dX4_beginRun_42 : decode cX4_beginRun 42 = .ok (.putfield 109, 3) := by decide +kernel
theorem dX4_beginRun_45 : decode cX4_beginRun 45 = .ok (.aload_n 0, 1) := by decide +kernel
theorem dX4_beginRun_46 : decode cX4_beginRun 46 = .ok (.iconst 3, 1) := by decide +kernel
theorem dX4_beginRun_47 : decode cX4_beginRun 47 = .ok (.putfield 75, 3) := by decide +kernel
theorem dX4_beginRun_50 : decode cX4_beginRun 50 = .ok (.return_, 1) := by decide +kernel
theorem dX4_openFrame_0 : decode cX4_openFrame 0 = .ok (.aload_n 0, 1) := by decide +kernel
theorem dX4_openFrame_1 : decode cX4_openFrame 1 = .ok (.getfield 40, 3) := by decide +kernel
theorem dX4_openFrame_4 : decode cX4_openFrame 4 = .ok (.aload_n 0, 1) := by decide +kernel
theorem dX4_openFrame_5 : decode cX4_openFrame 5 = .ok (.getfield 78, 3) := by decide +kernel
theorem dX4_openFrame_8 : decode cX4_openFrame 8 = .ok (.aaload, 1) := by decide +kernel
theorem dX4_openFrame_9 : decode cX4_openFrame 9 = .ok (.astore_n 3, 1) := by decide +kernel
theorem dX4_openFrame_10 : decode cX4_openFrame 10 = .ok (.aload_n 3, 1) := by decide +kernel
theorem dX4_openFrame_11 : decode cX4_openFrame 11 = .ok (.iload_n 1, 1) := by decide +kernel
theorem dX4_openFrame_12 : decode cX4_openFrame 12 = .ok (.aload_n 2, 1) := by decide +kernel
theorem dX4_openFrame_13 : decode cX4_openFrame 13 = .ok (.invokevirtual 113, 3) := by decide +kernel
theorem dX4_openFrame_16 : decode cX4_openFrame 16 = .ok (.aload_n 0, 1) := by decide +kernel
theorem dX4_openFrame_17 : decode cX4_openFrame 17 = .ok (.dup, 1) := by decide +kernel
theorem dX4_openFrame_18 : decode cX4_openFrame 18 = .ok (.getfield 78, 3) := by decide +kernel
theorem dX4_openFrame_21 : decode cX4_openFrame 21 = .ok (.iconst 1, 1) := by decide +kernel
theorem dX4_openFrame_22 : decode cX4_openFrame 22 = .ok (.iadd, 1) := by decide +kernel
theorem dX4_openFrame_23 : decode cX4_openFrame 23 = .ok (.putfield 78, 3) := by decide +kernel
theorem dX4_openFrame_26 : decode cX4_openFrame 26 = .ok (.aload_n 0, 1) := by decide +kernel
theorem dX4_openFrame_27 : decode cX4_openFrame 27 = .ok (.aload_n 0, 1) := by decide +kernel
theorem dX4_openFrame_28 : decode cX4_openFrame 28 = .ok (.getfield 106, 3) := by decide +kernel
theorem dX4_openFrame_31 : decode cX4_openFrame 31 = .ok (.aload_n 0, 1) := by decide +kernel
theorem dX4_openFrame_32 : decode cX4_openFrame 32 = .ok (.getfield 78, 3) := by decide +kernel
theorem dX4_openFrame_35 : decode cX4_openFrame 35 = .ok (.invokestatic 117, 3) := by decide +kernel
theorem dX4_openFrame_38 : decode cX4_openFrame 38 = .ok (.putfield 106, 3) := by decide +kernel
theorem dX4_openFrame_41 : decode cX4_openFrame 41 = .ok (.aload_n 3, 1) := by decide +kernel
theorem dX4_openFrame_42 : decode cX4_openFrame 42 = .ok (.areturn, 1) := by decide +kernel
theorem dX4_step_0 : decode cX4_step 0 = .ok (.aload_n 0, 1) := by decide +kernel
theorem dX4_step_1 : decode cX4_step 1 = .ok (.dup, 1) := by decide +kernel
theorem dX4_step_2 : decode cX4_step 2 = .ok (.getfield 94, 3) := by decide +kernel
theorem dX4_step_5 : decode cX4_step 5 = .ok (.iconst 1, 1) := by decide +kernel
theorem dX4_step_6 : decode cX4_step 6 = .ok (.iadd, 1) := by decide +kernel
theorem dX4_step_7 : decode cX4_step 7 = .ok (.putfield 94, 3) := by decide +kernel
theorem dX4_step_10 : decode cX4_step 10 = .ok (.aload_n 1, 1) := by decide +kernel
theorem dX4_step_11 : decode cX4_step 11 = .ok (.aload_n 1, 1) := by decide +kernel
theorem dX4_step_12 : decode cX4_step 12 = .ok (.getfield 123, 3) := by decide +kernel
theorem dX4_step_15 : decode cX4_step 15 = .ok (.iconst 1, 1) := by decide +kernel
theorem dX4_step_16 : decode cX4_step 16 = .ok (.iadd, 1) := by decide +kernel
theorem dX4_step_17 : decode cX4_step 17 = .ok (.putfield 126, 3) := by decide +kernel
theorem dX4_step_20 : decode cX4_step 20 = .ok (.aload_n 0, 1) := by decide +kernel
theorem dX4_step_21 : decode cX4_step 21 = .ok (.aload_n 1, 1) := by decide +kernel
theorem dX4_step_22 : decode cX4_step 22 = .ok (.aload_n 1, 1) := by decide +kernel
theorem dX4_step_23 : decode cX4_step 23 = .ok (.getfield 129, 3) := by decide +kernel
theorem dX4_step_26 : decode cX4_step 26 = .ok (.getfield 133, 3) := by decide +kernel
theorem dX4_step_29 : decode cX4_step 29 = .ok (.aload_n 1, 1) := by decide +kernel
theorem dX4_step_30 : decode cX4_step 30 = .ok (.getfield 123, 3) := by decide +kernel
theorem dX4_step_33 : decode cX4_step 33 = .ok (.iaload, 1) := by decide +kernel
theorem dX4_step_34 : decode cX4_step 34 = .ok (.aload_n 1, 1) := by decide +kernel
theorem dX4_step_35 : decode cX4_step 35 = .ok (.getfield 129, 3) := by decide +kernel
theorem dX4_step_38 : decode cX4_step 38 = .ok (.getfield 137, 3) := by decide +kernel
theorem dX4_step_41 : decode cX4_step 41 = .ok (.aload_n 1, 1) := by decide +kernel
theorem dX4_step_42 : decode cX4_step 42 = .ok (.getfield 123, 3) := by decide +kernel
theorem dX4_step_45 : decode cX4_step 45 = .ok (.iaload, 1) := by decide +kernel
theorem dX4_step_46 : decode cX4_step 46 = .ok (.aload_n 1, 1) := by decide +kernel
theorem dX4_step_47 : decode cX4_step 47 = .ok (.getfield 129, 3) := by decide +kernel
theorem dX4_step_50 : decode cX4_step 50 = .ok (.getfield 140, 3) := by decide +kernel
theorem dX4_step_53 : decode cX4_step 53 = .ok (.aload_n 1, 1) := by decide +kernel
theorem dX4_step_54 : decode cX4_step 54 = .ok (.getfield 123, 3) := by decide +kernel
theorem dX4_step_57 : decode cX4_step 57 = .ok (.iaload, 1) := by decide +kernel
theorem dX4_step_58 : decode cX4_step 58 = .ok (.invokevirtual 143, 3) := by decide +kernel
theorem dX4_step_61 : decode cX4_step 61 = .ok (.istore_n 2, 1) := by decide +kernel
theorem dX4_step_62 : decode cX4_step 62 = .ok (.iload_n 2, 1) := by decide +kernel
theorem dX4_step_63 : decode cX4_step 63 = .ok (.ifCond .ne 25, 3) := by decide +kernel
theorem dX4_step_66 : decode cX4_step 66 = .ok (.aload_n 0, 1) := by decide +kernel
theorem dX4_step_67 : decode cX4_step 67 = .ok (.getfield 78, 3) := by decide +kernel
theorem dX4_step_70 : decode cX4_step 70 = .ok (.ifCond .le 18, 3) := by decide +kernel
theorem dX4_step_73 : decode cX4_step 73 = .ok (.aload_n 0, 1) := by decide +kernel
theorem dX4_step_74 : decode cX4_step 74 = .ok (.getfield 40, 3) := by decide +kernel
theorem dX4_step_77 : decode cX4_step 77 = .ok (.aload_n 0, 1) := by decide +kernel
theorem dX4_step_78 : decode cX4_step 78 = .ok (.getfield 78, 3) := by decide +kernel
theorem dX4_step_81 : decode cX4_step 81 = .ok (.iconst 1, 1) := by decide +kernel
theorem dX4_step_82 : decode cX4_step 82 = .ok (.isub, 1) := by decide +kernel
theorem dX4_step_83 : decode cX4_step 83 = .ok (.aaload, 1) := by decide +kernel
theorem dX4_step_84 : decode cX4_step 84 = .ok (.invokevirtual 147, 3) := by decide +kernel
theorem dX4_step_87 : decode cX4_step 87 = .ok (.istore_n 2, 1) := by decide +kernel
theorem dX4_step_88 : decode cX4_step 88 = .ok (.iload_n 2, 1) := by decide +kernel
theorem dX4_step_89 : decode cX4_step 89 = .ok (.iconst (-1), 1) := by decide +kernel
theorem dX4_step_90 : decode cX4_step 90 = .ok (.if_icmp .ne 10, 3) := by decide +kernel
theorem dX4_step_93 : decode cX4_step 93 = .ok (.aload_n 0, 1) := by decide +kernel
theorem dX4_step_94 : decode cX4_step 94 = .ok (.invokevirtual 151, 3) := by decide +kernel
theorem dX4_step_97 : decode cX4_step 97 = .ok (.goto 23, 3) := by decide +kernel
theorem dX4_step_100 : decode cX4_step 100 = .ok (.iload_n 2, 1) := by decide +kernel
theorem dX4_step_101 : decode cX4_step 101 = .ok (.ifCond .eq 19, 3) := by decide +kernel
theorem dX4_step_104 : decode cX4_step 104 = .ok (.aload_n 0, 1) := by decide +kernel
theorem dX4_step_105 : decode cX4_step 105 = .ok (.iload_n 2, 1) := by decide +kernel
theorem dX4_step_106 : decode cX4_step 106 = .ok (.aload_n 0, 1) := by decide +kernel
theorem dX4_step_107 : decode cX4_step 107 = .ok (.getfield 40, 3) := by decide +kernel
theorem dX4_step_110 : decode cX4_step 110 = .ok (.aload_n 0, 1) := by decide +kernel
theorem dX4_step_111 : decode cX4_step 111 = .ok (.getfield 78, 3) := by decide +kernel
theorem dX4_step_114 : decode cX4_step 114 = .ok (.iconst 1, 1) := by decide +kernel
theorem dX4_step_115 : decode cX4_step 115 = .ok (.isub, 1) := by decide +kernel
theorem dX4_step_116 : decode cX4_step 116 = .ok (.aaload, 1) := by decide +kernel
theorem dX4_step_117 : decode cX4_step 117 = .ok (.invokevirtual 154, 3) := by decide +kernel
theorem dX4_step_120 : decode cX4_step 120 = .ok (.return_, 1) := by decide +kernel
theorem dX4_raise_0 : decode cX4_raise 0 = .ok (.aload_n 0, 1) := by decide +kernel
theorem dX4_raise_1 : decode cX4_raise 1 = .ok (.dup, 1) := by decide +kernel
theorem dX4_raise_2 : decode cX4_raise 2 = .ok (.getfield 97, 3) := by decide +kernel
theorem dX4_raise_5 : decode cX4_raise 5 = .ok (.iconst 1, 1) := by decide +kernel
theorem dX4_raise_6 : decode cX4_raise 6 = .ok (.iadd, 1) := by decide +kernel
theorem dX4_raise_7 : decode cX4_raise 7 = .ok (.putfield 97, 3) := by decide +kernel
theorem dX4_raise_10 : decode cX4_raise 10 = .ok (.aload_n 0, 1) := by decide +kernel
theorem dX4_raise_11 : decode cX4_raise 11 = .ok (.getfield 51, 3) := by decide +kernel
theorem dX4_raise_14 : decode cX4_raise 14 = .ok (.iload_n 1, 1) := by decide +kernel
theorem dX4_raise_15 : decode cX4_raise 15 = .ok (.iload_n 1, 1) := by decide +kernel
theorem dX4_raise_16 : decode cX4_raise 16 = .ok (.bipush 11, 2) := by decide +kernel
theorem dX4_raise_18 : decode cX4_raise 18 = .ok (.if_icmp .ne 10, 3) := by decide +kernel
theorem dX4_raise_21 : decode cX4_raise 21 = .ok (.aload_n 0, 1) := by decide +kernel
theorem dX4_raise_22 : decode cX4_raise 22 = .ok (.getfield 158, 3) := by decide +kernel
theorem dX4_raise_25 : decode cX4_raise 25 = .ok (.goto 4, 3) := by decide +kernel
theorem dX4_raise_28 : decode cX4_raise 28 = .ok (.lconst 0, 1) := by decide +kernel
theorem dX4_raise_29 : decode cX4_raise 29 = .ok (.aload_n 2, 1) := by decide +kernel
theorem dX4_raise_30 : decode cX4_raise 30 = .ok (.getfield 161, 3) := by decide +kernel
theorem dX4_raise_33 : decode cX4_raise 33 = .ok (.aload_n 2, 1) := by decide +kernel
theorem dX4_raise_34 : decode cX4_raise 34 = .ok (.getfield 123, 3) := by decide +kernel
theorem dX4_raise_37 : decode cX4_raise 37 = .ok (.invokevirtual 164, 3) := by decide +kernel
theorem dX4_raise_40 : decode cX4_raise 40 = .ok (.aload_n 0, 1) := by decide +kernel
theorem dX4_raise_41 : decode cX4_raise 41 = .ok (.getfield 97, 3) := by decide +kernel
theorem dX4_raise_44 : decode cX4_raise 44 = .ok (.bipush 25, 2) := by decide +kernel
theorem dX4_raise_46 : decode cX4_raise 46 = .ok (.if_icmp .lt 11, 3) := by decide +kernel
theorem dX4_raise_49 : decode cX4_raise 49 = .ok (.aload_n 0, 1) := by decide +kernel
theorem dX4_raise_50 : decode cX4_raise 50 = .ok (.iconst 2, 1) := by decide +kernel
theorem dX4_raise_51 : decode cX4_raise 51 = .ok (.putfield 75, 3) := by decide +kernel
theorem dX4_raise_54 : decode cX4_raise 54 = .ok (.goto 7, 3) := by decide +kernel
theorem dX4_raise_57 : decode cX4_raise 57 = .ok (.aload_n 0, 1) := by decide +kernel
theorem dX4_raise_58 : decode cX4_raise 58 = .ok (.invokevirtual 151, 3) := by decide +kernel
theorem dX4_raise_61 : decode cX4_raise 61 = .ok (.return_, 1) := by decide +kernel
theorem dX4_passOn_0 : decode cX4_passOn 0 = .ok (.aload_n 0, 1) := by decide +kernel
theorem dX4_passOn_1 : decode cX4_passOn 1 = .ok (.getfield 78, 3) := by decide +kernel
theorem dX4_passOn_4 : decode cX4_passOn 4 = .ok (.ifCond .le 93, 3) := by decide +kernel
theorem dX4_passOn_7 : decode cX4_passOn 7 = .ok (.aload_n 0, 1) := by decide +kernel
theorem dX4_passOn_8 : decode cX4_passOn 8 = .ok (.getfield 40, 3) := by decide +kernel
theorem dX4_passOn_11 : decode cX4_passOn 11 = .ok (.aload_n 0, 1) := by decide +kernel
theorem dX4_passOn_12 : decode cX4_passOn 12 = .ok (.getfield 78, 3) := by decide +kernel
theorem dX4_passOn_15 : decode cX4_passOn 15 = .ok (.iconst 1, 1) := by decide +kernel
theorem dX4_passOn_16 : decode cX4_passOn 16 = .ok (.isub, 1) := by decide +kernel
theorem dX4_passOn_17 : decode cX4_passOn 17 = .ok (.aaload, 1) := by decide +kernel
theorem dX4_passOn_18 : decode cX4_passOn 18 = .ok (.astore_n 1, 1) := by decide +kernel
theorem dX4_passOn_19 : decode cX4_passOn 19 = .ok (.aload_n 1, 1) := by decide +kernel
theorem dX4_passOn_20 : decode cX4_passOn 20 = .ok (.getfield 129, 3) := by decide +kernel
theorem dX4_passOn_23 : decode cX4_passOn 23 = .ok (.aload_n 1, 1) := by decide +kernel
theorem dX4_passOn_24 : decode cX4_passOn 24 = .ok (.getfield 123, 3) := by decide +kernel
theorem dX4_passOn_27 : decode cX4_passOn 27 = .ok (.aload_n 0, 1) := by decide +kernel
theorem dX4_passOn_28 : decode cX4_passOn 28 = .ok (.getfield 51, 3) := by decide +kernel
theorem dX4_passOn_31 : decode cX4_passOn 31 = .ok (.getfield 168, 3) := by decide +kernel
theorem dX4_passOn_34 : decode cX4_passOn 34 = .ok (.invokevirtual 171, 3) := by decide +kernel
theorem dX4_passOn_37 : decode cX4_passOn 37 = .ok (.istore_n 2, 1) := by decide +kernel
theorem dX4_passOn_38 : decode cX4_passOn 38 = .ok (.iload_n 2, 1) := by decide +kernel
theorem dX4_passOn_39 : decode cX4_passOn 39 = .ok (.iconst (-1), 1) := by decide +kernel
theorem dX4_passOn_40 : decode cX4_passOn 40 = .ok (.if_icmp .eq 10, 3) := by decide +kernel
theorem dX4_passOn_43 : decode cX4_passOn 43 = .ok (.aload_n 0, 1) := by decide +kernel
theorem dX4_passOn_44 : decode cX4_passOn 44 = .ok (.aload_n 1, 1) := by decide +kernel
theorem dX4_passOn_45 : decode cX4_passOn 45 = .ok (.iload_n 2, 1) := by decide +kernel
theorem dX4_passOn_46 : decode cX4_passOn 46 = .ok (.invokevirtual 174, 3) := by decide +kernel
theorem dX4_passOn_49 : decode cX4_passOn 49 = .ok (.return_, 1) := by decide +kernel
theorem dX4_passOn_50 : decode cX4_passOn 50 = .ok (.aload_n 1, 1) := by decide +kernel
theorem dX4_passOn_51 : decode cX4_passOn 51 = .ok (.invokevirtual 178, 3) := by decide +kernel
theorem dX4_passOn_54 : decode cX4_passOn 54 = .ok (.ifCond .eq 30, 3) := by decide +kernel
theorem dX4_passOn_57 : decode cX4_passOn 57 = .ok (.aload_n 0, 1) := by decide +kernel
theorem dX4_passOn_58 : decode cX4_passOn 58 = .ok (.dup, 1) := by decide +kernel
theorem dX4_passOn_59 : decode cX4_passOn 59 = .ok (.getfield 103, 3) := by decide +kernel
theorem dX4_passOn_62 : decode cX4_passOn 62 = .ok (.iconst 1, 1) := by decide +kernel
theorem dX4_passOn_63 : decode cX4_passOn 63 = .ok (.iadd, 1) := by decide +kernel
theorem dX4_passOn_64 : decode cX4_passOn 64 = .ok (.putfield 103, 3) := by decide +kernel
theorem dX4_passOn_67 : decode cX4_passOn 67 = .ok (.aload_n 1, 1) := by decide +kernel
theorem dX4_passOn_68 : decode cX4_passOn 68 = .ok (.aload_n 0, 1) := by decide +kernel
theorem dX4_passOn_69 : decode cX4_passOn 69 = .ok (.getfield 51, 3) := by decide +kernel
theorem dX4_passOn_72 : decode cX4_passOn 72 = .ok (.invokevirtual 182, 3) := by decide +kernel
theorem dX4_passOn_75 : decode cX4_passOn 75 = .ok (.aload_n 1, 1) := by decide +kernel
theorem dX4_passOn_76 : decode cX4_passOn 76 = .ok (.aload_n 1, 1) := by decide +kernel
theorem dX4_passOn_77 : decode cX4_passOn 77 = .ok (.getfield 126, 3) := by decide +kernel
theorem dX4_passOn_80 : decode cX4_passOn 80 = .ok (.putfield 123, 3) := by decide +kernel
theorem dX4_passOn_83 : decode cX4_passOn 83 = .ok (.return_, 1) := by decide +kernel
theorem dX4_passOn_84 : decode cX4_passOn 84 = .ok (.aload_n 0, 1) := by decide +kernel
theorem dX4_passOn_85 : decode cX4_passOn 85 = .ok (.dup, 1) := by decide +kernel
theorem dX4_passOn_86 : decode cX4_passOn 86 = .ok (.getfield 78, 3) := by decide +kernel
theorem dX4_passOn_89 : decode cX4_passOn 89 = .ok (.iconst 1, 1) := by decide +kernel
theorem dX4_passOn_90 : decode cX4_passOn 90 = .ok (.isub, 1) := by decide +kernel
theorem dX4_passOn_91 : decode cX4_passOn 91 = .ok (.putfield 78, 3) := by decide +kernel
theorem dX4_passOn_94 : decode cX4_passOn 94 = .ok (.goto (-94), 3) := by decide +kernel
theorem dX4_passOn_97 : decode cX4_passOn 97 = .ok (.aload_n 0, 1) := by decide +kernel
theorem dX4_passOn_98 : decode cX4_passOn 98 = .ok (.iconst 1, 1) := by decide +kernel
theorem dX4_passOn_99 : decode cX4_passOn 99 = .ok (.putfield 75, 3) := by decide +kernel
theorem dX4_passOn_102 : decode cX4_passOn 102 = .ok (.return_, 1) := by decide +kernel
theorem dX4_beTaken_0 : decode cX4_beTaken 0 = .ok (.aload_n 0, 1) := by decide +kernel
theorem dX4_beTaken_1 : decode cX4_beTaken 1 = .ok (.dup, 1) := by decide +kernel
theorem dX4_beTaken_2 : decode cX4_beTaken 2 = .ok (.getfield 100, 3) := by decide +kernel
theorem dX4_beTaken_5 : decode cX4_beTaken 5 = .ok (.iconst 1, 1) := by decide +kernel
theorem dX4_beTaken_6 : decode cX4_beTaken 6 = .ok (.iadd, 1) := by decide +kernel
theorem dX4_beTaken_7 : decode cX4_beTaken 7 = .ok (.putfield 100, 3) := by decide +kernel
theorem dX4_beTaken_10 : decode cX4_beTaken 10 = .ok (.aload_n 1, 1) := by decide +kernel
theorem dX4_beTaken_11 : decode cX4_beTaken 11 = .ok (.iconst 0, 1) := by decide +kernel
theorem dX4_beTaken_12 : decode cX4_beTaken 12 = .ok (.putfield 186, 3) := by decide +kernel
theorem dX4_beTaken_15 : decode cX4_beTaken 15 = .ok (.aload_n 1, 1) := by decide +kernel
theorem dX4_beTaken_16 : decode cX4_beTaken 16 = .ok (.aload_n 0, 1) := by decide +kernel
theorem dX4_beTaken_17 : decode cX4_beTaken 17 = .ok (.getfield 51, 3) := by decide +kernel
theorem dX4_beTaken_20 : decode cX4_beTaken 20 = .ok (.getfield 189, 3) := by decide +kernel
theorem dX4_beTaken_23 : decode cX4_beTaken 23 = .ok (.invokevirtual 192, 3) := by decide +kernel
theorem dX4_beTaken_26 : decode cX4_beTaken 26 = .ok (.pop, 1) := by decide +kernel
theorem dX4_beTaken_27 : decode cX4_beTaken 27 = .ok (.aload_n 1, 1) := by decide +kernel
theorem dX4_beTaken_28 : decode cX4_beTaken 28 = .ok (.aload_n 0, 1) := by decide +kernel
theorem dX4_beTaken_29 : decode cX4_beTaken 29 = .ok (.getfield 51, 3) := by decide +kernel
theorem dX4_beTaken_32 : decode cX4_beTaken 32 = .ok (.getfield 168, 3) := by decide +kernel
theorem dX4_beTaken_35 : decode cX4_beTaken 35 = .ok (.i2l, 1) := by decide +kernel
theorem dX4_beTaken_36 : decode cX4_beTaken 36 = .ok (.invokevirtual 192, 3) := by decide +kernel
theorem dX4_beTaken_39 : decode cX4_beTaken 39 = .ok (.pop, 1) := by decide +kernel
theorem dX4_beTaken_40 : decode cX4_beTaken 40 = .ok (.aload_n 1, 1) := by decide +kernel
theorem dX4_beTaken_41 : decode cX4_beTaken 41 = .ok (.iload_n 2, 1) := by decide +kernel
theorem dX4_beTaken_42 : decode cX4_beTaken 42 = .ok (.putfield 123, 3) := by decide +kernel
theorem dX4_beTaken_45 : decode cX4_beTaken 45 = .ok (.return_, 1) := by decide +kernel
theorem dX4_act_0 : decode cX4_act 0 = .ok (.aload_n 1, 1) := by decide +kernel
theorem dX4_act_1 : decode cX4_act 1 = .ok (.iload_n 2, 1) := by decide +kernel
theorem dX4_act_2 : decode cX4_act 2 = .ok (.iload_n 3, 1) := by decide +kernel
theorem dX4_act_3 : decode cX4_act 3 = .ok (.iload 4, 2) := by decide +kernel
theorem dX4_act_5 : decode cX4_act 5 = .ok (.invokestatic 196, 3) := by decide +kernel
theorem dX4_act_8 : decode cX4_act 8 = .ok (.invokevirtual 202, 3) := by decide +kernel
theorem dX4_act_11 : decode cX4_act 11 = .ok (.ifCond .ne 6, 3) := by decide +kernel
theorem dX4_act_14 : decode cX4_act 14 = .ok (.bipush 8, 2) := by decide +kernel
theorem dX4_act_16 : decode cX4_act 16 = .ok (.ireturn, 1) := by decide +kernel
theorem dX4_act_17 : decode cX4_act 17 = .ok (.iload_n 2, 1) := by decide +kernel
theorem dX4_act_18 : decode cX4_act 18 = .ok (.tableswitch 295 0 29 #[134, 134, 134, 295, 295, 295, 295, 295, 295, 295, 134, 134, 142, 142, 152, 152, 152, 142, 142, 162, 171, 182, 194, 200, 212, 235, 251, 261, 267, 152], 134) := by decide +kernel
theorem dX4_act_152 : decode cX4_act 152 = .ok (.aload_n 0, 1) := by decide +kernel
theorem dX4_act_153 : decode cX4_act 153 = .ok (.aload_n 1, 1) := by decide +kernel
theorem dX4_act_154 : decode cX4_act 154 = .ok (.iload_n 2, 1) := by decide +kernel
theorem dX4_act_155 : decode cX4_act 155 = .ok (.iload_n 3, 1) := by decide +kernel
theorem dX4_act_156 : decode cX4_act 156 = .ok (.invokevirtual 206, 3) := by decide +kernel
theorem dX4_act_159 : decode cX4_act 159 = .ok (.ireturn, 1) := by decide +kernel
theorem dX4_act_160 : decode cX4_act 160 = .ok (.aload_n 0, 1) := by decide +kernel
theorem dX4_act_161 : decode cX4_act 161 = .ok (.aload_n 1, 1) := by decide +kernel
theorem dX4_act_162 : decode cX4_act 162 = .ok (.iload_n 2, 1) := by decide +kernel
theorem dX4_act_163 : decode cX4_act 163 = .ok (.iload_n 3, 1) := by decide +kernel
theorem dX4_act_164 : decode cX4_act 164 = .ok (.iload 4, 2) := by decide +kernel
theorem dX4_act_166 : decode cX4_act 166 = .ok (.invokevirtual 210, 3) := by decide +kernel
theorem dX4_act_169 : decode cX4_act 169 = .ok (.ireturn, 1) := by decide +kernel
theorem dX4_act_170 : decode cX4_act 170 = .ok (.aload_n 0, 1) := by decide +kernel
theorem dX4_act_171 : decode cX4_act 171 = .ok (.aload_n 1, 1) := by decide +kernel
theorem dX4_act_172 : decode cX4_act 172 = .ok (.iload_n 2, 1) := by decide +kernel
theorem dX4_act_173 : decode cX4_act 173 = .ok (.iload_n 3, 1) := by decide +kernel
theorem dX4_act_174 : decode cX4_act 174 = .ok (.iload 4, 2) := by decide +kernel
theorem dX4_act_176 : decode cX4_act 176 = .ok (.invokevirtual 213, 3) := by decide +kernel
theorem dX4_act_179 : decode cX4_act 179 = .ok (.ireturn, 1) := by decide +kernel
theorem dX4_act_180 : decode cX4_act 180 = .ok (.aload_n 0, 1) := by decide +kernel
theorem dX4_act_181 : decode cX4_act 181 = .ok (.aload_n 1, 1) := by decide +kernel
theorem dX4_act_182 : decode cX4_act 182 = .ok (.iload_n 3, 1) := by decide +kernel
theorem dX4_act_183 : decode cX4_act 183 = .ok (.iload 4, 2) := by decide +kernel
theorem dX4_act_185 : decode cX4_act 185 = .ok (.invokevirtual 216, 3) := by decide +kernel
theorem dX4_act_188 : decode cX4_act 188 = .ok (.ireturn, 1) := by decide +kernel
theorem dX4_act_189 : decode cX4_act 189 = .ok (.aload_n 0, 1) := by decide +kernel
theorem dX4_act_190 : decode cX4_act 190 = .ok (.aload_n 1, 1) := by decide +kernel
theorem dX4_act_191 : decode cX4_act 191 = .ok (.aload_n 1, 1) := by decide +kernel
theorem dX4_act_192 : decode cX4_act 192 = .ok (.iconst 0, 1) := by decide +kernel
theorem dX4_act_193 : decode cX4_act 193 = .ok (.invokevirtual 219, 3) := by decide +kernel
theorem dX4_act_196 : decode cX4_act 196 = .ok (.invokevirtual 222, 3) := by decide +kernel
theorem dX4_act_199 : decode cX4_act 199 = .ok (.ireturn, 1) := by decide +kernel
theorem dX4_act_200 : decode cX4_act 200 = .ok (.aload_n 0, 1) := by decide +kernel
theorem dX4_act_201 : decode cX4_act 201 = .ok (.aload_n 1, 1) := by decide +kernel
theorem dX4_act_202 : decode cX4_act 202 = .ok (.iconst 0, 1) := by decide +kernel
theorem dX4_act_203 : decode cX4_act 203 = .ok (.invokevirtual 219, 3) := by decide +kernel
theorem dX4_act_206 : decode cX4_act 206 = .ok (.putfield 158, 3) := by decide +kernel
theorem dX4_act_209 : decode cX4_act 209 = .ok (.bipush 11, 2) := by decide +kernel
theorem dX4_act_211 : decode cX4_act 211 = .ok (.ireturn, 1) := by decide +kernel
theorem dX4_act_212 : decode cX4_act 212 = .ok (.aload_n 0, 1) := by decide +kernel
theorem dX4_act_213 : decode cX4_act 213 = .ok (.aload_n 1, 1) := by decide +kernel
theorem dX4_act_214 : decode cX4_act 214 = .ok (.invokevirtual 226, 3) := by decide +kernel
theorem dX4_act_217 : decode cX4_act 217 = .ok (.ireturn, 1) := by decide +kernel
theorem dX4_act_218 : decode cX4_act 218 = .ok (.aload_n 0, 1) := by decide +kernel
theorem dX4_act_219 : decode cX4_act 219 = .ok (.aload_n 1, 1) := by decide +kernel
theorem dX4_act_220 : decode cX4_act 220 = .ok (.aload_n 1, 1) := by decide +kernel
theorem dX4_act_221 : decode cX4_act 221 = .ok (.iconst 0, 1) := by decide +kernel
theorem dX4_act_222 : decode cX4_act 222 = .ok (.invokevirtual 219, 3) := by decide +kernel
theorem dX4_act_225 : decode cX4_act 225 = .ok (.iload_n 3, 1) := by decide +kernel
theorem dX4_act_226 : decode cX4_act 226 = .ok (.invokevirtual 230, 3) := by decide +kernel
theorem dX4_act_229 : decode cX4_act 229 = .ok (.ireturn, 1) := by decide +kernel
theorem dX4_act_230 : decode cX4_act 230 = .ok (.aload_n 0, 1) := by decide +kernel
theorem dX4_act_231 : decode cX4_act 231 = .ok (.getfield 21, 3) := by decide +kernel
theorem dX4_act_234 : decode cX4_act 234 = .ok (.aload_n 1, 1) := by decide +kernel
theorem dX4_act_235 : decode cX4_act 235 = .ok (.iconst 0, 1) := by decide +kernel
theorem dX4_act_236 : decode cX4_act 236 = .ok (.invokevirtual 219, 3) := by decide +kernel
theorem dX4_act_239 : decode cX4_act 239 = .ok (.aload_n 1, 1) := by decide +kernel
theorem dX4_act_240 : decode cX4_act 240 = .ok (.iconst 1, 1) := by decide +kernel
theorem dX4_act_241 : decode cX4_act 241 = .ok (.invokevirtual 219, 3) := by decide +kernel
theorem dX4_act_244 : decode cX4_act 244 = .ok (.aload_n 1, 1) := by decide +kernel
theorem dX4_act_245 : decode cX4_act 245 = .ok (.iconst 2, 1) := by decide +kernel
theorem dX4_act_246 : decode cX4_act 246 = .ok (.invokevirtual 219, 3) := by decide +kernel
theorem dX4_act_249 : decode cX4_act 249 = .ok (.invokevirtual 234, 3) := by decide +kernel
theorem dX4_act_252 : decode cX4_act 252 = .ok (.ireturn, 1) := by decide +kernel
theorem dX4_act_253 : decode cX4_act 253 = .ok (.aload_n 0, 1) := by decide +kernel
theorem dX4_act_254 : decode cX4_act 254 = .ok (.aload_n 1, 1) := by decide +kernel
theorem dX4_act_255 : decode cX4_act 255 = .ok (.aload_n 1, 1) := by decide +kernel
theorem dX4_act_256 : decode cX4_act 256 = .ok (.iconst 0, 1) := by decide +kernel
theorem dX4_act_257 : decode cX4_act 257 = .ok (.invokevirtual 219, 3) := by decide +kernel
theorem dX4_act_260 : decode cX4_act 260 = .ok (.aload_n 1, 1) := by decide +kernel
theorem dX4_act_261 : decode cX4_act 261 = .ok (.iconst 1, 1) := by decide +kernel
theorem dX4_act_262 : decode cX4_act 262 = .ok (.invokevirtual 219, 3) := by decide +kernel
theorem dX4_act_265 : decode cX4_act 265 = .ok (.invokevirtual 238, 3) := by decide +kernel
theorem dX4_act_268 : decode cX4_act 268 = .ok (.ireturn, 1) := by decide +kernel
theorem dX4_act_269 : decode cX4_act 269 = .ok (.aload_n 0, 1) := by decide +kernel
theorem dX4_act_270 : decode cX4_act 270 = .ok (.aload_n 1, 1) := by decide +kernel
theorem dX4_act_271 : decode cX4_act 271 = .ok (.iconst 0, 1) := by decide +kernel
theorem dX4_act_272 : decode cX4_act 272 = .ok (.invokevirtual 219, 3) := by decide +kernel
theorem dX4_act_275 : decode cX4_act 275 = .ok (.invokevirtual 242, 3) := by decide +kernel
theorem dX4_act_278 : decode cX4_act 278 = .ok (.ireturn, 1) := by decide +kernel
theorem dX4_act_279 : decode cX4_act 279 = .ok (.aload_n 0, 1) := by decide +kernel
theorem dX4_act_280 : decode cX4_act 280 = .ok (.aload_n 1, 1) := by decide +kernel
theorem dX4_act_281 : decode cX4_act 281 = .ok (.invokevirtual 245, 3) := by decide +kernel
theorem dX4_act_284 : decode cX4_act 284 = .ok (.ireturn, 1) := by decide +kernel
theorem dX4_act_285 : decode cX4_act 285 = .ok (.aload_n 1, 1) := by decide +kernel
theorem dX4_act_286 : decode cX4_act 286 = .ok (.aload_n 0, 1) := by decide +kernel
theorem dX4_act_287 : decode cX4_act 287 = .ok (.getfield 28, 3) := by decide +kernel
theorem dX4_act_290 : decode cX4_act 290 = .ok (.aload_n 0, 1) := by decide +kernel
theorem dX4_act_291 : decode cX4_act 291 = .ok (.getfield 12, 3) := by decide +kernel
theorem dX4_act_294 : decode cX4_act 294 = .ok (.aload_n 0, 1) := by decide +kernel
theorem dX4_act_295 : decode cX4_act 295 = .ok (.getfield 21, 3) := by decide +kernel
theorem dX4_act_298 : decode cX4_act 298 = .ok (.invokevirtual 248, 3) := by decide +kernel
theorem dX4_act_301 : decode cX4_act 301 = .ok (.ifCond .eq 7, 3) := by decide +kernel
theorem dX4_act_304 : decode cX4_act 304 = .ok (.lconst 1, 1) := by decide +kernel
theorem dX4_act_305 : decode cX4_act 305 = .ok (.goto 4, 3) := by decide +kernel
theorem dX4_act_308 : decode cX4_act 308 = .ok (.lconst 0, 1) := by decide +kernel
theorem dX4_act_309 : decode cX4_act 309 = .ok (.invokevirtual 192, 3) := by decide +kernel
theorem dX4_act_312 : decode cX4_act 312 = .ok (.ireturn, 1) := by decide +kernel
theorem dX4_act_313 : decode cX4_act 313 = .ok (.aload_n 0, 1) := by decide +kernel
theorem dX4_act_314 : decode cX4_act 314 = .ok (.aload_n 1, 1) := by decide +kernel
theorem dX4_act_315 : decode cX4_act 315 = .ok (.iload_n 2, 1) := by decide +kernel
theorem dX4_act_316 : decode cX4_act 316 = .ok (.aload_n 1, 1) := by decide +kernel
theorem dX4_act_317 : decode cX4_act 317 = .ok (.iconst 0, 1) := by decide +kernel
theorem dX4_act_318 : decode cX4_act 318 = .ok (.invokevirtual 219, 3) := by decide +kernel
theorem dX4_act_321 : decode cX4_act 321 = .ok (.aload_n 1, 1) := by decide +kernel
theorem dX4_act_322 : decode cX4_act 322 = .ok (.iconst 1, 1) := by decide +kernel
theorem dX4_act_323 : decode cX4_act 323 = .ok (.invokevirtual 219, 3) := by decide +kernel
theorem dX4_act_326 : decode cX4_act 326 = .ok (.invokevirtual 252, 3) := by decide +kernel
theorem dX4_act_329 : decode cX4_act 329 = .ok (.ireturn, 1) := by decide +kernel
theorem dX4_useLocals_0 : decode cX4_useLocals 0 = .ok (.iload_n 2, 1) := by decide +kernel
theorem dX4_useLocals_1 : decode cX4_useLocals 1 = .ok (.lookupswitch 79 #[(0, 43), (1, 50), (2, 60), (10, 72)], 43) := by decide +kernel
theorem dX4_useLocals_44 : decode cX4_useLocals 44 = .ok (.aload_n 1, 1) := by decide +kernel
theorem dX4_useLocals_45 : decode cX4_useLocals 45 = .ok (.iload_n 3, 1) := by decide +kernel
theorem dX4_useLocals_46 : decode cX4_useLocals 46 = .ok (.i2l, 1) := by decide +kernel
theorem dX4_useLocals_47 : decode cX4_useLocals 47 = .ok (.invokevirtual 192, 3) := by decide +kernel
theorem dX4_useLocals_50 : decode cX4_useLocals 50 = .ok (.ireturn, 1) := by decide +kernel
theorem dX4_useLocals_51 : decode cX4_useLocals 51 = .ok (.aload_n 1, 1) := by decide +kernel
theorem dX4_useLocals_52 : decode cX4_useLocals 52 = .ok (.aload_n 1, 1) := by decide +kernel
theorem dX4_useLocals_53 : decode cX4_useLocals 53 = .ok (.iload_n 3, 1) := by decide +kernel
theorem dX4_useLocals_54 : decode cX4_useLocals 54 = .ok (.invokevirtual 256, 3) := by decide +kernel
theorem dX4_useLocals_57 : decode cX4_useLocals 57 = .ok (.invokevirtual 192, 3) := by decide +kernel
theorem dX4_useLocals_60 : decode cX4_useLocals 60 = .ok (.ireturn, 1) := by decide +kernel
theorem dX4_useLocals_61 : decode cX4_useLocals 61 = .ok (.aload_n 1, 1) := by decide +kernel
theorem dX4_useLocals_62 : decode cX4_useLocals 62 = .ok (.iload_n 3, 1) := by decide +kernel
theorem dX4_useLocals_63 : decode cX4_useLocals 63 = .ok (.aload_n 1, 1) := by decide +kernel
theorem dX4_useLocals_64 : decode cX4_useLocals 64 = .ok (.iconst 0, 1) := by decide +kernel
theorem dX4_useLocals_65 : decode cX4_useLocals 65 = .ok (.invokevirtual 219, 3) := by decide +kernel
theorem dX4_useLocals_68 : decode cX4_useLocals 68 = .ok (.invokevirtual 71, 3) := by decide +kernel
theorem dX4_useLocals_71 : decode cX4_useLocals 71 = .ok (.iconst 0, 1) := by decide +kernel
theorem dX4_useLocals_72 : decode cX4_useLocals 72 = .ok (.ireturn, 1) := by decide +kernel
theorem dX4_useLocals_73 : decode cX4_useLocals 73 = .ok (.aload_n 1, 1) := by decide +kernel
theorem dX4_useLocals_74 : decode cX4_useLocals 74 = .ok (.iload_n 3, 1) := by decide +kernel
theorem dX4_useLocals_75 : decode cX4_useLocals 75 = .ok (.putfield 126, 3) := by decide +kernel
theorem dX4_useLocals_78 : decode cX4_useLocals 78 = .ok (.iconst 0, 1) := by decide +kernel
theorem dX4_useLocals_79 : decode cX4_useLocals 79 = .ok (.ireturn, 1) := by decide +kernel
theorem dX4_useLocals_80 : decode cX4_useLocals 80 = .ok (.aload_n 1, 1) := by decide +kernel
theorem dX4_useLocals_81 : decode cX4_useLocals 81 = .ok (.aload_n 1, 1) := by decide +kernel
theorem dX4_useLocals_82 : decode cX4_useLocals 82 = .ok (.iconst 0, 1) := by decide +kernel
theorem dX4_useLocals_83 : decode cX4_useLocals 83 = .ok (.invokevirtual 219, 3) := by decide +kernel
theorem dX4_useLocals_86 : decode cX4_useLocals 86 = .ok (.lconst 0, 1) := by decide +kernel
theorem dX4_useLocals_87 : decode cX4_useLocals 87 = .ok (.lcmp, 1) := by decide +kernel
theorem dX4_useLocals_88 : decode cX4_useLocals 88 = .ok (.ifCond .ne 7, 3) := by decide +kernel
theorem dX4_useLocals_91 : decode cX4_useLocals 91 = .ok (.iload_n 3, 1) := by decide +kernel
theorem dX4_useLocals_92 : decode cX4_useLocals 92 = .ok (.goto 7, 3) := by decide +kernel
theorem dX4_useLocals_95 : decode cX4_useLocals 95 = .ok (.aload_n 1, 1) := by decide +kernel
theorem dX4_useLocals_96 : decode cX4_useLocals 96 = .ok (.getfield 126, 3) := by decide +kernel
theorem dX4_useLocals_99 : decode cX4_useLocals 99 = .ok (.putfield 126, 3) := by decide +kernel
theorem dX4_useLocals_102 : decode cX4_useLocals 102 = .ok (.iconst 0, 1) := by decide +kernel
theorem dX4_useLocals_103 : decode cX4_useLocals 103 = .ok (.ireturn, 1) := by decide +kernel
theorem dX4_reckon_0 : decode cX4_reckon 0 = .ok (.iload_n 2, 1) := by decide +kernel
theorem dX4_reckon_1 : decode cX4_reckon 1 = .ok (.tableswitch 125 3 8 #[39, 48, 57, 66, 87, 108], 39) := by decide +kernel
theorem dX4_reckon_40 : decode cX4_reckon 40 = .ok (.aload_n 1, 1) := by decide +kernel
theorem dX4_reckon_41 : decode cX4_reckon 41 = .ok (.lload_n 3, 1) := by decide +kernel
theorem dX4_reckon_42 : decode cX4_reckon 42 = .ok (.lload 5, 2) := by decide +kernel
theorem dX4_reckon_44 : decode cX4_reckon 44 = .ok (.ladd, 1) := by decide +kernel
theorem dX4_reckon_45 : decode cX4_reckon 45 = .ok (.invokevirtual 192, 3) := by decide +kernel
theorem dX4_reckon_48 : decode cX4_reckon 48 = .ok (.ireturn, 1) := by decide +kernel
theorem dX4_reckon_49 : decode cX4_reckon 49 = .ok (.aload_n 1, 1) := by decide +kernel
theorem dX4_reckon_50 : decode cX4_reckon 50 = .ok (.lload_n 3, 1) := by decide +kernel
theorem dX4_reckon_51 : decode cX4_reckon 51 = .ok (.lload 5, 2) := by decide +kernel
theorem dX4_reckon_53 : decode cX4_reckon 53 = .ok (.lsub, 1) := by decide +kernel
theorem dX4_reckon_54 : decode cX4_reckon 54 = .ok (.invokevirtual 192, 3) := by decide +kernel
theorem dX4_reckon_57 : decode cX4_reckon 57 = .ok (.ireturn, 1) := by decide +kernel
theorem dX4_reckon_58 : decode cX4_reckon 58 = .ok (.aload_n 1, 1) := by decide +kernel
theorem dX4_reckon_59 : decode cX4_reckon 59 = .ok (.lload_n 3, 1) := by decide +kernel
theorem dX4_reckon_60 : decode cX4_reckon 60 = .ok (.lload 5, 2) := by decide +kernel
theorem dX4_reckon_62 : decode cX4_reckon 62 = .ok (.lmul, 1) := by decide +kernel
theorem dX4_reckon_63 : decode cX4_reckon 63 = .ok (.invokevirtual 192, 3) := by decide +kernel
theorem dX4_reckon_66 : decode cX4_reckon 66 = .ok (.ireturn, 1) := by decide +kernel
theorem dX4_reckon_67 : decode cX4_reckon 67 = .ok (.lload 5, 2) := by decide +kernel
theorem dX4_reckon_69 : decode cX4_reckon 69 = .ok (.lconst 0, 1) := by decide +kernel
theorem dX4_reckon_70 : decode cX4_reckon 70 = .ok (.lcmp, 1) := by decide +kernel
theorem dX4_reckon_71 : decode cX4_reckon 71 = .ok (.ifCond .ne 8, 3) := by decide +kernel
theorem dX4_reckon_74 : decode cX4_reckon 74 = .ok (.bipush 6, 2) := by decide +kernel
theorem dX4_reckon_76 : decode cX4_reckon 76 = .ok (.goto 11, 3) := by decide +kernel
theorem dX4_reckon_79 : decode cX4_reckon 79 = .ok (.aload_n 1, 1) := by decide +kernel
theorem dX4_reckon_80 : decode cX4_reckon 80 = .ok (.lload_n 3, 1) := by decide +kernel
theorem dX4_reckon_81 : decode cX4_reckon 81 = .ok (.lload 5, 2) := by decide +kernel
theorem dX4_reckon_83 : decode cX4_reckon 83 = .ok (.ldiv, 1) := by decide +kernel
theorem dX4_reckon_84 : decode cX4_reckon 84 = .ok (.invokevirtual 192, 3) := by decide +kernel
theorem dX4_reckon_87 : decode cX4_reckon 87 = .ok (.ireturn, 1) := by decide +kernel
theorem dX4_reckon_88 : decode cX4_reckon 88 = .ok (.lload 5, 2) := by decide +kernel
theorem dX4_reckon_90 : decode cX4_reckon 90 = .ok (.lconst 0, 1) := by decide +kernel
theorem dX4_reckon_91 : decode cX4_reckon 91 = .ok (.lcmp, 1) := by decide +kernel
theorem dX4_reckon_92 : decode cX4_reckon 92 = .ok (.ifCond .ne 8, 3) := by decide +kernel
theorem dX4_reckon_95 : decode cX4_reckon 95 = .ok (.bipush 6, 2) := by decide +kernel
theorem dX4_reckon_97 : decode cX4_reckon 97 = .ok (.goto 11, 3) := by decide +kernel
theorem dX4_reckon_100 : decode cX4_reckon 100 = .ok (.aload_n 1, 1) := by decide +kernel
theorem dX4_reckon_101 : decode cX4_reckon 101 = .ok (.lload_n 3, 1) := by decide +kernel
theorem dX4_reckon_102 : decode cX4_reckon 102 = .ok (.lload 5, 2) := by decide +kernel
theorem dX4_reckon_104 : decode cX4_reckon 104 = .ok (.lrem, 1) := by decide +kernel
theorem dX4_reckon_105 : decode cX4_reckon 105 = .ok (.invokevirtual 192, 3) := by decide +kernel
theorem dX4_reckon_108 : decode cX4_reckon 108 = .ok (.ireturn, 1) := by decide +kernel
theorem dX4_reckon_109 : decode cX4_reckon 109 = .ok (.aload_n 1, 1) := by decide +kernel
theorem dX4_reckon_110 : decode cX4_reckon 110 = .ok (.lload_n 3, 1) := by decide +kernel
theorem dX4_reckon_111 : decode cX4_reckon 111 = .ok (.lload 5, 2) := by decide +kernel
theorem dX4_reckon_113 : decode cX4_reckon 113 = .ok (.lcmp, 1) := by decide +kernel
theorem dX4_reckon_114 : decode cX4_reckon 114 = .ok (.ifCond .ge 7, 3) := by decide +kernel
theorem dX4_reckon_117 : decode cX4_reckon 117 = .ok (.lconst 1, 1) := by decide +kernel
theorem dX4_reckon_118 : decode cX4_reckon 118 = .ok (.goto 4, 3) := by decide +kernel
theorem dX4_reckon_121 : decode cX4_reckon 121 = .ok (.lconst 0, 1) := by decide +kernel
theorem dX4_reckon_122 : decode cX4_reckon 122 = .ok (.invokevirtual 192, 3) := by decide +kernel
theorem dX4_reckon_125 : decode cX4_reckon 125 = .ok (.ireturn, 1) := by decide +kernel
theorem dX4_reckon_126 : decode cX4_reckon 126 = .ok (.aload_n 1, 1) := by decide +kernel
theorem dX4_reckon_127 : decode cX4_reckon 127 = .ok (.lload_n 3, 1) := by decide +kernel
theorem dX4_reckon_128 : decode cX4_reckon 128 = .ok (.lload 5, 2) := by decide +kernel
theorem dX4_reckon_130 : decode cX4_reckon 130 = .ok (.lcmp, 1) := by decide +kernel
theorem dX4_reckon_131 : decode cX4_reckon 131 = .ok (.ifCond .ne 7, 3) := by decide +kernel
theorem dX4_reckon_134 : decode cX4_reckon 134 = .ok (.lconst 1, 1) := by decide +kernel
theorem dX4_reckon_135 : decode cX4_reckon 135 = .ok (.goto 4, 3) := by decide +kernel
theorem dX4_reckon_138 : decode cX4_reckon 138 = .ok (.lconst 0, 1) := by decide +kernel
theorem dX4_reckon_139 : decode cX4_reckon 139 = .ok (.invokevirtual 192, 3) := by decide +kernel
theorem dX4_reckon_142 : decode cX4_reckon 142 = .ok (.ireturn, 1) := by decide +kernel
theorem dX4_useItem_0 : decode cX4_useItem 0 = .ok (.aload_n 1, 1) := by decide +kernel
theorem dX4_useItem_1 : decode cX4_useItem 1 = .ok (.iconst 0, 1) := by decide +kernel
theorem dX4_useItem_2 : decode cX4_useItem 2 = .ok (.invokevirtual 219, 3) := by decide +kernel
theorem dX4_useItem_5 : decode cX4_useItem 5 = .ok (.lstore 5, 2) := by decide +kernel
theorem dX4_useItem_7 : decode cX4_useItem 7 = .ok (.aload_n 1, 1) := by decide +kernel
theorem dX4_useItem_8 : decode cX4_useItem 8 = .ok (.iconst 1, 1) := by decide +kernel
theorem dX4_useItem_9 : decode cX4_useItem 9 = .ok (.invokevirtual 219, 3) := by decide +kernel
theorem dX4_useItem_12 : decode cX4_useItem 12 = .ok (.lstore 7, 2) := by decide +kernel
theorem dX4_useItem_14 : decode cX4_useItem 14 = .ok (.aload_n 0, 1) := by decide +kernel
theorem dX4_useItem_15 : decode cX4_useItem 15 = .ok (.iload_n 2, 1) := by decide +kernel
theorem dX4_useItem_16 : decode cX4_useItem 16 = .ok (.iload_n 3, 1) := by decide +kernel
theorem dX4_useItem_17 : decode cX4_useItem 17 = .ok (.iload 4, 2) := by decide +kernel
theorem dX4_useItem_19 : decode cX4_useItem 19 = .ok (.lload 5, 2) := by decide +kernel
theorem dX4_useItem_21 : decode cX4_useItem 21 = .ok (.invokevirtual 259, 3) := by decide +kernel
theorem dX4_useItem_24 : decode cX4_useItem 24 = .ok (.istore 9, 2) := by decide +kernel
theorem dX4_useItem_26 : decode cX4_useItem 26 = .ok (.iload 9, 2) := by decide +kernel
theorem dX4_useItem_28 : decode cX4_useItem 28 = .ok (.ifCond .eq 6, 3) := by decide +kernel
theorem dX4_useItem_31 : decode cX4_useItem 31 = .ok (.iload 9, 2) := by decide +kernel
theorem dX4_useItem_33 : decode cX4_useItem 33 = .ok (.ireturn, 1) := by decide +kernel
theorem dX4_useItem_34 : decode cX4_useItem 34 = .ok (.iload_n 2, 1) := by decide +kernel
theorem dX4_useItem_35 : decode cX4_useItem 35 = .ok (.lookupswitch 87 #[(12, 33), (17, 48), (18, 68)], 33) := by decide +kernel
theorem dX4_useItem_68 : decode cX4_useItem 68 = .ok (.aload_n 1, 1) := by decide +kernel
theorem dX4_useItem_69 : decode cX4_useItem 69 = .ok (.aload_n 0, 1) := by decide +kernel
theorem dX4_useItem_70 : decode cX4_useItem 70 = .ok (.getfield 12, 3) := by decide +kernel
theorem dX4_useItem_73 : decode cX4_useItem 73 = .ok (.iload_n 3, 1) := by decide +kernel
theorem dX4_useItem_74 : decode cX4_useItem 74 = .ok (.lload 5, 2) := by decide +kernel
theorem dX4_useItem_76 : decode cX4_useItem 76 = .ok (.invokevirtual 263, 3) := by decide +kernel
theorem dX4_useItem_79 : decode cX4_useItem 79 = .ok (.invokevirtual 192, 3) := by decide +kernel
theorem dX4_useItem_82 : decode cX4_useItem 82 = .ok (.ireturn, 1) := by decide +kernel
theorem dX4_useItem_83 : decode cX4_useItem 83 = .ok (.aload_n 1, 1) := by decide +kernel
theorem dX4_useItem_84 : decode cX4_useItem 84 = .ok (.iload 4, 2) := by decide +kernel
theorem dX4_useItem_86 : decode cX4_useItem 86 = .ok (.aload_n 0, 1) := by decide +kernel
theorem dX4_useItem_87 : decode cX4_useItem 87 = .ok (.getfield 12, 3) := by decide +kernel
theorem dX4_useItem_90 : decode cX4_useItem 90 = .ok (.iload_n 3, 1) := by decide +kernel
theorem dX4_useItem_91 : decode cX4_useItem 91 = .ok (.lload 5, 2) := by decide +kernel
theorem dX4_useItem_93 : decode cX4_useItem 93 = .ok (.invokevirtual 263, 3) := by decide +kernel
theorem dX4_useItem_96 : decode cX4_useItem 96 = .ok (.invokestatic 267, 3) := by decide +kernel
theorem dX4_useItem_99 : decode cX4_useItem 99 = .ok (.invokevirtual 192, 3) := by decide +kernel
theorem dX4_useItem_102 : decode cX4_useItem 102 = .ok (.ireturn, 1) := by decide +kernel
theorem dX4_useItem_103 : decode cX4_useItem 103 = .ok (.aload_n 0, 1) := by decide +kernel
theorem dX4_useItem_104 : decode cX4_useItem 104 = .ok (.getfield 12, 3) := by decide +kernel
theorem dX4_useItem_107 : decode cX4_useItem 107 = .ok (.iload_n 3, 1) := by decide +kernel
theorem dX4_useItem_108 : decode cX4_useItem 108 = .ok (.lload 5, 2) := by decide +kernel
theorem dX4_useItem_110 : decode cX4_useItem 110 = .ok (.iload 4, 2) := by decide +kernel
theorem dX4_useItem_112 : decode cX4_useItem 112 = .ok (.lload 7, 2) := by decide +kernel
theorem dX4_useItem_114 : decode cX4_useItem 114 = .ok (.invokestatic 267, 3) := by decide +kernel
theorem dX4_useItem_117 : decode cX4_useItem 117 = .ok (.invokevirtual 272, 3) := by decide +kernel
theorem dX4_useItem_120 : decode cX4_useItem 120 = .ok (.iconst 0, 1) := by decide +kernel
theorem dX4_useItem_121 : decode cX4_useItem 121 = .ok (.ireturn, 1) := by decide +kernel
theorem dX4_useItem_122 : decode cX4_useItem 122 = .ok (.aload_n 0, 1) := by decide +kernel
theorem dX4_useItem_123 : decode cX4_useItem 123 = .ok (.getfield 12, 3) := by decide +kernel
theorem dX4_useItem_126 : decode cX4_useItem 126 = .ok (.iload_n 3, 1) := by decide +kernel
theorem dX4_useItem_127 : decode cX4_useItem 127 = .ok (.lload 5, 2) := by decide +kernel
theorem dX4_useItem_129 : decode cX4_useItem 129 = .ok (.lload 7, 2) := by decide +kernel
theorem dX4_useItem_131 : decode cX4_useItem 131 = .ok (.invokevirtual 272, 3) := by decide +kernel
theorem dX4_useItem_134 : decode cX4_useItem 134 = .ok (.iconst 0, 1) := by decide +kernel
theorem dX4_useItem_135 : decode cX4_useItem 135 = .ok (.ireturn, 1) := by decide +kernel
theorem dX4_reachItem_0 : decode cX4_reachItem 0 = .ok (.iload_n 1, 1) := by decide +kernel
theorem dX4_reachItem_1 : decode cX4_reachItem 1 = .ok (.lookupswitch 51 #[(17, 27), (18, 39)], 27) := by decide +kernel
theorem dX4_reachItem_28 : decode cX4_reachItem 28 = .ok (.aload_n 0, 1) := by decide +kernel
theorem dX4_reachItem_29 : decode cX4_reachItem 29 = .ok (.getfield 12, 3) := by decide +kernel
theorem dX4_reachItem_32 : decode cX4_reachItem 32 = .ok (.iload_n 2, 1) := by decide +kernel
theorem dX4_reachItem_33 : decode cX4_reachItem 33 = .ok (.iload_n 3, 1) := by decide +kernel
theorem dX4_reachItem_34 : decode cX4_reachItem 34 = .ok (.lload 4, 2) := by decide +kernel
theorem dX4_reachItem_36 : decode cX4_reachItem 36 = .ok (.invokevirtual 276, 3) := by decide +kernel
theorem dX4_reachItem_39 : decode cX4_reachItem 39 = .ok (.ireturn, 1) := by decide +kernel
theorem dX4_reachItem_40 : decode cX4_reachItem 40 = .ok (.aload_n 0, 1) := by decide +kernel
theorem dX4_reachItem_41 : decode cX4_reachItem 41 = .ok (.getfield 12, 3) := by decide +kernel
theorem dX4_reachItem_44 : decode cX4_reachItem 44 = .ok (.iload_n 2, 1) := by decide +kernel
theorem dX4_reachItem_45 : decode cX4_reachItem 45 = .ok (.iload_n 3, 1) := by decide +kernel
theorem dX4_reachItem_46 : decode cX4_reachItem 46 = .ok (.lload 4, 2) := by decide +kernel
theorem dX4_reachItem_48 : decode cX4_reachItem 48 = .ok (.invokevirtual 280, 3) := by decide +kernel
theorem dX4_reachItem_51 : decode cX4_reachItem 51 = .ok (.ireturn, 1) := by decide +kernel
theorem dX4_reachItem_52 : decode cX4_reachItem 52 = .ok (.aload_n 0, 1) := by decide +kernel
theorem dX4_reachItem_53 : decode cX4_reachItem 53 = .ok (.getfield 12, 3) := by decide +kernel
theorem dX4_reachItem_56 : decode cX4_reachItem 56 = .ok (.iload_n 2, 1) := by decide +kernel
theorem dX4_reachItem_57 : decode cX4_reachItem 57 = .ok (.iload_n 3, 1) := by decide +kernel
theorem dX4_reachItem_58 : decode cX4_reachItem 58 = .ok (.lload 4, 2) := by decide +kernel
theorem dX4_reachItem_60 : decode cX4_reachItem 60 = .ok (.invokevirtual 283, 3) := by decide +kernel
theorem dX4_reachItem_63 : decode cX4_reachItem 63 = .ok (.ireturn, 1) := by decide +kernel
theorem dX4_useRow_0 : decode cX4_useRow 0 = .ok (.iload_n 2, 1) := by decide +kernel
theorem dX4_useRow_1 : decode cX4_useRow 1 = .ok (.tableswitch 84 14 16 #[27, 57, 73], 27) := by decide +kernel
theorem dX4_useRow_28 : decode cX4_useRow 28 = .ok (.aload_n 0, 1) := by decide +kernel
theorem dX4_useRow_29 : decode cX4_useRow 29 = .ok (.getfield 12, 3) := by decide +kernel
theorem dX4_useRow_32 : decode cX4_useRow 32 = .ok (.iload_n 3, 1) := by decide +kernel
theorem dX4_useRow_33 : decode cX4_useRow 33 = .ok (.invokevirtual 286, 3) := by decide +kernel
theorem dX4_useRow_36 : decode cX4_useRow 36 = .ok (.iconst (-1), 1) := by decide +kernel
theorem dX4_useRow_37 : decode cX4_useRow 37 = .ok (.if_icmp .ne 7, 3) := by decide +kernel
theorem dX4_useRow_40 : decode cX4_useRow 40 = .ok (.iconst 1, 1) := by decide +kernel
theorem dX4_useRow_41 : decode cX4_useRow 41 = .ok (.goto 16, 3) := by decide +kernel
theorem dX4_useRow_44 : decode cX4_useRow 44 = .ok (.aload_n 1, 1) := by decide +kernel
theorem dX4_useRow_45 : decode cX4_useRow 45 = .ok (.aload_n 0, 1) := by decide +kernel
theorem dX4_useRow_46 : decode cX4_useRow 46 = .ok (.getfield 12, 3) := by decide +kernel
theorem dX4_useRow_49 : decode cX4_useRow 49 = .ok (.iload_n 3, 1) := by decide +kernel
theorem dX4_useRow_50 : decode cX4_useRow 50 = .ok (.invokevirtual 286, 3) := by decide +kernel
theorem dX4_useRow_53 : decode cX4_useRow 53 = .ok (.i2l, 1) := by decide +kernel
theorem dX4_useRow_54 : decode cX4_useRow 54 = .ok (.invokevirtual 192, 3) := by decide +kernel
theorem dX4_useRow_57 : decode cX4_useRow 57 = .ok (.ireturn, 1) := by decide +kernel
theorem dX4_useRow_58 : decode cX4_useRow 58 = .ok (.aload_n 0, 1) := by decide +kernel
theorem dX4_useRow_59 : decode cX4_useRow 59 = .ok (.getfield 12, 3) := by decide +kernel
theorem dX4_useRow_62 : decode cX4_useRow 62 = .ok (.iload_n 3, 1) := by decide +kernel
theorem dX4_useRow_63 : decode cX4_useRow 63 = .ok (.iload 4, 2) := by decide +kernel
theorem dX4_useRow_65 : decode cX4_useRow 65 = .ok (.aload_n 1, 1) := by decide +kernel
theorem dX4_useRow_66 : decode cX4_useRow 66 = .ok (.iconst 0, 1) := by decide +kernel
theorem dX4_useRow_67 : decode cX4_useRow 67 = .ok (.invokevirtual 219, 3) := by decide +kernel
theorem dX4_useRow_70 : decode cX4_useRow 70 = .ok (.invokevirtual 290, 3) := by decide +kernel
theorem dX4_useRow_73 : decode cX4_useRow 73 = .ok (.ireturn, 1) := by decide +kernel
theorem dX4_useRow_74 : decode cX4_useRow 74 = .ok (.aload_n 0, 1) := by decide +kernel
theorem dX4_useRow_75 : decode cX4_useRow 75 = .ok (.getfield 12, 3) := by decide +kernel
theorem dX4_useRow_78 : decode cX4_useRow 78 = .ok (.iload_n 3, 1) := by decide +kernel
theorem dX4_useRow_79 : decode cX4_useRow 79 = .ok (.invokevirtual 293, 3) := by decide +kernel
theorem dX4_useRow_82 : decode cX4_useRow 82 = .ok (.pop, 1) := by decide +kernel
theorem dX4_useRow_83 : decode cX4_useRow 83 = .ok (.iconst 0, 1) := by decide +kernel
theorem dX4_useRow_84 : decode cX4_useRow 84 = .ok (.ireturn, 1) := by decide +kernel
theorem dX4_useRow_85 : decode cX4_useRow 85 = .ok (.aload_n 0, 1) := by decide +kernel
theorem dX4_useRow_86 : decode cX4_useRow 86 = .ok (.getfield 12, 3) := by decide +kernel
theorem dX4_useRow_89 : decode cX4_useRow 89 = .ok (.iload_n 3, 1) := by decide +kernel
theorem dX4_useRow_90 : decode cX4_useRow 90 = .ok (.iload 4, 2) := by decide +kernel
theorem dX4_useRow_92 : decode cX4_useRow 92 = .ok (.invokevirtual 296, 3) := by decide +kernel
theorem dX4_useRow_95 : decode cX4_useRow 95 = .ok (.pop, 1) := by decide +kernel
theorem dX4_useRow_96 : decode cX4_useRow 96 = .ok (.iconst 0, 1) := by decide +kernel
theorem dX4_useRow_97 : decode cX4_useRow 97 = .ok (.ireturn, 1) := by decide +kernel
theorem dX4_callRoutine_0 : decode cX4_callRoutine 0 = .ok (.iload_n 3, 1) := by decide +kernel
theorem dX4_callRoutine_1 : decode cX4_callRoutine 1 = .ok (.ifCond .ne 15, 3) := by decide +kernel
theorem dX4_callRoutine_4 : decode cX4_callRoutine 4 = .ok (.aload_n 1, 1) := by decide +kernel
theorem dX4_callRoutine_5 : decode cX4_callRoutine 5 = .ok (.getfield 186, 3) := by decide +kernel
theorem dX4_callRoutine_8 : decode cX4_callRoutine 8 = .ok (.bipush 8, 2) := by decide +kernel
theorem dX4_callRoutine_10 : decode cX4_callRoutine 10 = .ok (.if_icmp .lt 6, 3) := by decide +kernel
theorem dX4_callRoutine_13 : decode cX4_callRoutine 13 = .ok (.bipush 8, 2) := by decide +kernel
theorem dX4_callRoutine_15 : decode cX4_callRoutine 15 = .ok (.ireturn, 1) := by decide +kernel
theorem dX4_callRoutine_16 : decode cX4_callRoutine 16 = .ok (.aload_n 0, 1) := by decide +kernel
theorem dX4_callRoutine_17 : decode cX4_callRoutine 17 = .ok (.iload_n 2, 1) := by decide +kernel
theorem dX4_callRoutine_18 : decode cX4_callRoutine 18 = .ok (.invokevirtual 300, 3) := by decide +kernel
theorem dX4_callRoutine_21 : decode cX4_callRoutine 21 = .ok (.astore 4, 2) := by decide +kernel
theorem dX4_callRoutine_23 : decode cX4_callRoutine 23 = .ok (.aload 4, 2) := by decide +kernel
theorem dX4_callRoutine_25 : decode cX4_callRoutine 25 = .ok (.ifnull 11, 3) := by decide +kernel
theorem dX4_callRoutine_28 : decode cX4_callRoutine 28 = .ok (.aload 4, 2) := by decide +kernel
theorem dX4_callRoutine_30 : decode cX4_callRoutine 30 = .ok (.getfield 304, 3) := by decide +kernel
theorem dX4_callRoutine_33 : decode cX4_callRoutine 33 = .ok (.ifCond .ne 5, 3) := by decide +kernel
theorem dX4_callRoutine_36 : decode cX4_callRoutine 36 = .ok (.iconst 1, 1) := by decide +kernel
theorem dX4_callRoutine_37 : decode cX4_callRoutine 37 = .ok (.ireturn, 1) := by decide +kernel
theorem dX4_callRoutine_38 : decode cX4_callRoutine 38 = .ok (.iload_n 3, 1) := by decide +kernel
theorem dX4_callRoutine_39 : decode cX4_callRoutine 39 = .ok (.aload 4, 2) := by decide +kernel
theorem dX4_callRoutine_41 : decode cX4_callRoutine 41 = .ok (.getfield 307, 3) := by decide +kernel
theorem dX4_callRoutine_44 : decode cX4_callRoutine 44 = .ok (.if_icmp .le 6, 3) := by decide +kernel
theorem dX4_callRoutine_47 : decode cX4_callRoutine 47 = .ok (.bipush 7, 2) := by decide +kernel
theorem dX4_callRoutine_49 : decode cX4_callRoutine 49 = .ok (.ireturn, 1) := by decide +kernel
theorem dX4_callRoutine_50 : decode cX4_callRoutine 50 = .ok (.aload_n 0, 1) := by decide +kernel
theorem dX4_callRoutine_51 : decode cX4_callRoutine 51 = .ok (.getfield 78, 3) := by decide +kernel
theorem dX4_callRoutine_54 : decode cX4_callRoutine 54 = .ok (.bipush 12, 2) := by decide +kernel
theorem dX4_callRoutine_56 : decode cX4_callRoutine 56 = .ok (.if_icmp .lt 6, 3) := by decide +kernel
theorem dX4_callRoutine_59 : decode cX4_callRoutine 59 = .ok (.bipush 9, 2) := by decide +kernel
theorem dX4_callRoutine_61 : decode cX4_callRoutine 61 = .ok (.ireturn, 1) := by decide +kernel
theorem dX4_callRoutine_62 : decode cX4_callRoutine 62 = .ok (.aload_n 0, 1) := by decide +kernel
theorem dX4_callRoutine_63 : decode cX4_callRoutine 63 = .ok (.iload_n 2, 1) := by decide +kernel
theorem dX4_callRoutine_64 : decode cX4_callRoutine 64 = .ok (.aload 4, 2) := by decide +kernel
theorem dX4_callRoutine_66 : decode cX4_callRoutine 66 = .ok (.invokevirtual 67, 3) := by decide +kernel
theorem dX4_callRoutine_69 : decode cX4_callRoutine 69 = .ok (.astore 5, 2) := by decide +kernel
theorem dX4_callRoutine_71 : decode cX4_callRoutine 71 = .ok (.iconst 0, 1) := by decide +kernel
theorem dX4_callRoutine_72 : decode cX4_callRoutine 72 = .ok (.istore 6, 2) := by decide +kernel
theorem dX4_callRoutine_74 : decode cX4_callRoutine 74 = .ok (.iload 6, 2) := by decide +kernel
theorem dX4_callRoutine_76 : decode cX4_callRoutine 76 = .ok (.iload_n 3, 1) := by decide +kernel
theorem dX4_callRoutine_77 : decode cX4_callRoutine 77 = .ok (.if_icmp .ge 22, 3) := by decide +kernel
theorem dX4_callRoutine_80 : decode cX4_callRoutine 80 = .ok (.aload 5, 2) := by decide +kernel
theorem dX4_callRoutine_82 : decode cX4_callRoutine 82 = .ok (.iload 6, 2) := by decide +kernel
theorem dX4_callRoutine_84 : decode cX4_callRoutine 84 = .ok (.aload_n 1, 1) := by decide +kernel
theorem dX4_callRoutine_85 : decode cX4_callRoutine 85 = .ok (.iload 6, 2) := by decide +kernel
theorem dX4_callRoutine_87 : decode cX4_callRoutine 87 = .ok (.invokevirtual 219, 3) := by decide +kernel
theorem dX4_callRoutine_90 : decode cX4_callRoutine 90 = .ok (.invokevirtual 71, 3) := by decide +kernel
theorem dX4_callRoutine_93 : decode cX4_callRoutine 93 = .ok (.iinc 6 1, 3) := by decide +kernel
theorem dX4_callRoutine_96 : decode cX4_callRoutine 96 = .ok (.goto (-22), 3) := by decide +kernel
theorem dX4_callRoutine_99 : decode cX4_callRoutine 99 = .ok (.iconst 0, 1) := by decide +kernel
theorem dX4_callRoutine_100 : decode cX4_callRoutine 100 = .ok (.ireturn, 1) := by decide +kernel
theorem dX4_giveBack_0 : decode cX4_giveBack 0 = .ok (.aload_n 1, 1) := by decide +kernel
theorem dX4_giveBack_1 : decode cX4_giveBack 1 = .ok (.invokevirtual 178, 3) := by decide +kernel
theorem dX4_giveBack_4 : decode cX4_giveBack 4 = .ok (.ifCond .ne 9, 3) := by decide +kernel
theorem dX4_giveBack_7 : decode cX4_giveBack 7 = .ok (.aload_n 0, 1) := by decide +kernel
theorem dX4_giveBack_8 : decode cX4_giveBack 8 = .ok (.lload_n 2, 1) := by decide +kernel
theorem dX4_giveBack_9 : decode cX4_giveBack 9 = .ok (.invokevirtual 310, 3) := by decide +kernel
theorem dX4_giveBack_12 : decode cX4_giveBack 12 = .ok (.ireturn, 1) := by decide +kernel
theorem dX4_giveBack_13 : decode cX4_giveBack 13 = .ok (.aload_n 0, 1) := by decide +kernel
theorem dX4_giveBack_14 : decode cX4_giveBack 14 = .ok (.dup, 1) := by decide +kernel
theorem dX4_giveBack_15 : decode cX4_giveBack 15 = .ok (.getfield 103, 3) := by decide +kernel
theorem dX4_giveBack_18 : decode cX4_giveBack 18 = .ok (.iconst 1, 1) := by decide +kernel
theorem dX4_giveBack_19 : decode cX4_giveBack 19 = .ok (.iadd, 1) := by decide +kernel
theorem dX4_giveBack_20 : decode cX4_giveBack 20 = .ok (.putfield 103, 3) := by decide +kernel
theorem dX4_giveBack_23 : decode cX4_giveBack 23 = .ok (.aload_n 1, 1) := by decide +kernel
theorem dX4_giveBack_24 : decode cX4_giveBack 24 = .ok (.lload_n 2, 1) := by decide +kernel
theorem dX4_giveBack_25 : decode cX4_giveBack 25 = .ok (.invokevirtual 313, 3) := by decide +kernel
theorem dX4_giveBack_28 : decode cX4_giveBack 28 = .ok (.iconst 0, 1) := by decide +kernel
theorem dX4_giveBack_29 : decode cX4_giveBack 29 = .ok (.ireturn, 1) := by decide +kernel
theorem dX4_leave_0 : decode cX4_leave 0 = .ok (.aload_n 1, 1) := by decide +kernel
theorem dX4_leave_1 : decode cX4_leave 1 = .ok (.getfield 317, 3) := by decide +kernel
theorem dX4_leave_4 : decode cX4_leave 4 = .ok (.ifCond .ne 6, 3) := by decide +kernel
theorem dX4_leave_7 : decode cX4_leave 7 = .ok (.bipush 10, 2) := by decide +kernel
theorem dX4_leave_9 : decode cX4_leave 9 = .ok (.ireturn, 1) := by decide +kernel
theorem dX4_leave_10 : decode cX4_leave 10 = .ok (.aload_n 1, 1) := by decide +kernel
theorem dX4_leave_11 : decode cX4_leave 11 = .ok (.getfield 321, 3) := by decide +kernel
theorem dX4_leave_14 : decode cX4_leave 14 = .ok (.ifCond .ne 12, 3) := by decide +kernel
theorem dX4_leave_17 : decode cX4_leave 17 = .ok (.aload_n 0, 1) := by decide +kernel
theorem dX4_leave_18 : decode cX4_leave 18 = .ok (.aload_n 1, 1) := by decide +kernel
theorem dX4_leave_19 : decode cX4_leave 19 = .ok (.getfield 324, 3) := by decide +kernel
theorem dX4_leave_22 : decode cX4_leave 22 = .ok (.invokevirtual 310, 3) := by decide +kernel
theorem dX4_leave_25 : decode cX4_leave 25 = .ok (.ireturn, 1) := by decide +kernel
theorem dX4_leave_26 : decode cX4_leave 26 = .ok (.aload_n 0, 1) := by decide +kernel
theorem dX4_leave_27 : decode cX4_leave 27 = .ok (.getfield 51, 3) := by decide +kernel
theorem dX4_leave_30 : decode cX4_leave 30 = .ok (.aload_n 1, 1) := by decide +kernel
theorem dX4_leave_31 : decode cX4_leave 31 = .ok (.getfield 327, 3) := by decide +kernel
theorem dX4_leave_34 : decode cX4_leave 34 = .ok (.invokevirtual 330, 3) := by decide +kernel
theorem dX4_leave_37 : decode cX4_leave 37 = .ok (.aload_n 0, 1) := by decide +kernel
theorem dX4_leave_38 : decode cX4_leave 38 = .ok (.dup, 1) := by decide +kernel
theorem dX4_leave_39 : decode cX4_leave 39 = .ok (.getfield 78, 3) := by decide +kernel
theorem dX4_leave_42 : decode cX4_leave 42 = .ok (.iconst 1, 1) := by decide +kernel
theorem dX4_leave_43 : decode cX4_leave 43 = .ok (.isub, 1) := by decide +kernel
theorem dX4_leave_44 : decode cX4_leave 44 = .ok (.putfield 78, 3) := by decide +kernel
theorem dX4_leave_47 : decode cX4_leave 47 = .ok (.iconst (-1), 1) := by decide +kernel
theorem dX4_leave_48 : decode cX4_leave 48 = .ok (.ireturn, 1) := by decide +kernel
theorem dX4_endWith_0 : decode cX4_endWith 0 = .ok (.aload_n 0, 1) := by decide +kernel
theorem dX4_endWith_1 : decode cX4_endWith 1 = .ok (.dup, 1) := by decide +kernel
theorem dX4_endWith_2 : decode cX4_endWith 2 = .ok (.getfield 78, 3) := by decide +kernel
theorem dX4_endWith_5 : decode cX4_endWith 5 = .ok (.iconst 1, 1) := by decide +kernel
theorem dX4_endWith_6 : decode cX4_endWith 6 = .ok (.isub, 1) := by decide +kernel
theorem dX4_endWith_7 : decode cX4_endWith 7 = .ok (.putfield 78, 3) := by decide +kernel
theorem dX4_endWith_10 : decode cX4_endWith 10 = .ok (.aload_n 0, 1) := by decide +kernel
theorem dX4_endWith_11 : decode cX4_endWith 11 = .ok (.getfield 78, 3) := by decide +kernel
theorem dX4_endWith_14 : decode cX4_endWith 14 = .ok (.ifCond .le 19, 3) := by decide +kernel
theorem dX4_endWith_17 : decode cX4_endWith 17 = .ok (.aload_n 0, 1) := by decide +kernel
theorem dX4_endWith_18 : decode cX4_endWith 18 = .ok (.getfield 40, 3) := by decide +kernel
theorem dX4_endWith_21 : decode cX4_endWith 21 = .ok (.aload_n 0, 1) := by decide +kernel
theorem dX4_endWith_22 : decode cX4_endWith 22 = .ok (.getfield 78, 3) := by decide +kernel
theorem dX4_endWith_25 : decode cX4_endWith 25 = .ok (.iconst 1, 1) := by decide +kernel
theorem dX4_endWith_26 : decode cX4_endWith 26 = .ok (.isub, 1) := by decide +kernel
theorem dX4_endWith_27 : decode cX4_endWith 27 = .ok (.aaload, 1) := by decide +kernel
theorem dX4_endWith_28 : decode cX4_endWith 28 = .ok (.lload_n 1, 1) := by decide +kernel
theorem dX4_endWith_29 : decode cX4_endWith 29 = .ok (.invokevirtual 192, 3) := by decide +kernel
theorem dX4_endWith_32 : decode cX4_endWith 32 = .ok (.ireturn, 1) := by decide +kernel
theorem dX4_endWith_33 : decode cX4_endWith 33 = .ok (.aload_n 0, 1) := by decide +kernel
theorem dX4_endWith_34 : decode cX4_endWith 34 = .ok (.lload_n 1, 1) := by decide +kernel
theorem dX4_endWith_35 : decode cX4_endWith 35 = .ok (.putfield 109, 3) := by decide +kernel
theorem dX4_endWith_38 : decode cX4_endWith 38 = .ok (.aload_n 0, 1) := by decide +kernel
theorem dX4_endWith_39 : decode cX4_endWith 39 = .ok (.iconst 0, 1) := by decide +kernel
theorem dX4_endWith_40 : decode cX4_endWith 40 = .ok (.putfield 75, 3) := by decide +kernel
theorem dX4_endWith_43 : decode cX4_endWith 43 = .ok (.iconst 0, 1) := by decide +kernel
theorem dX4_endWith_44 : decode cX4_endWith 44 = .ok (.ireturn, 1) := by decide +kernel
theorem dX4_sendTo_0 : decode cX4_sendTo 0 = .ok (.aload_n 0, 1) := by decide +kernel
theorem dX4_sendTo_1 : decode cX4_sendTo 1 = .ok (.getfield 21, 3) := by decide +kernel
theorem dX4_sendTo_4 : decode cX4_sendTo 4 = .ok (.lload_n 2, 1) := by decide +kernel
theorem dX4_sendTo_5 : decode cX4_sendTo 5 = .ok (.invokevirtual 333, 3) := by decide +kernel
theorem dX4_sendTo_8 : decode cX4_sendTo 8 = .ok (.ifCond .ne 5, 3) := by decide +kernel
theorem dX4_sendTo_11 : decode cX4_sendTo 11 = .ok (.iconst 1, 1) := by decide +kernel
theorem dX4_sendTo_12 : decode cX4_sendTo 12 = .ok (.ireturn, 1) := by decide +kernel
theorem dX4_sendTo_13 : decode cX4_sendTo 13 = .ok (.aload_n 0, 1) := by decide +kernel
theorem dX4_sendTo_14 : decode cX4_sendTo 14 = .ok (.getfield 21, 3) := by decide +kernel
theorem dX4_sendTo_17 : decode cX4_sendTo 17 = .ok (.lload_n 2, 1) := by decide +kernel
theorem dX4_sendTo_18 : decode cX4_sendTo 18 = .ok (.l2i, 1) := by decide +kernel
theorem dX4_sendTo_19 : decode cX4_sendTo 19 = .ok (.iload 4, 2) := by decide +kernel
theorem dX4_sendTo_21 : decode cX4_sendTo 21 = .ok (.aload_n 1, 1) := by decide +kernel
theorem dX4_sendTo_22 : decode cX4_sendTo 22 = .ok (.iconst 1, 1) := by decide +kernel
theorem dX4_sendTo_23 : decode cX4_sendTo 23 = .ok (.invokevirtual 219, 3) := by decide +kernel
theorem dX4_sendTo_26 : decode cX4_sendTo 26 = .ok (.l2i, 1) := by decide +kernel
theorem dX4_sendTo_27 : decode cX4_sendTo 27 = .ok (.invokevirtual 337, 3) := by decide +kernel
theorem dX4_sendTo_30 : decode cX4_sendTo 30 = .ok (.istore 5, 2) := by decide +kernel
theorem dX4_sendTo_32 : decode cX4_sendTo 32 = .ok (.iload 5, 2) := by decide +kernel
theorem dX4_sendTo_34 : decode cX4_sendTo 34 = .ok (.bipush 11, 2) := by decide +kernel
theorem dX4_sendTo_36 : decode cX4_sendTo 36 = .ok (.if_icmp .ne 10, 3) := by decide +kernel
theorem dX4_sendTo_39 : decode cX4_sendTo 39 = .ok (.aload_n 0, 1) := by decide +kernel
theorem dX4_sendTo_40 : decode cX4_sendTo 40 = .ok (.ldc2_w 340, 3) := by decide +kernel
theorem dX4_sendTo_43 : decode cX4_sendTo 43 = .ok (.putfield 158, 3) := by decide +kernel
theorem dX4_sendTo_46 : decode cX4_sendTo 46 = .ok (.iload 5, 2) := by decide +kernel
theorem dX4_sendTo_48 : decode cX4_sendTo 48 = .ok (.ifCond .ne 18, 3) := by decide +kernel
theorem dX4_sendTo_51 : decode cX4_sendTo 51 = .ok (.aload_n 1, 1) := by decide +kernel
theorem dX4_sendTo_52 : decode cX4_sendTo 52 = .ok (.aload_n 0, 1) := by decide +kernel
theorem dX4_sendTo_53 : decode cX4_sendTo 53 = .ok (.getfield 21, 3) := by decide +kernel
theorem dX4_sendTo_56 : decode cX4_sendTo 56 = .ok (.getfield 342, 3) := by decide +kernel
theorem dX4_sendTo_59 : decode cX4_sendTo 59 = .ok (.i2l, 1) := by decide +kernel
theorem dX4_sendTo_60 : decode cX4_sendTo 60 = .ok (.invokevirtual 192, 3) := by decide +kernel
theorem dX4_sendTo_63 : decode cX4_sendTo 63 = .ok (.goto 5, 3) := by decide +kernel
theorem dX4_sendTo_66 : decode cX4_sendTo 66 = .ok (.iload 5, 2) := by decide +kernel
theorem dX4_sendTo_68 : decode cX4_sendTo 68 = .ok (.ireturn, 1) := by decide +kernel
theorem dX4_lookOnShelf_0 : decode cX4_lookOnShelf 0 = .ok (.aload_n 0, 1) := by decide +kernel
theorem dX4_lookOnShelf_1 : decode cX4_lookOnShelf 1 = .ok (.getfield 21, 3) := by decide +kernel
theorem dX4_lookOnShelf_4 : decode cX4_lookOnShelf 4 = .ok (.lload_n 2, 1) := by decide +kernel
theorem dX4_lookOnShelf_5 : decode cX4_lookOnShelf 5 = .ok (.lload 4, 2) := by decide +kernel
theorem dX4_lookOnShelf_7 : decode cX4_lookOnShelf 7 = .ok (.invokevirtual 345, 3) := by decide +kernel
theorem dX4_lookOnShelf_10 : decode cX4_lookOnShelf 10 = .ok (.istore 6, 2) := by decide +kernel
theorem dX4_lookOnShelf_12 : decode cX4_lookOnShelf 12 = .ok (.iload 6, 2) := by decide +kernel
theorem dX4_lookOnShelf_14 : decode cX4_lookOnShelf 14 = .ok (.ifCond .ne 23, 3) := by decide +kernel
theorem dX4_lookOnShelf_17 : decode cX4_lookOnShelf 17 = .ok (.aload_n 1, 1) := by decide +kernel
theorem dX4_lookOnShelf_18 : decode cX4_lookOnShelf 18 = .ok (.aload_n 0, 1) := by decide +kernel
theorem dX4_lookOnShelf_19 : decode cX4_lookOnShelf 19 = .ok (.getfield 21, 3) := by decide +kernel
theorem dX4_lookOnShelf_22 : decode cX4_lookOnShelf 22 = .ok (.lload_n 2, 1) := by decide +kernel
theorem dX4_lookOnShelf_23 : decode cX4_lookOnShelf 23 = .ok (.l2i, 1) := by decide +kernel
theorem dX4_lookOnShelf_24 : decode cX4_lookOnShelf 24 = .ok (.lload 4, 2) := by decide +kernel
theorem dX4_lookOnShelf_26 : decode cX4_lookOnShelf 26 = .ok (.l2i, 1) := by decide +kernel
theorem dX4_lookOnShelf_27 : decode cX4_lookOnShelf 27 = .ok (.invokevirtual 349, 3) := by decide +kernel
theorem dX4_lookOnShelf_30 : decode cX4_lookOnShelf 30 = .ok (.i2l, 1) := by decide +kernel
theorem dX4_lookOnShelf_31 : decode cX4_lookOnShelf 31 = .ok (.invokevirtual 192, 3) := by decide +kernel
theorem dX4_lookOnShelf_34 : decode cX4_lookOnShelf 34 = .ok (.goto 5, 3) := by decide +kernel
theorem dX4_lookOnShelf_37 : decode cX4_lookOnShelf 37 = .ok (.iload 6, 2) := by decide +kernel
theorem dX4_lookOnShelf_39 : decode cX4_lookOnShelf 39 = .ok (.ireturn, 1) := by decide +kernel
theorem dX4_tellOutside_0 : decode cX4_tellOutside 0 = .ok (.aload_n 0, 1) := by decide +kernel
theorem dX4_tellOutside_1 : decode cX4_tellOutside 1 = .ok (.getfield 88, 3) := by decide +kernel
theorem dX4_tellOutside_4 : decode cX4_tellOutside 4 = .ok (.bipush 60, 2) := by decide +kernel
theorem dX4_tellOutside_6 : decode cX4_tellOutside 6 = .ok (.if_icmp .ge 23, 3) := by decide +kernel
theorem dX4_tellOutside_9 : decode cX4_tellOutside 9 = .ok (.aload_n 0, 1) := by decide +kernel
theorem dX4_tellOutside_10 : decode cX4_tellOutside 10 = .ok (.getfield 44, 3) := by decide +kernel
theorem dX4_tellOutside_13 : decode cX4_tellOutside 13 = .ok (.aload_n 0, 1) := by decide +kernel
theorem dX4_tellOutside_14 : decode cX4_tellOutside 14 = .ok (.getfield 88, 3) := by decide +kernel
theorem dX4_tellOutside_17 : decode cX4_tellOutside 17 = .ok (.lload_n 1, 1) := by decide +kernel
theorem dX4_tellOutside_18 : decode cX4_tellOutside 18 = .ok (.lastore, 1) := by decide +kernel
theorem dX4_tellOutside_19 : decode cX4_tellOutside 19 = .ok (.aload_n 0, 1) := by decide +kernel
theorem dX4_tellOutside_20 : decode cX4_tellOutside 20 = .ok (.dup, 1) := by decide +kernel
theorem dX4_tellOutside_21 : decode cX4_tellOutside 21 = .ok (.getfield 88, 3) := by decide +kernel
theorem dX4_tellOutside_24 : decode cX4_tellOutside 24 = .ok (.iconst 1, 1) := by decide +kernel
theorem dX4_tellOutside_25 : decode cX4_tellOutside 25 = .ok (.iadd, 1) := by decide +kernel
theorem dX4_tellOutside_26 : decode cX4_tellOutside 26 = .ok (.putfield 88, 3) := by decide +kernel
theorem dX4_tellOutside_29 : decode cX4_tellOutside 29 = .ok (.iconst 0, 1) := by decide +kernel
theorem dX4_tellOutside_30 : decode cX4_tellOutside 30 = .ok (.ireturn, 1) := by decide +kernel
theorem dX4_keepAll_0 : decode cX4_keepAll 0 = .ok (.aload_n 0, 1) := by decide +kernel
theorem dX4_keepAll_1 : decode cX4_keepAll 1 = .ok (.getfield 28, 3) := by decide +kernel
theorem dX4_keepAll_4 : decode cX4_keepAll 4 = .ok (.invokevirtual 352, 3) := by decide +kernel
theorem dX4_keepAll_7 : decode cX4_keepAll 7 = .ok (.ifCond .ne 12, 3) := by decide +kernel
theorem dX4_keepAll_10 : decode cX4_keepAll 10 = .ok (.aload_n 0, 1) := by decide +kernel
theorem dX4_keepAll_11 : decode cX4_keepAll 11 = .ok (.getfield 91, 3) := by decide +kernel
theorem dX4_keepAll_14 : decode cX4_keepAll 14 = .ok (.bipush 6, 2) := by decide +kernel
theorem dX4_keepAll_16 : decode cX4_keepAll 16 = .ok (.if_icmp .lt 6, 3) := by decide +kernel
theorem dX4_keepAll_19 : decode cX4_keepAll 19 = .ok (.bipush 7, 2) := by decide +kernel
theorem dX4_keepAll_21 : decode cX4_keepAll 21 = .ok (.ireturn, 1) := by decide +kernel
theorem dX4_keepAll_22 : decode cX4_keepAll 22 = .ok (.aload_n 0, 1) := by decide +kernel
theorem dX4_keepAll_23 : decode cX4_keepAll 23 = .ok (.getfield 28, 3) := by decide +kernel
theorem dX4_keepAll_26 : decode cX4_keepAll 26 = .ok (.aload_n 0, 1) := by decide +kernel
theorem dX4_keepAll_27 : decode cX4_keepAll 27 = .ok (.getfield 12, 3) := by decide +kernel
theorem dX4_keepAll_30 : decode cX4_keepAll 30 = .ok (.aload_n 0, 1) := by decide +kernel
theorem dX4_keepAll_31 : decode cX4_keepAll 31 = .ok (.getfield 21, 3) := by decide +kernel
theorem dX4_keepAll_34 : decode cX4_keepAll 34 = .ok (.invokevirtual 355, 3) := by decide +kernel
theorem dX4_keepAll_37 : decode cX4_keepAll 37 = .ok (.aload_n 0, 1) := by decide +kernel
theorem dX4_keepAll_38 : decode cX4_keepAll 38 = .ok (.dup, 1) := by decide +kernel
theorem dX4_keepAll_39 : decode cX4_keepAll 39 = .ok (.getfield 91, 3) := by decide +kernel
theorem dX4_keepAll_42 : decode cX4_keepAll 42 = .ok (.iconst 1, 1) := by decide +kernel
theorem dX4_keepAll_43 : decode cX4_keepAll 43 = .ok (.iadd, 1) := by decide +kernel
theorem dX4_keepAll_44 : decode cX4_keepAll 44 = .ok (.putfield 91, 3) := by decide +kernel
theorem dX4_keepAll_47 : decode cX4_keepAll 47 = .ok (.aload_n 1, 1) := by decide +kernel
theorem dX4_keepAll_48 : decode cX4_keepAll 48 = .ok (.aload_n 0, 1) := by decide +kernel
theorem dX4_keepAll_49 : decode cX4_keepAll 49 = .ok (.getfield 28, 3) := by decide +kernel
theorem dX4_keepAll_52 : decode cX4_keepAll 52 = .ok (.getfield 359, 3) := by decide +kernel
theorem dX4_keepAll_55 : decode cX4_keepAll 55 = .ok (.i2l, 1) := by decide +kernel
theorem dX4_keepAll_56 : decode cX4_keepAll 56 = .ok (.invokevirtual 192, 3) := by decide +kernel
theorem dX4_keepAll_59 : decode cX4_keepAll 59 = .ok (.ireturn, 1) := by decide +kernel
theorem dX5_init_0 : decode cX5_init 0 = .ok (.aload_n 0, 1) := by decide +kernel
theorem dX5_init_1 : decode cX5_init 1 = .ok (.invokespecial 3, 3) := by decide +kernel
theorem dX5_init_4 : decode cX5_init 4 = .ok (.aload_n 0, 1) := by decide +kernel
theorem dX5_init_5 : decode cX5_init 5 = .ok (.bipush 12, 2) := by decide +kernel
theorem dX5_init_7 : decode cX5_init 7 = .ok (.newarray .int, 2) := by decide +kernel
theorem dX5_init_9 : decode cX5_init 9 = .ok (.putfield 9, 3) := by decide +kernel
theorem dX5_init_12 : decode cX5_init 12 = .ok (.aload_n 0, 1) := by decide +kernel
theorem dX5_init_13 : decode cX5_init 13 = .ok (.bipush 12, 2) := by decide +kernel
theorem dX5_init_15 : decode cX5_init 15 = .ok (.newarray .int, 2) := by decide +kernel
theorem dX5_init_17 : decode cX5_init 17 = .ok (.putfield 15, 3) := by decide +kernel
theorem dX5_init_20 : decode cX5_init 20 = .ok (.aload_n 0, 1) := by decide +kernel
theorem dX5_init_21 : decode cX5_init 21 = .ok (.bipush 12, 2) := by decide +kernel
theorem dX5_init_23 : decode cX5_init 23 = .ok (.newarray .int, 2) := by decide +kernel
theorem dX5_init_25 : decode cX5_init 25 = .ok (.putfield 18, 3) := by decide +kernel
theorem dX5_init_28 : decode cX5_init 28 = .ok (.aload_n 0, 1) := by decide +kernel
theorem dX5_init_29 : decode cX5_init 29 = .ok (.bipush 12, 2) := by decide +kernel
theorem dX5_init_31 : decode cX5_init 31 = .ok (.newarray .int, 2) := by decide +kernel
theorem dX5_init_33 : decode cX5_init 33 = .ok (.putfield 21, 3) := by decide +kernel
theorem dX5_init_36 : decode cX5_init 36 = .ok (.aload_n 0, 1) := by decide +kernel
theorem dX5_init_37 : decode cX5_init 37 = .ok (.sipush 144, 3) := by decide +kernel
theorem dX5_init_40 : decode cX5_init 40 = .ok (.newarray .long, 2) := by decide +kernel
theorem dX5_init_42 : decode cX5_init 42 = .ok (.putfield 24, 3) := by decide +kernel
theorem dX5_init_45 : decode cX5_init 45 = .ok (.aload_n 0, 1) := by decide +kernel
theorem dX5_init_46 : decode cX5_init 46 = .ok (.getfield 9, 3) := by decide +kernel
theorem dX5_init_49 : decode cX5_init 49 = .ok (.iconst (-1), 1) := by decide +kernel
theorem dX5_init_50 : decode cX5_init 50 = .ok (.invokestatic 28, 3) := by decide +kernel
theorem dX5_init_53 : decode cX5_init 53 = .ok (.return_, 1) := by decide +kernel
theorem dX5_renew_0 : decode cX5_renew 0 = .ok (.lload_n 3, 1) := by decide +kernel
theorem dX5_renew_1 : decode cX5_renew 1 = .ok (.lconst 0, 1) := by decide +kernel
theorem dX5_renew_2 : decode cX5_renew 2 = .ok (.lcmp, 1) := by decide +kernel
theorem dX5_renew_3 : decode cX5_renew 3 = .ok (.ifCond .ge 5, 3) := by decide +kernel
theorem dX5_renew_6 : decode cX5_renew 6 = .ok (.iconst 5, 1) := by decide +kernel
theorem dX5_renew_7 : decode cX5_renew 7 = .ok (.ireturn, 1) := by decide +kernel
theorem dX5_renew_8 : decode cX5_renew 8 = .ok (.lload_n 3, 1) := by decide +kernel
theorem dX5_renew_9 : decode cX5_renew 9 = .ok (.ldc2_w 34, 3) := by decide +kernel
theorem dX5_renew_12 : decode cX5_renew 12 = .ok (.lcmp, 1) := by decide +kernel
theorem dX5_renew_13 : decode cX5_renew 13 = .ok (.ifCond .le 6, 3) := by decide +kernel
theorem dX5_renew_16 : decode cX5_renew 16 = .ok (.bipush 7, 2) := by decide +kernel
theorem dX5_renew_18 : decode cX5_renew 18 = .ok (.ireturn, 1) := by decide +kernel
theorem dX5_renew_19 : decode cX5_renew 19 = .ok (.aload_n 0, 1) := by decide +kernel
theorem dX5_renew_20 : decode cX5_renew 20 = .ok (.iload_n 1, 1) := by decide +kernel
theorem dX5_renew_21 : decode cX5_renew 21 = .ok (.invokevirtual 36, 3) := by decide +kernel
theorem dX5_renew_24 : decode cX5_renew 24 = .ok (.pop, 1) := by decide +kernel
theorem dX5_renew_25 : decode cX5_renew 25 = .ok (.aload_n 0, 1) := by decide +kernel
theorem dX5_renew_26 : decode cX5_renew 26 = .ok (.invokevirtual 40, 3) := by decide +kernel
theorem dX5_renew_29 : decode cX5_renew 29 = .ok (.istore 5, 2) := by decide +kernel
theorem dX5_renew_31 : decode cX5_renew 31 = .ok (.aload_n 0, 1) := by decide +kernel
theorem dX5_renew_32 : decode cX5_renew 32 = .ok (.iload_n 1, 1) := by decide +kernel
theorem dX5_renew_33 : decode cX5_renew 33 = .ok (.iload 5, 2) := by decide +kernel
theorem dX5_renew_35 : decode cX5_renew 35 = .ok (.invokevirtual 44, 3) := by decide +kernel
theorem dX5_renew_38 : decode cX5_renew 38 = .ok (.aload_n 0, 1) := by decide +kernel
theorem dX5_renew_39 : decode cX5_renew 39 = .ok (.getfield 18, 3) := by decide +kernel
theorem dX5_renew_42 : decode cX5_renew 42 = .ok (.iload 5, 2) := by decide +kernel
theorem dX5_renew_44 : decode cX5_renew 44 = .ok (.iload_n 2, 1) := by decide +kernel
theorem dX5_renew_45 : decode cX5_renew 45 = .ok (.iastore, 1) := by decide +kernel
theorem dX5_renew_46 : decode cX5_renew 46 = .ok (.aload_n 0, 1) := by decide +kernel
theorem dX5_renew_47 : decode cX5_renew 47 = .ok (.getfield 21, 3) := by decide +kernel
theorem dX5_renew_50 : decode cX5_renew 50 = .ok (.iload 5, 2) := by decide +kernel
theorem dX5_renew_52 : decode cX5_renew 52 = .ok (.lload_n 3, 1) := by decide +kernel
theorem dX5_renew_53 : decode cX5_renew 53 = .ok (.l2i, 1) := by decide +kernel
theorem dX5_renew_54 : decode cX5_renew 54 = .ok (.iastore, 1) := by decide +kernel
theorem dX5_renew_55 : decode cX5_renew 55 = .ok (.iconst 0, 1) := by decide +kernel
theorem dX5_renew_56 : decode cX5_renew 56 = .ok (.istore 6, 2) := by decide +kernel
theorem dX5_renew_58 : decode cX5_renew 58 = .ok (.iload 6, 2) := by decide +kernel
theorem dX5_renew_60 : decode cX5_renew 60 = .ok (.bipush 12, 2) := by decide +kernel
theorem dX5_renew_62 : decode cX5_renew 62 = .ok (.if_icmp .ge 23, 3) := by decide +kernel
theorem dX5_renew_65 : decode cX5_renew 65 = .ok (.aload_n 0, 1) := by decide +kernel
theorem dX5_renew_66 : decode cX5_renew 66 = .ok (.getfield 24, 3) := by decide +kernel
theorem dX5_renew_69 : decode cX5_renew 69 = .ok (.iload 5, 2) := by decide +kernel
theorem dX5_renew_71 : decode cX5_renew 71 = .ok (.bipush 12, 2) := by decide +kernel
theorem dX5_renew_73 : decode cX5_renew 73 = .ok (.imul, 1) := by decide +kernel
theorem dX5_renew_74 : decode cX5_renew 74 = .ok (.iload 6, 2) := by decide +kernel
theorem dX5_renew_76 : decode cX5_renew 76 = .ok (.iadd, 1) := by decide +kernel
theorem dX5_renew_77 : decode cX5_renew 77 = .ok (.lconst 0, 1) := by decide +kernel
theorem dX5_renew_78 : decode cX5_renew 78 = .ok (.lastore, 1) := by decide +kernel
theorem dX5_renew_79 : decode cX5_renew 79 = .ok (.iinc 6 1, 3) := by decide +kernel
theorem dX5_renew_82 : decode cX5_renew 82 = .ok (.goto (-24), 3) := by decide +kernel
theorem dX5_renew_85 : decode cX5_renew 85 = .ok (.iconst 0, 1) := by decide +kernel
theorem dX5_renew_86 : decode cX5_renew 86 = .ok (.ireturn, 1) := by decide +kernel
theorem dX5_freeBody_0 : decode cX5_freeBody 0 = .ok (.iconst 0, 1) := by decide +kernel
theorem dX5_freeBody_1 : decode cX5_freeBody 1 = .ok (.istore_n 1, 1) := by decide +kernel
theorem dX5_freeBody_2 : decode cX5_freeBody 2 = .ok (.iload_n 1, 1) := by decide +kernel
theorem dX5_freeBody_3 : decode cX5_freeBody 3 = .ok (.bipush 11, 2) := by decide +kernel
theorem dX5_freeBody_5 : decode cX5_freeBody 5 = .ok (.if_icmp .ge 20, 3) := by decide +kernel
theorem dX5_freeBody_8 : decode cX5_freeBody 8 = .ok (.aload_n 0, 1) := by decide +kernel
theorem dX5_freeBody_9 : decode cX5_freeBody 9 = .ok (.getfield 15, 3) := by decide +kernel
theorem dX5_freeBody_12 : decode cX5_freeBody 12 = .ok (.iload_n 1, 1) := by decide +kernel
theorem dX5_freeBody_13 : decode cX5_freeBody 13 = .ok (.iaload, 1) := by decide +kernel
theorem dX5_freeBody_14 : decode cX5_freeBody 14 = .ok (.ifCond .ne 5, 3) := by decide +kernel
theorem dX5_freeBody_17 : decode cX5_freeBody 17 = .ok (.iload_n 1, 1) := by decide +kernel
theorem dX5_freeBody_18 : decode cX5_freeBody 18 = .ok (.ireturn, 1) := by decide +kernel
theorem dX5_freeBody_19 : decode cX5_freeBody 19 = .ok (.iinc 1 1, 3) := by decide +kernel
theorem dX5_freeBody_22 : decode cX5_freeBody 22 = .ok (.goto (-20), 3) := by decide +kernel
theorem dX5_freeBody_25 : decode cX5_freeBody 25 = .ok (.bipush 11, 2) := by decide +kernel
theorem dX5_freeBody_27 : decode cX5_freeBody 27 = .ok (.ireturn, 1) := by decide +kernel
theorem dX5_attach_0 : decode cX5_attach 0 = .ok (.aload_n 0, 1) := by decide +kernel
theorem dX5_attach_1 : decode cX5_attach 1 = .ok (.getfield 9, 3) := by decide +kernel
theorem dX5_attach_4 : decode cX5_attach 4 = .ok (.iload_n 1, 1) := by decide +kernel
theorem dX5_attach_5 : decode cX5_attach 5 = .ok (.iload_n 2, 1) := by decide +kernel
theorem dX5_attach_6 : decode cX5_attach 6 = .ok (.iastore, 1) := by decide +kernel
theorem dX5_attach_7 : decode cX5_attach 7 = .ok (.aload_n 0, 1) := by decide +kernel
theorem dX5_attach_8 : decode cX5_attach 8 = .ok (.getfield 15, 3) := by decide +kernel
theorem dX5_attach_11 : decode cX5_attach 11 = .ok (.iload_n 2, 1) := by decide +kernel
theorem dX5_attach_12 : decode cX5_attach 12 = .ok (.dup2, 1) := by decide +kernel
theorem dX5_attach_13 : decode cX5_attach 13 = .ok (.iaload, 1) := by decide +kernel
theorem dX5_attach_14 : decode cX5_attach 14 = .ok (.iconst 1, 1) := by decide +kernel
theorem dX5_attach_15 : decode cX5_attach 15 = .ok (.iadd, 1) := by decide +kernel
theorem dX5_attach_16 : decode cX5_attach 16 = .ok (.iastore, 1) := by decide +kernel
theorem dX5_attach_17 : decode cX5_attach 17 = .ok (.return_, 1) := by decide +kernel
theorem dX5_drop_0 : decode cX5_drop 0 = .ok (.aload_n 0, 1) := by decide +kernel
theorem dX5_drop_1 : decode cX5_drop 1 = .ok (.getfield 9, 3) := by decide +kernel
theorem dX5_drop_4 : decode cX5_drop 4 = .ok (.iload_n 1, 1) := by decide +kernel
theorem dX5_drop_5 : decode cX5_drop 5 = .ok (.iaload, 1) := by decide +kernel
theorem dX5_drop_6 : decode cX5_drop 6 = .ok (.iconst (-1), 1) := by decide +kernel
theorem dX5_drop_7 : decode cX5_drop 7 = .ok (.if_icmp .ne 5, 3) := by decide +kernel
theorem dX5_drop_10 : decode cX5_drop 10 = .ok (.iconst 0, 1) := by decide +kernel
theorem dX5_drop_11 : decode cX5_drop 11 = .ok (.ireturn, 1) := by decide +kernel
theorem dX5_drop_12 : decode cX5_drop 12 = .ok (.aload_n 0, 1) := by decide +kernel
theorem dX5_drop_13 : decode cX5_drop 13 = .ok (.getfield 15, 3) := by decide +kernel
theorem dX5_drop_16 : decode cX5_drop 16 = .ok (.aload_n 0, 1) := by decide +kernel
theorem dX5_drop_17 : decode cX5_drop 17 = .ok (.getfield 9, 3) := by decide +kernel
theorem dX5_drop_20 : decode cX5_drop 20 = .ok (.iload_n 1, 1) := by decide +kernel
theorem dX5_drop_21 : decode cX5_drop 21 = .ok (.iaload, 1) := by decide +kernel
theorem dX5_drop_22 : decode cX5_drop 22 = .ok (.dup2, 1) := by decide +kernel
theorem dX5_drop_23 : decode cX5_drop 23 = .ok (.iaload, 1) := by decide +kernel
theorem dX5_drop_24 : decode cX5_drop 24 = .ok (.iconst 1, 1) := by decide +kernel
theorem dX5_drop_25 : decode cX5_drop 25 = .ok (.isub, 1) := by decide +kernel
theorem dX5_drop_26 : decode cX5_drop 26 = .ok (.iastore, 1) := by decide +kernel
theorem dX5_drop_27 : decode cX5_drop 27 = .ok (.aload_n 0, 1) := by decide +kernel
theorem dX5_drop_28 : decode cX5_drop 28 = .ok (.getfield 9, 3) := by decide +kernel
theorem dX5_drop_31 : decode cX5_drop 31 = .ok (.iload_n 1, 1) := by decide +kernel
theorem dX5_drop_32 : decode cX5_drop 32 = .ok (.iconst (-1), 1) := by decide +kernel
theorem dX5_drop_33 : decode cX5_drop 33 = .ok (.iastore, 1) := by decide +kernel
theorem dX5_drop_34 : decode cX5_drop 34 = .ok (.iconst 1, 1) := by decide +kernel
theorem dX5_drop_35 : decode cX5_drop 35 = .ok (.ireturn, 1) := by decide +kernel
theorem dX5_join_0 : decode cX5_join 0 = .ok (.aload_n 0, 1) := by decide +kernel
theorem dX5_join_1 : decode cX5_join 1 = .ok (.getfield 9, 3) := by decide +kernel
theorem dX5_join_4 : decode cX5_join 4 = .ok (.iload_n 1, 1) := by decide +kernel
theorem dX5_join_5 : decode cX5_join 5 = .ok (.iaload, 1) := by decide +kernel
theorem dX5_join_6 : decode cX5_join 6 = .ok (.aload_n 0, 1) := by decide +kernel
theorem dX5_join_7 : decode cX5_join 7 = .ok (.getfield 9, 3) := by decide +kernel
theorem dX5_join_10 : decode cX5_join 10 = .ok (.iload_n 2, 1) := by decide +kernel
theorem dX5_join_11 : decode cX5_join 11 = .ok (.iaload, 1) := by decide +kernel
theorem dX5_join_12 : decode cX5_join 12 = .ok (.if_icmp .ne 5, 3) := by decide +kernel
theorem dX5_join_15 : decode cX5_join 15 = .ok (.iconst 0, 1) := by decide +kernel
theorem dX5_join_16 : decode cX5_join 16 = .ok (.ireturn, 1) := by decide +kernel
theorem dX5_join_17 : decode cX5_join 17 = .ok (.aload_n 0, 1) := by decide +kernel
theorem dX5_join_18 : decode cX5_join 18 = .ok (.iload_n 1, 1) := by decide +kernel
theorem dX5_join_19 : decode cX5_join 19 = .ok (.invokevirtual 36, 3) := by decide +kernel
theorem dX5_join_22 : decode cX5_join 22 = .ok (.pop, 1) := by decide +kernel
theorem dX5_join_23 : decode cX5_join 23 = .ok (.aload_n 0, 1) := by decide +kernel
theorem dX5_join_24 : decode cX5_join 24 = .ok (.getfield 9, 3) := by decide +kernel
theorem dX5_join_27 : decode cX5_join 27 = .ok (.iload_n 2, 1) := by decide +kernel
theorem dX5_join_28 : decode cX5_join 28 = .ok (.iaload, 1) := by decide +kernel
theorem dX5_join_29 : decode cX5_join 29 = .ok (.iconst (-1), 1) := by decide +kernel
theorem dX5_join_30 : decode cX5_join 30 = .ok (.if_icmp .eq 14, 3) := by decide +kernel
theorem dX5_join_33 : decode cX5_join 33 = .ok (.aload_n 0, 1) := by decide +kernel
theorem dX5_join_34 : decode cX5_join 34 = .ok (.iload_n 1, 1) := by decide +kernel
theorem dX5_join_35 : decode cX5_join 35 = .ok (.aload_n 0, 1) := by decide +kernel
theorem dX5_join_36 : decode cX5_join 36 = .ok (.getfield 9, 3) := by decide +kernel
theorem dX5_join_39 : decode cX5_join 39 = .ok (.iload_n 2, 1) := by decide +kernel
theorem dX5_join_40 : decode cX5_join 40 = .ok (.iaload, 1) := by decide +kernel
theorem dX5_join_41 : decode cX5_join 41 = .ok (.invokevirtual 44, 3) := by decide +kernel
theorem dX5_join_44 : decode cX5_join 44 = .ok (.iconst 1, 1) := by decide +kernel
theorem dX5_join_45 : decode cX5_join 45 = .ok (.ireturn, 1) := by decide +kernel
theorem dX5_sizeOf_0 : decode cX5_sizeOf 0 = .ok (.aload_n 0, 1) := by decide +kernel
theorem dX5_sizeOf_1 : decode cX5_sizeOf 1 = .ok (.getfield 9, 3) := by decide +kernel
theorem dX5_sizeOf_4 : decode cX5_sizeOf 4 = .ok (.iload_n 1, 1) := by decide +kernel
theorem dX5_sizeOf_5 : decode cX5_sizeOf 5 = .ok (.iaload, 1) := by decide +kernel
theorem dX5_sizeOf_6 : decode cX5_sizeOf 6 = .ok (.iconst (-1), 1) := by decide +kernel
theorem dX5_sizeOf_7 : decode cX5_sizeOf 7 = .ok (.if_icmp .ne 7, 3) := by decide +kernel
theorem dX5_sizeOf_10 : decode cX5_sizeOf 10 = .ok (.iconst (-1), 1) := by decide +kernel
theorem dX5_sizeOf_11 : decode cX5_sizeOf 11 = .ok (.goto 14, 3) := by decide +kernel
theorem dX5_sizeOf_14 : decode cX5_sizeOf 14 = .ok (.aload_n 0, 1) := by decide +kernel
theorem dX5_sizeOf_15 : decode cX5_sizeOf 15 = .ok (.getfield 21, 3) := by decide +kernel
theorem dX5_sizeOf_18 : decode cX5_sizeOf 18 = .ok (.aload_n 0, 1) := by decide +kernel
theorem dX5_sizeOf_19 : decode cX5_sizeOf 19 = .ok (.getfield 9, 3) := by decide +kernel
theorem dX5_sizeOf_22 : decode cX5_sizeOf 22 = .ok (.iload_n 1, 1) := by decide +kernel
theorem dX5_sizeOf_23 : decode cX5_sizeOf 23 = .ok (.iaload, 1) := by decide +kernel
theorem dX5_sizeOf_24 : decode cX5_sizeOf 24 = .ok (.iaload, 1) := by decide +kernel
theorem dX5_sizeOf_25 : decode cX5_sizeOf 25 = .ok (.ireturn, 1) := by decide +kernel
theorem dX5_laneOf_0 : decode cX5_laneOf 0 = .ok (.aload_n 0, 1) := by decide +kernel
theorem dX5_laneOf_1 : decode cX5_laneOf 1 = .ok (.getfield 9, 3) := by decide +kernel
theorem dX5_laneOf_4 : decode cX5_laneOf 4 = .ok (.iload_n 1, 1) := by decide +kernel
theorem dX5_laneOf_5 : decode cX5_laneOf 5 = .ok (.iaload, 1) := by decide +kernel
theorem dX5_laneOf_6 : decode cX5_laneOf 6 = .ok (.iconst (-1), 1) := by decide +kernel
theorem dX5_laneOf_7 : decode cX5_laneOf 7 = .ok (.if_icmp .ne 7, 3) := by decide +kernel
theorem dX5_laneOf_10 : decode cX5_laneOf 10 = .ok (.iconst (-1), 1) := by decide +kernel
theorem dX5_laneOf_11 : decode cX5_laneOf 11 = .ok (.goto 14, 3) := by decide +kernel
theorem dX5_laneOf_14 : decode cX5_laneOf 14 = .ok (.aload_n 0, 1) := by decide +kernel
theorem dX5_laneOf_15 : decode cX5_laneOf 15 = .ok (.getfield 18, 3) := by decide +kernel
theorem dX5_laneOf_18 : decode cX5_laneOf 18 = .ok (.aload_n 0, 1) := by decide +kernel
theorem dX5_laneOf_19 : decode cX5_laneOf 19 = .ok (.getfield 9, 3) := by decide +kernel
theorem dX5_laneOf_22 : decode cX5_laneOf 22 = .ok (.iload_n 1, 1) := by decide +kernel
theorem dX5_laneOf_23 : decode cX5_laneOf 23 = .ok (.iaload, 1) := by decide +kernel
theorem dX5_laneOf_24 : decode cX5_laneOf 24 = .ok (.iaload, 1) := by decide +kernel
theorem dX5_laneOf_25 : decode cX5_laneOf 25 = .ok (.ireturn, 1) := by decide +kernel
theorem dX5_leastSame_0 : decode cX5_leastSame 0 = .ok (.iconst 0, 1) := by decide +kernel
theorem dX5_leastSame_1 : decode cX5_leastSame 1 = .ok (.istore_n 2, 1) := by decide +kernel
theorem dX5_leastSame_2 : decode cX5_leastSame 2 = .ok (.iload_n 2, 1) := by decide +kernel
theorem dX5_leastSame_3 : decode cX5_leastSame 3 = .ok (.iload_n 1, 1) := by decide +kernel
theorem dX5_leastSame_4 : decode cX5_leastSame 4 = .ok (.if_icmp .ge 26, 3) := by decide +kernel
theorem dX5_leastSame_7 : decode cX5_leastSame 7 = .ok (.aload_n 0, 1) := by decide +kernel
theorem dX5_leastSame_8 : decode cX5_leastSame 8 = .ok (.getfield 9, 3) := by decide +kernel
theorem dX5_leastSame_11 : decode cX5_leastSame 11 = .ok (.iload_n 2, 1) := by decide +kernel
theorem dX5_leastSame_12 : decode cX5_leastSame 12 = .ok (.iaload, 1) := by decide +kernel
theorem dX5_leastSame_13 : decode cX5_leastSame 13 = .ok (.aload_n 0, 1) := by decide +kernel
theorem dX5_leastSame_14 : decode cX5_leastSame 14 = .ok (.getfield 9, 3) := by decide +kernel
theorem dX5_leastSame_17 : decode cX5_leastSame 17 = .ok (.iload_n 1, 1) := by decide +kernel
theorem dX5_leastSame_18 : decode cX5_leastSame 18 = .ok (.iaload, 1) := by decide +kernel
theorem dX5_leastSame_19 : decode cX5_leastSame 19 = .ok (.if_icmp .ne 5, 3) := by decide +kernel
theorem dX5_leastSame_22 : decode cX5_leastSame 22 = .ok (.iload_n 2, 1) := by decide +kernel
theorem dX5_leastSame_23 : decode cX5_leastSame 23 = .ok (.ireturn, 1) := by decide +kernel
theorem dX5_leastSame_24 : decode cX5_leastSame 24 = .ok (.iinc 2 1, 3) := by decide +kernel
theorem dX5_leastSame_27 : decode cX5_leastSame 27 = .ok (.goto (-25), 3) := by decide +kernel
theorem dX5_leastSame_30 : decode cX5_leastSame 30 = .ok (.iload_n 1, 1) := by decide +kernel
theorem dX5_leastSame_31 : decode cX5_leastSame 31 = .ok (.ireturn, 1) := by decide +kernel
theorem dX5_reach_0 : decode cX5_reach 0 = .ok (.aload_n 0, 1) := by decide +kernel
theorem dX5_reach_1 : decode cX5_reach 1 = .ok (.getfield 9, 3) := by decide +kernel
theorem dX5_reach_4 : decode cX5_reach 4 = .ok (.iload_n 1, 1) := by decide +kernel
theorem dX5_reach_5 : decode cX5_reach 5 = .ok (.iaload, 1) := by decide +kernel
theorem dX5_reach_6 : decode cX5_reach 6 = .ok (.iconst (-1), 1) := by decide +kernel
theorem dX5_reach_7 : decode cX5_reach 7 = .ok (.if_icmp .ne 5, 3) := by decide +kernel
theorem dX5_reach_10 : decode cX5_reach 10 = .ok (.iconst 1, 1) := by decide +kernel
theorem dX5_reach_11 : decode cX5_reach 11 = .ok (.ireturn, 1) := by decide +kernel
theorem dX5_reach_12 : decode cX5_reach 12 = .ok (.lload_n 2, 1) := by decide +kernel
theorem dX5_reach_13 : decode cX5_reach 13 = .ok (.lconst 0, 1) := by decide +kernel
theorem dX5_reach_14 : decode cX5_reach 14 = .ok (.lcmp, 1) := by decide +kernel
theorem dX5_reach_15 : decode cX5_reach 15 = .ok (.ifCond .lt 20, 3) := by decide +kernel
theorem dX5_reach_18 : decode cX5_reach 18 = .ok (.lload_n 2, 1) := by decide +kernel
theorem dX5_reach_19 : decode cX5_reach 19 = .ok (.aload_n 0, 1) := by decide +kernel
theorem dX5_reach_20 : decode cX5_reach 20 = .ok (.getfield 21, 3) := by decide +kernel
theorem dX5_reach_23 : decode cX5_reach 23 = .ok (.aload_n 0, 1) := by decide +kernel
theorem dX5_reach_24 : decode cX5_reach 24 = .ok (.getfield 9, 3) := by decide +kernel
theorem dX5_reach_27 : decode cX5_reach 27 = .ok (.iload_n 1, 1) := by decide +kernel
theorem dX5_reach_28 : decode cX5_reach 28 = .ok (.iaload, 1) := by decide +kernel
theorem dX5_reach_29 : decode cX5_reach 29 = .ok (.iaload, 1) := by decide +kernel
theorem dX5_reach_30 : decode cX5_reach 30 = .ok (.i2l, 1) := by decide +kernel
theorem dX5_reach_31 : decode cX5_reach 31 = .ok (.lcmp, 1) := by decide +kernel
theorem dX5_reach_32 : decode cX5_reach 32 = .ok (.ifCond .lt 7, 3) := by decide +kernel
theorem dX5_reach_35 : decode cX5_reach 35 = .ok (.iconst 2, 1) := by decide +kernel
theorem dX5_reach_36 : decode cX5_reach 36 = .ok (.goto 4, 3) := by decide +kernel
theorem dX5_reach_39 : decode cX5_reach 39 = .ok (.iconst 0, 1) := by decide +kernel
theorem dX5_reach_40 : decode cX5_reach 40 = .ok (.ireturn, 1) := by decide +kernel
theorem dX5_reachHeld_0 : decode cX5_reachHeld 0 = .ok (.aload_n 0, 1) := by decide +kernel
theorem dX5_reachHeld_1 : decode cX5_reachHeld 1 = .ok (.getfield 9, 3) := by decide +kernel
theorem dX5_reachHeld_4 : decode cX5_reachHeld 4 = .ok (.iload_n 1, 1) := by decide +kernel
theorem dX5_reachHeld_5 : decode cX5_reachHeld 5 = .ok (.iaload, 1) := by decide +kernel
theorem dX5_reachHeld_6 : decode cX5_reachHeld 6 = .ok (.iconst (-1), 1) := by decide +kernel
theorem dX5_reachHeld_7 : decode cX5_reachHeld 7 = .ok (.if_icmp .eq 22, 3) := by decide +kernel
theorem dX5_reachHeld_10 : decode cX5_reachHeld 10 = .ok (.aload_n 0, 1) := by decide +kernel
theorem dX5_reachHeld_11 : decode cX5_reachHeld 11 = .ok (.getfield 18, 3) := by decide +kernel
theorem dX5_reachHeld_14 : decode cX5_reachHeld 14 = .ok (.aload_n 0, 1) := by decide +kernel
theorem dX5_reachHeld_15 : decode cX5_reachHeld 15 = .ok (.getfield 9, 3) := by decide +kernel
theorem dX5_reachHeld_18 : decode cX5_reachHeld 18 = .ok (.iload_n 1, 1) := by decide +kernel
theorem dX5_reachHeld_19 : decode cX5_reachHeld 19 = .ok (.iaload, 1) := by decide +kernel
theorem dX5_reachHeld_20 : decode cX5_reachHeld 20 = .ok (.iaload, 1) := by decide +kernel
theorem dX5_reachHeld_21 : decode cX5_reachHeld 21 = .ok (.iload_n 2, 1) := by decide +kernel
theorem dX5_reachHeld_22 : decode cX5_reachHeld 22 = .ok (.if_icmp .eq 7, 3) := by decide +kernel
theorem dX5_reachHeld_25 : decode cX5_reachHeld 25 = .ok (.iconst 3, 1) := by decide +kernel
theorem dX5_reachHeld_26 : decode cX5_reachHeld 26 = .ok (.goto 9, 3) := by decide +kernel
theorem dX5_reachHeld_29 : decode cX5_reachHeld 29 = .ok (.aload_n 0, 1) := by decide +kernel
theorem dX5_reachHeld_30 : decode cX5_reachHeld 30 = .ok (.iload_n 1, 1) := by decide +kernel
theorem dX5_reachHeld_31 : decode cX5_reachHeld 31 = .ok (.lload_n 3, 1) := by decide +kernel
theorem dX5_reachHeld_32 : decode cX5_reachHeld 32 = .ok (.invokevirtual 48, 3) := by decide +kernel
theorem dX5_reachHeld_35 : decode cX5_reachHeld 35 = .ok (.ireturn, 1) := by decide +kernel
theorem dX5_reachAsked_0 : decode cX5_reachAsked 0 = .ok (.aload_n 0, 1) := by decide +kernel
theorem dX5_reachAsked_1 : decode cX5_reachAsked 1 = .ok (.iload_n 1, 1) := by decide +kernel
theorem dX5_reachAsked_2 : decode cX5_reachAsked 2 = .ok (.lload_n 3, 1) := by decide +kernel
theorem dX5_reachAsked_3 : decode cX5_reachAsked 3 = .ok (.invokevirtual 48, 3) := by decide +kernel
theorem dX5_reachAsked_6 : decode cX5_reachAsked 6 = .ok (.istore 5, 2) := by decide +kernel
theorem dX5_reachAsked_8 : decode cX5_reachAsked 8 = .ok (.iload 5, 2) := by decide +kernel
theorem dX5_reachAsked_10 : decode cX5_reachAsked 10 = .ok (.ifCond .eq 6, 3) := by decide +kernel
theorem dX5_reachAsked_13 : decode cX5_reachAsked 13 = .ok (.iload 5, 2) := by decide +kernel
theorem dX5_reachAsked_15 : decode cX5_reachAsked 15 = .ok (.ireturn, 1) := by decide +kernel
theorem dX5_reachAsked_16 : decode cX5_reachAsked 16 = .ok (.aload_n 0, 1) := by decide +kernel
theorem dX5_reachAsked_17 : decode cX5_reachAsked 17 = .ok (.iload_n 1, 1) := by decide +kernel
theorem dX5_reachAsked_18 : decode cX5_reachAsked 18 = .ok (.invokevirtual 52, 3) := by decide +kernel
theorem dX5_reachAsked_21 : decode cX5_reachAsked 21 = .ok (.iload_n 2, 1) := by decide +kernel
theorem dX5_reachAsked_22 : decode cX5_reachAsked 22 = .ok (.if_icmp .eq 15, 3) := by decide +kernel
theorem dX5_reachAsked_25 : decode cX5_reachAsked 25 = .ok (.aload_n 0, 1) := by decide +kernel
theorem dX5_reachAsked_26 : decode cX5_reachAsked 26 = .ok (.iload_n 1, 1) := by decide +kernel
theorem dX5_reachAsked_27 : decode cX5_reachAsked 27 = .ok (.invokevirtual 52, 3) := by decide +kernel
theorem dX5_reachAsked_30 : decode cX5_reachAsked 30 = .ok (.iload_n 2, 1) := by decide +kernel
theorem dX5_reachAsked_31 : decode cX5_reachAsked 31 = .ok (.invokestatic 56, 3) := by decide +kernel
theorem dX5_reachAsked_34 : decode cX5_reachAsked 34 = .ok (.ifCond .eq 7, 3) := by decide +kernel
theorem dX5_reachAsked_37 : decode cX5_reachAsked 37 = .ok (.iconst 0, 1) := by decide +kernel
theorem dX5_reachAsked_38 : decode cX5_reachAsked 38 = .ok (.goto 5, 3) := by decide +kernel
theorem dX5_reachAsked_41 : decode cX5_reachAsked 41 = .ok (.bipush 7, 2) := by decide +kernel
theorem dX5_reachAsked_43 : decode cX5_reachAsked 43 = .ok (.ireturn, 1) := by decide +kernel
theorem dX5_reachPut_0 : decode cX5_reachPut 0 = .ok (.aload_n 0, 1) := by decide +kernel
theorem dX5_reachPut_1 : decode cX5_reachPut 1 = .ok (.iload_n 1, 1) := by decide +kernel
theorem dX5_reachPut_2 : decode cX5_reachPut 2 = .ok (.lload_n 3, 1) := by decide +kernel
theorem dX5_reachPut_3 : decode cX5_reachPut 3 = .ok (.invokevirtual 48, 3) := by decide +kernel
theorem dX5_reachPut_6 : decode cX5_reachPut 6 = .ok (.istore 5, 2) := by decide +kernel
theorem dX5_reachPut_8 : decode cX5_reachPut 8 = .ok (.iload 5, 2) := by decide +kernel
theorem dX5_reachPut_10 : decode cX5_reachPut 10 = .ok (.ifCond .eq 6, 3) := by decide +kernel
theorem dX5_reachPut_13 : decode cX5_reachPut 13 = .ok (.iload 5, 2) := by decide +kernel
theorem dX5_reachPut_15 : decode cX5_reachPut 15 = .ok (.ireturn, 1) := by decide +kernel
theorem dX5_reachPut_16 : decode cX5_reachPut 16 = .ok (.aload_n 0, 1) := by decide +kernel
theorem dX5_reachPut_17 : decode cX5_reachPut 17 = .ok (.iload_n 1, 1) := by decide +kernel
theorem dX5_reachPut_18 : decode cX5_reachPut 18 = .ok (.invokevirtual 52, 3) := by decide +kernel
theorem dX5_reachPut_21 : decode cX5_reachPut 21 = .ok (.iload_n 2, 1) := by decide +kernel
theorem dX5_reachPut_22 : decode cX5_reachPut 22 = .ok (.if_icmp .eq 15, 3) := by decide +kernel
theorem dX5_reachPut_25 : decode cX5_reachPut 25 = .ok (.iload_n 2, 1) := by decide +kernel
theorem dX5_reachPut_26 : decode cX5_reachPut 26 = .ok (.aload_n 0, 1) := by decide +kernel
theorem dX5_reachPut_27 : decode cX5_reachPut 27 = .ok (.iload_n 1, 1) := by decide +kernel
theorem dX5_reachPut_28 : decode cX5_reachPut 28 = .ok (.invokevirtual 52, 3) := by decide +kernel
theorem dX5_reachPut_31 : decode cX5_reachPut 31 = .ok (.invokestatic 56, 3) := by decide +kernel
theorem dX5_reachPut_34 : decode cX5_reachPut 34 = .ok (.ifCond .eq 7, 3) := by decide +kernel
theorem dX5_reachPut_37 : decode cX5_reachPut 37 = .ok (.iconst 0, 1) := by decide +kernel
theorem dX5_reachPut_38 : decode cX5_reachPut 38 = .ok (.goto 5, 3) := by decide +kernel
theorem dX5_reachPut_41 : decode cX5_reachPut 41 = .ok (.bipush 7, 2) := by decide +kernel
theorem dX5_reachPut_43 : decode cX5_reachPut 43 = .ok (.ireturn, 1) := by decide +kernel
theorem dX5_valueAt_0 : decode cX5_valueAt 0 = .ok (.aload_n 0, 1) := by decide +kernel
theorem dX5_valueAt_1 : decode cX5_valueAt 1 = .ok (.iload_n 1, 1) := by decide +kernel
theorem dX5_valueAt_2 : decode cX5_valueAt 2 = .ok (.lload_n 2, 1) := by decide +kernel
theorem dX5_valueAt_3 : decode cX5_valueAt 3 = .ok (.invokevirtual 48, 3) := by decide +kernel
theorem dX5_valueAt_6 : decode cX5_valueAt 6 = .ok (.ifCond .ne 23, 3) := by decide +kernel
theorem dX5_valueAt_9 : decode cX5_valueAt 9 = .ok (.aload_n 0, 1) := by decide +kernel
theorem dX5_valueAt_10 : decode cX5_valueAt 10 = .ok (.getfield 24, 3) := by decide +kernel
theorem dX5_valueAt_13 : decode cX5_valueAt 13 = .ok (.aload_n 0, 1) := by decide +kernel
theorem dX5_valueAt_14 : decode cX5_valueAt 14 = .ok (.getfield 9, 3) := by decide +kernel
theorem dX5_valueAt_17 : decode cX5_valueAt 17 = .ok (.iload_n 1, 1) := by decide +kernel
theorem dX5_valueAt_18 : decode cX5_valueAt 18 = .ok (.iaload, 1) := by decide +kernel
theorem dX5_valueAt_19 : decode cX5_valueAt 19 = .ok (.bipush 12, 2) := by decide +kernel
theorem dX5_valueAt_21 : decode cX5_valueAt 21 = .ok (.imul, 1) := by decide +kernel
theorem dX5_valueAt_22 : decode cX5_valueAt 22 = .ok (.lload_n 2, 1) := by decide +kernel
theorem dX5_valueAt_23 : decode cX5_valueAt 23 = .ok (.l2i, 1) := by decide +kernel
theorem dX5_valueAt_24 : decode cX5_valueAt 24 = .ok (.iadd, 1) := by decide +kernel
theorem dX5_valueAt_25 : decode cX5_valueAt 25 = .ok (.laload, 1) := by decide +kernel
theorem dX5_valueAt_26 : decode cX5_valueAt 26 = .ok (.goto 4, 3) := by decide +kernel
theorem dX5_valueAt_29 : decode cX5_valueAt 29 = .ok (.lconst 0, 1) := by decide +kernel
theorem dX5_valueAt_30 : decode cX5_valueAt 30 = .ok (.lreturn, 1) := by decide +kernel
theorem dX5_store_0 : decode cX5_store 0 = .ok (.aload_n 0, 1) := by decide +kernel
theorem dX5_store_1 : decode cX5_store 1 = .ok (.iload_n 1, 1) := by decide +kernel
theorem dX5_store_2 : decode cX5_store 2 = .ok (.lload_n 2, 1) := by decide +kernel
theorem dX5_store_3 : decode cX5_store 3 = .ok (.invokevirtual 48, 3) := by decide +kernel
theorem dX5_store_6 : decode cX5_store 6 = .ok (.ifCond .ne 36, 3) := by decide +kernel
theorem dX5_store_9 : decode cX5_store 9 = .ok (.aload_n 0, 1) := by decide +kernel
theorem dX5_store_10 : decode cX5_store 10 = .ok (.getfield 24, 3) := by decide +kernel
theorem dX5_store_13 : decode cX5_store 13 = .ok (.aload_n 0, 1) := by decide +kernel
theorem dX5_store_14 : decode cX5_store 14 = .ok (.getfield 9, 3) := by decide +kernel
theorem dX5_store_17 : decode cX5_store 17 = .ok (.iload_n 1, 1) := by decide +kernel
theorem dX5_store_18 : decode cX5_store 18 = .ok (.iaload, 1) := by decide +kernel
theorem dX5_store_19 : decode cX5_store 19 = .ok (.bipush 12, 2) := by decide +kernel
theorem dX5_store_21 : decode cX5_store 21 = .ok (.imul, 1) := by decide +kernel
theorem dX5_store_22 : decode cX5_store 22 = .ok (.lload_n 2, 1) := by decide +kernel
theorem dX5_store_23 : decode cX5_store 23 = .ok (.l2i, 1) := by decide +kernel
theorem dX5_store_24 : decode cX5_store 24 = .ok (.iadd, 1) := by decide +kernel
theorem dX5_store_25 : decode cX5_store 25 = .ok (.aload_n 0, 1) := by decide +kernel
theorem dX5_store_26 : decode cX5_store 26 = .ok (.getfield 18, 3) := by decide +kernel
theorem dX5_store_29 : decode cX5_store 29 = .ok (.aload_n 0, 1) := by decide +kernel
theorem dX5_store_30 : decode cX5_store 30 = .ok (.getfield 9, 3) := by decide +kernel
theorem dX5_store_33 : decode cX5_store 33 = .ok (.iload_n 1, 1) := by decide +kernel
theorem dX5_store_34 : decode cX5_store 34 = .ok (.iaload, 1) := by decide +kernel
theorem dX5_store_35 : decode cX5_store 35 = .ok (.iaload, 1) := by decide +kernel
theorem dX5_store_36 : decode cX5_store 36 = .ok (.lload 4, 2) := by decide +kernel
theorem dX5_store_38 : decode cX5_store 38 = .ok (.invokestatic 62, 3) := by decide +kernel
theorem dX5_store_41 : decode cX5_store 41 = .ok (.lastore, 1) := by decide +kernel
theorem dX5_store_42 : decode cX5_store 42 = .ok (.return_, 1) := by decide +kernel
theorem dX5_copyFrom_0 : decode cX5_copyFrom 0 = .ok (.aload_n 1, 1) := by decide +kernel
theorem dX5_copyFrom_1 : decode cX5_copyFrom 1 = .ok (.getfield 9, 3) := by decide +kernel
theorem dX5_copyFrom_4 : decode cX5_copyFrom 4 = .ok (.iconst 0, 1) := by decide +kernel
theorem dX5_copyFrom_5 : decode cX5_copyFrom 5 = .ok (.aload_n 0, 1) := by decide +kernel
theorem dX5_copyFrom_6 : decode cX5_copyFrom 6 = .ok (.getfield 9, 3) := by decide +kernel
theorem dX5_copyFrom_9 : decode cX5_copyFrom 9 = .ok (.iconst 0, 1) := by decide +kernel
theorem dX5_copyFrom_10 : decode cX5_copyFrom 10 = .ok (.bipush 12, 2) := by decide +kernel
theorem dX5_copyFrom_12 : decode cX5_copyFrom 12 = .ok (.invokestatic 66, 3) := by decide +kernel
theorem dX5_copyFrom_15 : decode cX5_copyFrom 15 = .ok (.aload_n 1, 1) := by decide +kernel
theorem dX5_copyFrom_16 : decode cX5_copyFrom 16 = .ok (.getfield 15, 3) := by decide +kernel
theorem dX5_copyFrom_19 : decode cX5_copyFrom 19 = .ok (.iconst 0, 1) := by decide +kernel
theorem dX5_copyFrom_20 : decode cX5_copyFrom 20 = .ok (.aload_n 0, 1) := by decide +kernel
theorem dX5_copyFrom_21 : decode cX5_copyFrom 21 = .ok (.getfield 15, 3) := by decide +kernel
theorem dX5_copyFrom_24 : decode cX5_copyFrom 24 = .ok (.iconst 0, 1) := by decide +kernel
theorem dX5_copyFrom_25 : decode cX5_copyFrom 25 = .ok (.bipush 12, 2) := by decide +kernel
theorem dX5_copyFrom_27 : decode cX5_copyFrom 27 = .ok (.invokestatic 66, 3) := by decide +kernel
theorem dX5_copyFrom_30 : decode cX5_copyFrom 30 = .ok (.aload_n 1, 1) := by decide +kernel
theorem dX5_copyFrom_31 : decode cX5_copyFrom 31 = .ok (.getfield 18, 3) := by decide +kernel
theorem dX5_copyFrom_34 : decode cX5_copyFrom 34 = .ok (.iconst 0, 1) := by decide +kernel
theorem dX5_copyFrom_35 : decode cX5_copyFrom 35 = .ok (.aload_n 0, 1) := by decide +kernel
