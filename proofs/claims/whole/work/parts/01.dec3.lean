theorem dX10_row_41 : decode cX10_row 41 = .ok (.iload_n 2, 1) := by decide +kernel
theorem dX10_row_42 : decode cX10_row 42 = .ok (.iload_n 3, 1) := by decide +kernel
theorem dX10_row_43 : decode cX10_row 43 = .ok (.invokevirtual 164, 3) := by decide +kernel
theorem dX10_row_46 : decode cX10_row 46 = .ok (.iload_n 3, 1) := by decide +kernel
theorem dX10_row_47 : decode cX10_row 47 = .ok (.ireturn, 1) := by decide +kernel
theorem dX10_miss_0 : decode cX10_miss 0 = .ok (.iload_n 1, 1) := by decide +kernel
theorem dX10_miss_1 : decode cX10_miss 1 = .ok (.invokestatic 156, 3) := by decide +kernel
theorem dX10_miss_4 : decode cX10_miss 4 = .ok (.ifCond .ne 6, 3) := by decide +kernel
theorem dX10_miss_7 : decode cX10_miss 7 = .ok (.ldc 163, 2) := by decide +kernel
theorem dX10_miss_9 : decode cX10_miss 9 = .ok (.ireturn, 1) := by decide +kernel
theorem dX10_miss_10 : decode cX10_miss 10 = .ok (.aload_n 0, 1) := by decide +kernel
theorem dX10_miss_11 : decode cX10_miss 11 = .ok (.getfield 7, 3) := by decide +kernel
theorem dX10_miss_14 : decode cX10_miss 14 = .ok (.iload_n 1, 1) := by decide +kernel
theorem dX10_miss_15 : decode cX10_miss 15 = .ok (.iaload, 1) := by decide +kernel
theorem dX10_miss_16 : decode cX10_miss 16 = .ok (.istore_n 2, 1) := by decide +kernel
theorem dX10_miss_17 : decode cX10_miss 17 = .ok (.aload_n 0, 1) := by decide +kernel
theorem dX10_miss_18 : decode cX10_miss 18 = .ok (.getfield 7, 3) := by decide +kernel
theorem dX10_miss_21 : decode cX10_miss 21 = .ok (.iload_n 1, 1) := by decide +kernel
theorem dX10_miss_22 : decode cX10_miss 22 = .ok (.iconst (-1), 1) := by decide +kernel
theorem dX10_miss_23 : decode cX10_miss 23 = .ok (.iastore, 1) := by decide +kernel
theorem dX10_miss_24 : decode cX10_miss 24 = .ok (.iload_n 2, 1) := by decide +kernel
theorem dX10_miss_25 : decode cX10_miss 25 = .ok (.iconst (-1), 1) := by decide +kernel
theorem dX10_miss_26 : decode cX10_miss 26 = .ok (.if_icmp .ne 7, 3) := by decide +kernel
theorem dX10_miss_29 : decode cX10_miss 29 = .ok (.iconst 0, 1) := by decide +kernel
theorem dX10_miss_30 : decode cX10_miss 30 = .ok (.goto 4, 3) := by decide +kernel
theorem dX10_miss_33 : decode cX10_miss 33 = .ok (.iconst 1, 1) := by decide +kernel
theorem dX10_miss_34 : decode cX10_miss 34 = .ok (.ireturn, 1) := by decide +kernel
theorem dX10_share_0 : decode cX10_share 0 = .ok (.iload_n 1, 1) := by decide +kernel
theorem dX10_share_1 : decode cX10_share 1 = .ok (.invokestatic 156, 3) := by decide +kernel
theorem dX10_share_4 : decode cX10_share 4 = .ok (.ifCond .eq 10, 3) := by decide +kernel
theorem dX10_share_7 : decode cX10_share 7 = .ok (.iload_n 2, 1) := by decide +kernel
theorem dX10_share_8 : decode cX10_share 8 = .ok (.invokestatic 156, 3) := by decide +kernel
theorem dX10_share_11 : decode cX10_share 11 = .ok (.ifCond .ne 6, 3) := by decide +kernel
theorem dX10_share_14 : decode cX10_share 14 = .ok (.ldc 163, 2) := by decide +kernel
theorem dX10_share_16 : decode cX10_share 16 = .ok (.ireturn, 1) := by decide +kernel
theorem dX10_share_17 : decode cX10_share 17 = .ok (.aload_n 0, 1) := by decide +kernel
theorem dX10_share_18 : decode cX10_share 18 = .ok (.getfield 7, 3) := by decide +kernel
theorem dX10_share_21 : decode cX10_share 21 = .ok (.iload_n 1, 1) := by decide +kernel
theorem dX10_share_22 : decode cX10_share 22 = .ok (.iaload, 1) := by decide +kernel
theorem dX10_share_23 : decode cX10_share 23 = .ok (.aload_n 0, 1) := by decide +kernel
theorem dX10_share_24 : decode cX10_share 24 = .ok (.getfield 7, 3) := by decide +kernel
theorem dX10_share_27 : decode cX10_share 27 = .ok (.iload_n 2, 1) := by decide +kernel
theorem dX10_share_28 : decode cX10_share 28 = .ok (.iaload, 1) := by decide +kernel
theorem dX10_share_29 : decode cX10_share 29 = .ok (.if_icmp .ne 7, 3) := by decide +kernel
theorem dX10_share_32 : decode cX10_share 32 = .ok (.iconst 0, 1) := by decide +kernel
theorem dX10_share_33 : decode cX10_share 33 = .ok (.goto 4, 3) := by decide +kernel
theorem dX10_share_36 : decode cX10_share 36 = .ok (.iconst 1, 1) := by decide +kernel
theorem dX10_share_37 : decode cX10_share 37 = .ok (.istore_n 3, 1) := by decide +kernel
theorem dX10_share_38 : decode cX10_share 38 = .ok (.aload_n 0, 1) := by decide +kernel
theorem dX10_share_39 : decode cX10_share 39 = .ok (.getfield 7, 3) := by decide +kernel
theorem dX10_share_42 : decode cX10_share 42 = .ok (.iload_n 1, 1) := by decide +kernel
theorem dX10_share_43 : decode cX10_share 43 = .ok (.aload_n 0, 1) := by decide +kernel
theorem dX10_share_44 : decode cX10_share 44 = .ok (.getfield 7, 3) := by decide +kernel
theorem dX10_share_47 : decode cX10_share 47 = .ok (.iload_n 2, 1) := by decide +kernel
theorem dX10_share_48 : decode cX10_share 48 = .ok (.iaload, 1) := by decide +kernel
theorem dX10_share_49 : decode cX10_share 49 = .ok (.iastore, 1) := by decide +kernel
theorem dX10_share_50 : decode cX10_share 50 = .ok (.iload_n 3, 1) := by decide +kernel
theorem dX10_share_51 : decode cX10_share 51 = .ok (.ireturn, 1) := by decide +kernel
theorem dX10_put_0 : decode cX10_put 0 = .ok (.iload_n 1, 1) := by decide +kernel
theorem dX10_put_1 : decode cX10_put 1 = .ok (.invokestatic 156, 3) := by decide +kernel
theorem dX10_put_4 : decode cX10_put 4 = .ok (.ifCond .ne 6, 3) := by decide +kernel
theorem dX10_put_7 : decode cX10_put 7 = .ok (.ldc 163, 2) := by decide +kernel
theorem dX10_put_9 : decode cX10_put 9 = .ok (.ireturn, 1) := by decide +kernel
theorem dX10_put_10 : decode cX10_put 10 = .ok (.aload_n 0, 1) := by decide +kernel
theorem dX10_put_11 : decode cX10_put 11 = .ok (.iload_n 1, 1) := by decide +kernel
theorem dX10_put_12 : decode cX10_put 12 = .ok (.iload_n 2, 1) := by decide +kernel
theorem dX10_put_13 : decode cX10_put 13 = .ok (.i2l, 1) := by decide +kernel
theorem dX10_put_14 : decode cX10_put 14 = .ok (.invokevirtual 168, 3) := by decide +kernel
theorem dX10_put_17 : decode cX10_put 17 = .ok (.istore 5, 2) := by decide +kernel
theorem dX10_put_19 : decode cX10_put 19 = .ok (.iload 5, 2) := by decide +kernel
theorem dX10_put_21 : decode cX10_put 21 = .ok (.ifCond .le 9, 3) := by decide +kernel
theorem dX10_put_24 : decode cX10_put 24 = .ok (.bipush (-10), 2) := by decide +kernel
theorem dX10_put_26 : decode cX10_put 26 = .ok (.iload 5, 2) := by decide +kernel
theorem dX10_put_28 : decode cX10_put 28 = .ok (.isub, 1) := by decide +kernel
theorem dX10_put_29 : decode cX10_put 29 = .ok (.ireturn, 1) := by decide +kernel
theorem dX10_put_30 : decode cX10_put 30 = .ok (.aload_n 0, 1) := by decide +kernel
theorem dX10_put_31 : decode cX10_put 31 = .ok (.aload_n 0, 1) := by decide +kernel
theorem dX10_put_32 : decode cX10_put 32 = .ok (.getfield 7, 3) := by decide +kernel
theorem dX10_put_35 : decode cX10_put 35 = .ok (.iload_n 1, 1) := by decide +kernel
theorem dX10_put_36 : decode cX10_put 36 = .ok (.iaload, 1) := by decide +kernel
theorem dX10_put_37 : decode cX10_put 37 = .ok (.iload_n 2, 1) := by decide +kernel
theorem dX10_put_38 : decode cX10_put 38 = .ok (.lload_n 3, 1) := by decide +kernel
theorem dX10_put_39 : decode cX10_put 39 = .ok (.invokevirtual 172, 3) := by decide +kernel
theorem dX10_put_42 : decode cX10_put 42 = .ok (.iconst 1, 1) := by decide +kernel
theorem dX10_put_43 : decode cX10_put 43 = .ok (.ireturn, 1) := by decide +kernel
theorem dX10_item_0 : decode cX10_item 0 = .ok (.iload_n 1, 1) := by decide +kernel
theorem dX10_item_1 : decode cX10_item 1 = .ok (.invokestatic 156, 3) := by decide +kernel
theorem dX10_item_4 : decode cX10_item 4 = .ok (.ifCond .eq 27, 3) := by decide +kernel
theorem dX10_item_7 : decode cX10_item 7 = .ok (.aload_n 0, 1) := by decide +kernel
theorem dX10_item_8 : decode cX10_item 8 = .ok (.iload_n 1, 1) := by decide +kernel
theorem dX10_item_9 : decode cX10_item 9 = .ok (.iload_n 2, 1) := by decide +kernel
theorem dX10_item_10 : decode cX10_item 10 = .ok (.i2l, 1) := by decide +kernel
theorem dX10_item_11 : decode cX10_item 11 = .ok (.invokevirtual 168, 3) := by decide +kernel
theorem dX10_item_14 : decode cX10_item 14 = .ok (.ifCond .ne 17, 3) := by decide +kernel
theorem dX10_item_17 : decode cX10_item 17 = .ok (.aload_n 0, 1) := by decide +kernel
theorem dX10_item_18 : decode cX10_item 18 = .ok (.aload_n 0, 1) := by decide +kernel
theorem dX10_item_19 : decode cX10_item 19 = .ok (.getfield 7, 3) := by decide +kernel
theorem dX10_item_22 : decode cX10_item 22 = .ok (.iload_n 1, 1) := by decide +kernel
theorem dX10_item_23 : decode cX10_item 23 = .ok (.iaload, 1) := by decide +kernel
theorem dX10_item_24 : decode cX10_item 24 = .ok (.iload_n 2, 1) := by decide +kernel
theorem dX10_item_25 : decode cX10_item 25 = .ok (.invokevirtual 176, 3) := by decide +kernel
theorem dX10_item_28 : decode cX10_item 28 = .ok (.goto 4, 3) := by decide +kernel
theorem dX10_item_31 : decode cX10_item 31 = .ok (.lconst 0, 1) := by decide +kernel
theorem dX10_item_32 : decode cX10_item 32 = .ok (.lreturn, 1) := by decide +kernel
theorem dX10_about_0 : decode cX10_about 0 = .ok (.iload_n 1, 1) := by decide +kernel
theorem dX10_about_1 : decode cX10_about 1 = .ok (.invokestatic 156, 3) := by decide +kernel
theorem dX10_about_4 : decode cX10_about 4 = .ok (.ifCond .eq 15, 3) := by decide +kernel
theorem dX10_about_7 : decode cX10_about 7 = .ok (.iload_n 2, 1) := by decide +kernel
theorem dX10_about_8 : decode cX10_about 8 = .ok (.i2l, 1) := by decide +kernel
theorem dX10_about_9 : decode cX10_about 9 = .ok (.lconst 0, 1) := by decide +kernel
theorem dX10_about_10 : decode cX10_about 10 = .ok (.ldc2_w 180, 3) := by decide +kernel
theorem dX10_about_13 : decode cX10_about 13 = .ok (.invokestatic 139, 3) := by decide +kernel
theorem dX10_about_16 : decode cX10_about 16 = .ok (.ifCond .ne 6, 3) := by decide +kernel
theorem dX10_about_19 : decode cX10_about 19 = .ok (.ldc 163, 2) := by decide +kernel
theorem dX10_about_21 : decode cX10_about 21 = .ok (.ireturn, 1) := by decide +kernel
theorem dX10_about_22 : decode cX10_about 22 = .ok (.aload_n 0, 1) := by decide +kernel
theorem dX10_about_23 : decode cX10_about 23 = .ok (.getfield 7, 3) := by decide +kernel
theorem dX10_about_26 : decode cX10_about 26 = .ok (.iload_n 1, 1) := by decide +kernel
theorem dX10_about_27 : decode cX10_about 27 = .ok (.iaload, 1) := by decide +kernel
theorem dX10_about_28 : decode cX10_about 28 = .ok (.istore_n 3, 1) := by decide +kernel
theorem dX10_about_29 : decode cX10_about 29 = .ok (.iload_n 2, 1) := by decide +kernel
theorem dX10_about_30 : decode cX10_about 30 = .ok (.iconst 2, 1) := by decide +kernel
theorem dX10_about_31 : decode cX10_about 31 = .ok (.if_icmp .ge 32, 3) := by decide +kernel
theorem dX10_about_34 : decode cX10_about 34 = .ok (.iload_n 3, 1) := by decide +kernel
theorem dX10_about_35 : decode cX10_about 35 = .ok (.iconst (-1), 1) := by decide +kernel
theorem dX10_about_36 : decode cX10_about 36 = .ok (.if_icmp .ne 7, 3) := by decide +kernel
theorem dX10_about_39 : decode cX10_about 39 = .ok (.iconst (-1), 1) := by decide +kernel
theorem dX10_about_40 : decode cX10_about 40 = .ok (.goto 22, 3) := by decide +kernel
theorem dX10_about_43 : decode cX10_about 43 = .ok (.iload_n 2, 1) := by decide +kernel
theorem dX10_about_44 : decode cX10_about 44 = .ok (.ifCond .ne 12, 3) := by decide +kernel
theorem dX10_about_47 : decode cX10_about 47 = .ok (.aload_n 0, 1) := by decide +kernel
theorem dX10_about_48 : decode cX10_about 48 = .ok (.getfield 16, 3) := by decide +kernel
theorem dX10_about_51 : decode cX10_about 51 = .ok (.iload_n 3, 1) := by decide +kernel
theorem dX10_about_52 : decode cX10_about 52 = .ok (.iaload, 1) := by decide +kernel
theorem dX10_about_53 : decode cX10_about 53 = .ok (.goto 9, 3) := by decide +kernel
theorem dX10_about_56 : decode cX10_about 56 = .ok (.aload_n 0, 1) := by decide +kernel
theorem dX10_about_57 : decode cX10_about 57 = .ok (.getfield 13, 3) := by decide +kernel
theorem dX10_about_60 : decode cX10_about 60 = .ok (.iload_n 3, 1) := by decide +kernel
theorem dX10_about_61 : decode cX10_about 61 = .ok (.iaload, 1) := by decide +kernel
theorem dX10_about_62 : decode cX10_about 62 = .ok (.ireturn, 1) := by decide +kernel
theorem dX10_about_63 : decode cX10_about 63 = .ok (.iconst 0, 1) := by decide +kernel
theorem dX10_about_64 : decode cX10_about 64 = .ok (.istore 4, 2) := by decide +kernel
theorem dX10_about_66 : decode cX10_about 66 = .ok (.aload_n 0, 1) := by decide +kernel
theorem dX10_about_67 : decode cX10_about 67 = .ok (.getfield 7, 3) := by decide +kernel
theorem dX10_about_70 : decode cX10_about 70 = .ok (.iload 4, 2) := by decide +kernel
theorem dX10_about_72 : decode cX10_about 72 = .ok (.iaload, 1) := by decide +kernel
theorem dX10_about_73 : decode cX10_about 73 = .ok (.iload_n 3, 1) := by decide +kernel
theorem dX10_about_74 : decode cX10_about 74 = .ok (.if_icmp .eq 9, 3) := by decide +kernel
theorem dX10_about_77 : decode cX10_about 77 = .ok (.iinc 4 1, 3) := by decide +kernel
theorem dX10_about_80 : decode cX10_about 80 = .ok (.goto (-14), 3) := by decide +kernel
theorem dX10_about_83 : decode cX10_about 83 = .ok (.iload 4, 2) := by decide +kernel
theorem dX10_about_85 : decode cX10_about 85 = .ok (.ireturn, 1) := by decide +kernel
theorem dX10_isCrate_0 : decode cX10_isCrate 0 = .ok (.iload_n 0, 1) := by decide +kernel
theorem dX10_isCrate_1 : decode cX10_isCrate 1 = .ok (.ifCond .le 12, 3) := by decide +kernel
theorem dX10_isCrate_4 : decode cX10_isCrate 4 = .ok (.iload_n 0, 1) := by decide +kernel
theorem dX10_isCrate_5 : decode cX10_isCrate 5 = .ok (.iconst 4, 1) := by decide +kernel
theorem dX10_isCrate_6 : decode cX10_isCrate 6 = .ok (.if_icmp .ge 7, 3) := by decide +kernel
theorem dX10_isCrate_9 : decode cX10_isCrate 9 = .ok (.iconst 1, 1) := by decide +kernel
theorem dX10_isCrate_10 : decode cX10_isCrate 10 = .ok (.goto 4, 3) := by decide +kernel
theorem dX10_isCrate_13 : decode cX10_isCrate 13 = .ok (.iconst 0, 1) := by decide +kernel
theorem dX10_isCrate_14 : decode cX10_isCrate 14 = .ok (.ireturn, 1) := by decide +kernel
theorem dX10_placesOf_0 : decode cX10_placesOf 0 = .ok (.iload_n 0, 1) := by decide +kernel
theorem dX10_placesOf_1 : decode cX10_placesOf 1 = .ok (.ifCond .ne 7, 3) := by decide +kernel
theorem dX10_placesOf_4 : decode cX10_placesOf 4 = .ok (.iconst 4, 1) := by decide +kernel
theorem dX10_placesOf_5 : decode cX10_placesOf 5 = .ok (.goto 13, 3) := by decide +kernel
theorem dX10_placesOf_8 : decode cX10_placesOf 8 = .ok (.iload_n 0, 1) := by decide +kernel
theorem dX10_placesOf_9 : decode cX10_placesOf 9 = .ok (.iconst 4, 1) := by decide +kernel
theorem dX10_placesOf_10 : decode cX10_placesOf 10 = .ok (.if_icmp .ge 7, 3) := by decide +kernel
theorem dX10_placesOf_13 : decode cX10_placesOf 13 = .ok (.iconst 3, 1) := by decide +kernel
theorem dX10_placesOf_14 : decode cX10_placesOf 14 = .ok (.goto 4, 3) := by decide +kernel
theorem dX10_placesOf_17 : decode cX10_placesOf 17 = .ok (.iconst 2, 1) := by decide +kernel
theorem dX10_placesOf_18 : decode cX10_placesOf 18 = .ok (.ireturn, 1) := by decide +kernel
theorem dX10_isThing_0 : decode cX10_isThing 0 = .ok (.lload_n 1, 1) := by decide +kernel
theorem dX10_isThing_1 : decode cX10_isThing 1 = .ok (.lconst 0, 1) := by decide +kernel
theorem dX10_isThing_2 : decode cX10_isThing 2 = .ok (.aload_n 0, 1) := by decide +kernel
theorem dX10_isThing_3 : decode cX10_isThing 3 = .ok (.getfield 182, 3) := by decide +kernel
theorem dX10_isThing_6 : decode cX10_isThing 6 = .ok (.i2l, 1) := by decide +kernel
theorem dX10_isThing_7 : decode cX10_isThing 7 = .ok (.lconst 1, 1) := by decide +kernel
theorem dX10_isThing_8 : decode cX10_isThing 8 = .ok (.lsub, 1) := by decide +kernel
theorem dX10_isThing_9 : decode cX10_isThing 9 = .ok (.invokestatic 139, 3) := by decide +kernel
theorem dX10_isThing_12 : decode cX10_isThing 12 = .ok (.ireturn, 1) := by decide +kernel
theorem dX10_thing_0 : decode cX10_thing 0 = .ok (.iload_n 1, 1) := by decide +kernel
theorem dX10_thing_1 : decode cX10_thing 1 = .ok (.i2l, 1) := by decide +kernel
theorem dX10_thing_2 : decode cX10_thing 2 = .ok (.lconst 0, 1) := by decide +kernel
theorem dX10_thing_3 : decode cX10_thing 3 = .ok (.ldc2_w 185, 3) := by decide +kernel
theorem dX10_thing_6 : decode cX10_thing 6 = .ok (.invokestatic 139, 3) := by decide +kernel
theorem dX10_thing_9 : decode cX10_thing 9 = .ok (.ifCond .ne 6, 3) := by decide +kernel
theorem dX10_thing_12 : decode cX10_thing 12 = .ok (.ldc 163, 2) := by decide +kernel
theorem dX10_thing_14 : decode cX10_thing 14 = .ok (.ireturn, 1) := by decide +kernel
theorem dX10_thing_15 : decode cX10_thing 15 = .ok (.aload_n 0, 1) := by decide +kernel
theorem dX10_thing_16 : decode cX10_thing 16 = .ok (.getfield 182, 3) := by decide +kernel
theorem dX10_thing_19 : decode cX10_thing 19 = .ok (.bipush 12, 2) := by decide +kernel
theorem dX10_thing_21 : decode cX10_thing 21 = .ok (.if_icmp .ne 6, 3) := by decide +kernel
theorem dX10_thing_24 : decode cX10_thing 24 = .ok (.ldc 187, 2) := by decide +kernel
theorem dX10_thing_26 : decode cX10_thing 26 = .ok (.ireturn, 1) := by decide +kernel
theorem dX10_thing_27 : decode cX10_thing 27 = .ok (.aload_n 0, 1) := by decide +kernel
theorem dX10_thing_28 : decode cX10_thing 28 = .ok (.getfield 27, 3) := by decide +kernel
theorem dX10_thing_31 : decode cX10_thing 31 = .ok (.aload_n 0, 1) := by decide +kernel
theorem dX10_thing_32 : decode cX10_thing 32 = .ok (.getfield 182, 3) := by decide +kernel
theorem dX10_thing_35 : decode cX10_thing 35 = .ok (.iload_n 1, 1) := by decide +kernel
theorem dX10_thing_36 : decode cX10_thing 36 = .ok (.iastore, 1) := by decide +kernel
theorem dX10_thing_37 : decode cX10_thing 37 = .ok (.aload_n 0, 1) := by decide +kernel
theorem dX10_thing_38 : decode cX10_thing 38 = .ok (.getfield 30, 3) := by decide +kernel
theorem dX10_thing_41 : decode cX10_thing 41 = .ok (.aload_n 0, 1) := by decide +kernel
theorem dX10_thing_42 : decode cX10_thing 42 = .ok (.getfield 182, 3) := by decide +kernel
theorem dX10_thing_45 : decode cX10_thing 45 = .ok (.iconst 0, 1) := by decide +kernel
theorem dX10_thing_46 : decode cX10_thing 46 = .ok (.iastore, 1) := by decide +kernel
theorem dX10_thing_47 : decode cX10_thing 47 = .ok (.aload_n 0, 1) := by decide +kernel
theorem dX10_thing_48 : decode cX10_thing 48 = .ok (.getfield 33, 3) := by decide +kernel
theorem dX10_thing_51 : decode cX10_thing 51 = .ok (.aload_n 0, 1) := by decide +kernel
theorem dX10_thing_52 : decode cX10_thing 52 = .ok (.getfield 182, 3) := by decide +kernel
theorem dX10_thing_55 : decode cX10_thing 55 = .ok (.iconst 0, 1) := by decide +kernel
theorem dX10_thing_56 : decode cX10_thing 56 = .ok (.iastore, 1) := by decide +kernel
theorem dX10_thing_57 : decode cX10_thing 57 = .ok (.aload_n 0, 1) := by decide +kernel
theorem dX10_thing_58 : decode cX10_thing 58 = .ok (.getfield 36, 3) := by decide +kernel
theorem dX10_thing_61 : decode cX10_thing 61 = .ok (.aload_n 0, 1) := by decide +kernel
theorem dX10_thing_62 : decode cX10_thing 62 = .ok (.getfield 182, 3) := by decide +kernel
theorem dX10_thing_65 : decode cX10_thing 65 = .ok (.iconst 0, 1) := by decide +kernel
theorem dX10_thing_66 : decode cX10_thing 66 = .ok (.iastore, 1) := by decide +kernel
theorem dX10_thing_67 : decode cX10_thing 67 = .ok (.iconst 0, 1) := by decide +kernel
theorem dX10_thing_68 : decode cX10_thing 68 = .ok (.istore_n 2, 1) := by decide +kernel
theorem dX10_thing_69 : decode cX10_thing 69 = .ok (.iload_n 2, 1) := by decide +kernel
theorem dX10_thing_70 : decode cX10_thing 70 = .ok (.iconst 4, 1) := by decide +kernel
theorem dX10_thing_71 : decode cX10_thing 71 = .ok (.if_icmp .ge 23, 3) := by decide +kernel
theorem dX10_thing_74 : decode cX10_thing 74 = .ok (.aload_n 0, 1) := by decide +kernel
theorem dX10_thing_75 : decode cX10_thing 75 = .ok (.getfield 39, 3) := by decide +kernel
theorem dX10_thing_78 : decode cX10_thing 78 = .ok (.iconst 4, 1) := by decide +kernel
theorem dX10_thing_79 : decode cX10_thing 79 = .ok (.aload_n 0, 1) := by decide +kernel
theorem dX10_thing_80 : decode cX10_thing 80 = .ok (.getfield 182, 3) := by decide +kernel
theorem dX10_thing_83 : decode cX10_thing 83 = .ok (.imul, 1) := by decide +kernel
theorem dX10_thing_84 : decode cX10_thing 84 = .ok (.iload_n 2, 1) := by decide +kernel
theorem dX10_thing_85 : decode cX10_thing 85 = .ok (.iadd, 1) := by decide +kernel
theorem dX10_thing_86 : decode cX10_thing 86 = .ok (.iconst (-1), 1) := by decide +kernel
theorem dX10_thing_87 : decode cX10_thing 87 = .ok (.iastore, 1) := by decide +kernel
theorem dX10_thing_88 : decode cX10_thing 88 = .ok (.iinc 2 1, 3) := by decide +kernel
theorem dX10_thing_91 : decode cX10_thing 91 = .ok (.goto (-22), 3) := by decide +kernel
theorem dX10_thing_94 : decode cX10_thing 94 = .ok (.aload_n 0, 1) := by decide +kernel
theorem dX10_thing_95 : decode cX10_thing 95 = .ok (.dup, 1) := by decide +kernel
theorem dX10_thing_96 : decode cX10_thing 96 = .ok (.getfield 182, 3) := by decide +kernel
theorem dX10_thing_99 : decode cX10_thing 99 = .ok (.iconst 1, 1) := by decide +kernel
theorem dX10_thing_100 : decode cX10_thing 100 = .ok (.iadd, 1) := by decide +kernel
theorem dX10_thing_101 : decode cX10_thing 101 = .ok (.putfield 182, 3) := by decide +kernel
theorem dX10_thing_104 : decode cX10_thing 104 = .ok (.aload_n 0, 1) := by decide +kernel
theorem dX10_thing_105 : decode cX10_thing 105 = .ok (.getfield 182, 3) := by decide +kernel
theorem dX10_thing_108 : decode cX10_thing 108 = .ok (.iconst 1, 1) := by decide +kernel
theorem dX10_thing_109 : decode cX10_thing 109 = .ok (.isub, 1) := by decide +kernel
theorem dX10_thing_110 : decode cX10_thing 110 = .ok (.ireturn, 1) := by decide +kernel
theorem dX10_of_0 : decode cX10_of 0 = .ok (.aload_n 0, 1) := by decide +kernel
theorem dX10_of_1 : decode cX10_of 1 = .ok (.iload_n 1, 1) := by decide +kernel
theorem dX10_of_2 : decode cX10_of 2 = .ok (.i2l, 1) := by decide +kernel
theorem dX10_of_3 : decode cX10_of 3 = .ok (.invokevirtual 188, 3) := by decide +kernel
theorem dX10_of_6 : decode cX10_of 6 = .ok (.ifCond .eq 22, 3) := by decide +kernel
theorem dX10_of_9 : decode cX10_of 9 = .ok (.iload_n 2, 1) := by decide +kernel
theorem dX10_of_10 : decode cX10_of 10 = .ok (.ifCond .lt 18, 3) := by decide +kernel
theorem dX10_of_13 : decode cX10_of 13 = .ok (.iload_n 2, 1) := by decide +kernel
theorem dX10_of_14 : decode cX10_of 14 = .ok (.iconst 4, 1) := by decide +kernel
theorem dX10_of_15 : decode cX10_of 15 = .ok (.aload_n 0, 1) := by decide +kernel
theorem dX10_of_16 : decode cX10_of 16 = .ok (.getfield 27, 3) := by decide +kernel
theorem dX10_of_19 : decode cX10_of 19 = .ok (.iload_n 1, 1) := by decide +kernel
theorem dX10_of_20 : decode cX10_of 20 = .ok (.iaload, 1) := by decide +kernel
theorem dX10_of_21 : decode cX10_of 21 = .ok (.invokestatic 192, 3) := by decide +kernel
theorem dX10_of_24 : decode cX10_of 24 = .ok (.iadd, 1) := by decide +kernel
theorem dX10_of_25 : decode cX10_of 25 = .ok (.if_icmp .le 5, 3) := by decide +kernel
theorem dX10_of_28 : decode cX10_of 28 = .ok (.iconst 0, 1) := by decide +kernel
theorem dX10_of_29 : decode cX10_of 29 = .ok (.ireturn, 1) := by decide +kernel
theorem dX10_of_30 : decode cX10_of 30 = .ok (.iload_n 2, 1) := by decide +kernel
theorem dX10_of_31 : decode cX10_of 31 = .ok (.tableswitch 71 0 4 #[33, 40, 47, 54, 61], 33) := by decide +kernel
theorem dX10_of_64 : decode cX10_of 64 = .ok (.aload_n 0, 1) := by decide +kernel
theorem dX10_of_65 : decode cX10_of 65 = .ok (.getfield 27, 3) := by decide +kernel
theorem dX10_of_68 : decode cX10_of 68 = .ok (.iload_n 1, 1) := by decide +kernel
theorem dX10_of_69 : decode cX10_of 69 = .ok (.iaload, 1) := by decide +kernel
theorem dX10_of_70 : decode cX10_of 70 = .ok (.ireturn, 1) := by decide +kernel
theorem dX10_of_71 : decode cX10_of 71 = .ok (.aload_n 0, 1) := by decide +kernel
theorem dX10_of_72 : decode cX10_of 72 = .ok (.getfield 30, 3) := by decide +kernel
theorem dX10_of_75 : decode cX10_of 75 = .ok (.iload_n 1, 1) := by decide +kernel
theorem dX10_of_76 : decode cX10_of 76 = .ok (.iaload, 1) := by decide +kernel
theorem dX10_of_77 : decode cX10_of 77 = .ok (.ireturn, 1) := by decide +kernel
theorem dX10_of_78 : decode cX10_of 78 = .ok (.aload_n 0, 1) := by decide +kernel
theorem dX10_of_79 : decode cX10_of 79 = .ok (.getfield 33, 3) := by decide +kernel
theorem dX10_of_82 : decode cX10_of 82 = .ok (.iload_n 1, 1) := by decide +kernel
theorem dX10_of_83 : decode cX10_of 83 = .ok (.iaload, 1) := by decide +kernel
theorem dX10_of_84 : decode cX10_of 84 = .ok (.ireturn, 1) := by decide +kernel
theorem dX10_of_85 : decode cX10_of 85 = .ok (.aload_n 0, 1) := by decide +kernel
theorem dX10_of_86 : decode cX10_of 86 = .ok (.getfield 36, 3) := by decide +kernel
theorem dX10_of_89 : decode cX10_of 89 = .ok (.iload_n 1, 1) := by decide +kernel
theorem dX10_of_90 : decode cX10_of 90 = .ok (.iaload, 1) := by decide +kernel
theorem dX10_of_91 : decode cX10_of 91 = .ok (.ireturn, 1) := by decide +kernel
theorem dX10_of_92 : decode cX10_of 92 = .ok (.aload_n 0, 1) := by decide +kernel
theorem dX10_of_93 : decode cX10_of 93 = .ok (.getfield 27, 3) := by decide +kernel
theorem dX10_of_96 : decode cX10_of 96 = .ok (.iload_n 1, 1) := by decide +kernel
theorem dX10_of_97 : decode cX10_of 97 = .ok (.iaload, 1) := by decide +kernel
theorem dX10_of_98 : decode cX10_of 98 = .ok (.invokestatic 192, 3) := by decide +kernel
theorem dX10_of_101 : decode cX10_of 101 = .ok (.ireturn, 1) := by decide +kernel
theorem dX10_of_102 : decode cX10_of 102 = .ok (.aload_n 0, 1) := by decide +kernel
theorem dX10_of_103 : decode cX10_of 103 = .ok (.getfield 39, 3) := by decide +kernel
theorem dX10_of_106 : decode cX10_of 106 = .ok (.iconst 4, 1) := by decide +kernel
theorem dX10_of_107 : decode cX10_of 107 = .ok (.iload_n 1, 1) := by decide +kernel
theorem dX10_of_108 : decode cX10_of 108 = .ok (.imul, 1) := by decide +kernel
theorem dX10_of_109 : decode cX10_of 109 = .ok (.iload_n 2, 1) := by decide +kernel
theorem dX10_of_110 : decode cX10_of 110 = .ok (.iadd, 1) := by decide +kernel
theorem dX10_of_111 : decode cX10_of 111 = .ok (.iconst 5, 1) := by decide +kernel
theorem dX10_of_112 : decode cX10_of 112 = .ok (.isub, 1) := by decide +kernel
theorem dX10_of_113 : decode cX10_of 113 = .ok (.iaload, 1) := by decide +kernel
theorem dX10_of_114 : decode cX10_of 114 = .ok (.ireturn, 1) := by decide +kernel
theorem dX10_weigh_0 : decode cX10_weigh 0 = .ok (.iconst 2, 1) := by decide +kernel
theorem dX10_weigh_1 : decode cX10_weigh 1 = .ok (.aload_n 0, 1) := by decide +kernel
theorem dX10_weigh_2 : decode cX10_weigh 2 = .ok (.getfield 30, 3) := by decide +kernel
theorem dX10_weigh_5 : decode cX10_weigh 5 = .ok (.iload_n 1, 1) := by decide +kernel
theorem dX10_weigh_6 : decode cX10_weigh 6 = .ok (.iaload, 1) := by decide +kernel
theorem dX10_weigh_7 : decode cX10_weigh 7 = .ok (.iadd, 1) := by decide +kernel
theorem dX10_weigh_8 : decode cX10_weigh 8 = .ok (.istore_n 2, 1) := by decide +kernel
theorem dX10_weigh_9 : decode cX10_weigh 9 = .ok (.aload_n 0, 1) := by decide +kernel
theorem dX10_weigh_10 : decode cX10_weigh 10 = .ok (.getfield 27, 3) := by decide +kernel
theorem dX10_weigh_13 : decode cX10_weigh 13 = .ok (.iload_n 1, 1) := by decide +kernel
theorem dX10_weigh_14 : decode cX10_weigh 14 = .ok (.iaload, 1) := by decide +kernel
theorem dX10_weigh_15 : decode cX10_weigh 15 = .ok (.istore_n 3, 1) := by decide +kernel
theorem dX10_weigh_16 : decode cX10_weigh 16 = .ok (.iload_n 3, 1) := by decide +kernel
theorem dX10_weigh_17 : decode cX10_weigh 17 = .ok (.invokestatic 195, 3) := by decide +kernel
theorem dX10_weigh_20 : decode cX10_weigh 20 = .ok (.ifCond .eq 22, 3) := by decide +kernel
theorem dX10_weigh_23 : decode cX10_weigh 23 = .ok (.iload_n 3, 1) := by decide +kernel
theorem dX10_weigh_24 : decode cX10_weigh 24 = .ok (.iconst 3, 1) := by decide +kernel
theorem dX10_weigh_25 : decode cX10_weigh 25 = .ok (.if_icmp .ne 11, 3) := by decide +kernel
theorem dX10_weigh_28 : decode cX10_weigh 28 = .ok (.iconst 2, 1) := by decide +kernel
theorem dX10_weigh_29 : decode cX10_weigh 29 = .ok (.iload_n 2, 1) := by decide +kernel
theorem dX10_weigh_30 : decode cX10_weigh 30 = .ok (.imul, 1) := by decide +kernel
theorem dX10_weigh_31 : decode cX10_weigh 31 = .ok (.iconst 1, 1) := by decide +kernel
theorem dX10_weigh_32 : decode cX10_weigh 32 = .ok (.iadd, 1) := by decide +kernel
theorem dX10_weigh_33 : decode cX10_weigh 33 = .ok (.goto 26, 3) := by decide +kernel
theorem dX10_weigh_36 : decode cX10_weigh 36 = .ok (.iconst 2, 1) := by decide +kernel
theorem dX10_weigh_37 : decode cX10_weigh 37 = .ok (.iload_n 2, 1) := by decide +kernel
theorem dX10_weigh_38 : decode cX10_weigh 38 = .ok (.imul, 1) := by decide +kernel
theorem dX10_weigh_39 : decode cX10_weigh 39 = .ok (.goto 20, 3) := by decide +kernel
theorem dX10_weigh_42 : decode cX10_weigh 42 = .ok (.iload_n 3, 1) := by decide +kernel
theorem dX10_weigh_43 : decode cX10_weigh 43 = .ok (.iconst 5, 1) := by decide +kernel
theorem dX10_weigh_44 : decode cX10_weigh 44 = .ok (.if_icmp .ne 14, 3) := by decide +kernel
theorem dX10_weigh_47 : decode cX10_weigh 47 = .ok (.iload_n 2, 1) := by decide +kernel
theorem dX10_weigh_48 : decode cX10_weigh 48 = .ok (.aload_n 0, 1) := by decide +kernel
theorem dX10_weigh_49 : decode cX10_weigh 49 = .ok (.getfield 36, 3) := by decide +kernel
theorem dX10_weigh_52 : decode cX10_weigh 52 = .ok (.iload_n 1, 1) := by decide +kernel
theorem dX10_weigh_53 : decode cX10_weigh 53 = .ok (.iaload, 1) := by decide +kernel
theorem dX10_weigh_54 : decode cX10_weigh 54 = .ok (.isub, 1) := by decide +kernel
theorem dX10_weigh_55 : decode cX10_weigh 55 = .ok (.goto 4, 3) := by decide +kernel
theorem dX10_weigh_58 : decode cX10_weigh 58 = .ok (.iload_n 2, 1) := by decide +kernel
theorem dX10_weigh_59 : decode cX10_weigh 59 = .ok (.ireturn, 1) := by decide +kernel
theorem dX10_take_0 : decode cX10_take 0 = .ok (.aload_n 0, 1) := by decide +kernel
theorem dX10_take_1 : decode cX10_take 1 = .ok (.getfield 27, 3) := by decide +kernel
theorem dX10_take_4 : decode cX10_take 4 = .ok (.iload_n 1, 1) := by decide +kernel
theorem dX10_take_5 : decode cX10_take 5 = .ok (.iaload, 1) := by decide +kernel
theorem dX10_take_6 : decode cX10_take 6 = .ok (.istore_n 3, 1) := by decide +kernel
theorem dX10_take_7 : decode cX10_take 7 = .ok (.iload_n 3, 1) := by decide +kernel
theorem dX10_take_8 : decode cX10_take 8 = .ok (.iconst 2, 1) := by decide +kernel
theorem dX10_take_9 : decode cX10_take 9 = .ok (.if_icmp .eq 8, 3) := by decide +kernel
theorem dX10_take_12 : decode cX10_take 12 = .ok (.iload_n 3, 1) := by decide +kernel
theorem dX10_take_13 : decode cX10_take 13 = .ok (.iconst 3, 1) := by decide +kernel
theorem dX10_take_14 : decode cX10_take 14 = .ok (.if_icmp .ne 13, 3) := by decide +kernel
theorem dX10_take_17 : decode cX10_take 17 = .ok (.aload_n 0, 1) := by decide +kernel
theorem dX10_take_18 : decode cX10_take 18 = .ok (.getfield 36, 3) := by decide +kernel
theorem dX10_take_21 : decode cX10_take 21 = .ok (.iload_n 1, 1) := by decide +kernel
theorem dX10_take_22 : decode cX10_take 22 = .ok (.dup2, 1) := by decide +kernel
theorem dX10_take_23 : decode cX10_take 23 = .ok (.iaload, 1) := by decide +kernel
theorem dX10_take_24 : decode cX10_take 24 = .ok (.iconst 1, 1) := by decide +kernel
theorem dX10_take_25 : decode cX10_take 25 = .ok (.iadd, 1) := by decide +kernel
theorem dX10_take_26 : decode cX10_take 26 = .ok (.iastore, 1) := by decide +kernel
theorem dX10_take_27 : decode cX10_take 27 = .ok (.iload_n 3, 1) := by decide +kernel
theorem dX10_take_28 : decode cX10_take 28 = .ok (.invokestatic 195, 3) := by decide +kernel
theorem dX10_take_31 : decode cX10_take 31 = .ok (.ifCond .eq 30, 3) := by decide +kernel
theorem dX10_take_34 : decode cX10_take 34 = .ok (.aload_n 0, 1) := by decide +kernel
theorem dX10_take_35 : decode cX10_take 35 = .ok (.getfield 30, 3) := by decide +kernel
theorem dX10_take_38 : decode cX10_take 38 = .ok (.iload_n 1, 1) := by decide +kernel
theorem dX10_take_39 : decode cX10_take 39 = .ok (.iaload, 1) := by decide +kernel
theorem dX10_take_40 : decode cX10_take 40 = .ok (.iload_n 2, 1) := by decide +kernel
theorem dX10_take_41 : decode cX10_take 41 = .ok (.iadd, 1) := by decide +kernel
theorem dX10_take_42 : decode cX10_take 42 = .ok (.bipush 9, 2) := by decide +kernel
theorem dX10_take_44 : decode cX10_take 44 = .ok (.if_icmp .le 17, 3) := by decide +kernel
theorem dX10_take_47 : decode cX10_take 47 = .ok (.aload_n 0, 1) := by decide +kernel
theorem dX10_take_48 : decode cX10_take 48 = .ok (.bipush 11, 2) := by decide +kernel
theorem dX10_take_50 : decode cX10_take 50 = .ok (.putfield 198, 3) := by decide +kernel
theorem dX10_take_53 : decode cX10_take 53 = .ok (.aload_n 0, 1) := by decide +kernel
theorem dX10_take_54 : decode cX10_take 54 = .ok (.ldc2_w 201, 3) := by decide +kernel
theorem dX10_take_57 : decode cX10_take 57 = .ok (.putfield 203, 3) := by decide +kernel
theorem dX10_take_60 : decode cX10_take 60 = .ok (.return_, 1) := by decide +kernel
theorem dX10_take_61 : decode cX10_take 61 = .ok (.aload_n 0, 1) := by decide +kernel
theorem dX10_take_62 : decode cX10_take 62 = .ok (.getfield 30, 3) := by decide +kernel
theorem dX10_take_65 : decode cX10_take 65 = .ok (.iload_n 1, 1) := by decide +kernel
theorem dX10_take_66 : decode cX10_take 66 = .ok (.dup2, 1) := by decide +kernel
theorem dX10_take_67 : decode cX10_take 67 = .ok (.iaload, 1) := by decide +kernel
theorem dX10_take_68 : decode cX10_take 68 = .ok (.iload_n 2, 1) := by decide +kernel
theorem dX10_take_69 : decode cX10_take 69 = .ok (.iadd, 1) := by decide +kernel
theorem dX10_take_70 : decode cX10_take 70 = .ok (.iastore, 1) := by decide +kernel
theorem dX10_take_71 : decode cX10_take 71 = .ok (.iload_n 3, 1) := by decide +kernel
theorem dX10_take_72 : decode cX10_take 72 = .ok (.iconst 3, 1) := by decide +kernel
theorem dX10_take_73 : decode cX10_take 73 = .ok (.if_icmp .le 10, 3) := by decide +kernel
theorem dX10_take_76 : decode cX10_take 76 = .ok (.aload_n 0, 1) := by decide +kernel
theorem dX10_take_77 : decode cX10_take 77 = .ok (.getfield 33, 3) := by decide +kernel
theorem dX10_take_80 : decode cX10_take 80 = .ok (.iload_n 1, 1) := by decide +kernel
theorem dX10_take_81 : decode cX10_take 81 = .ok (.iload_n 2, 1) := by decide +kernel
theorem dX10_take_82 : decode cX10_take 82 = .ok (.iastore, 1) := by decide +kernel
theorem dX10_take_83 : decode cX10_take 83 = .ok (.aload_n 0, 1) := by decide +kernel
theorem dX10_take_84 : decode cX10_take 84 = .ok (.iload_n 3, 1) := by decide +kernel
theorem dX10_take_85 : decode cX10_take 85 = .ok (.iconst 5, 1) := by decide +kernel
theorem dX10_take_86 : decode cX10_take 86 = .ok (.if_icmp .ne 12, 3) := by decide +kernel
theorem dX10_take_89 : decode cX10_take 89 = .ok (.aload_n 0, 1) := by decide +kernel
theorem dX10_take_90 : decode cX10_take 90 = .ok (.getfield 33, 3) := by decide +kernel
theorem dX10_take_93 : decode cX10_take 93 = .ok (.iload_n 1, 1) := by decide +kernel
theorem dX10_take_94 : decode cX10_take 94 = .ok (.iaload, 1) := by decide +kernel
theorem dX10_take_95 : decode cX10_take 95 = .ok (.goto 9, 3) := by decide +kernel
theorem dX10_take_98 : decode cX10_take 98 = .ok (.aload_n 0, 1) := by decide +kernel
theorem dX10_take_99 : decode cX10_take 99 = .ok (.getfield 30, 3) := by decide +kernel
theorem dX10_take_102 : decode cX10_take 102 = .ok (.iload_n 1, 1) := by decide +kernel
theorem dX10_take_103 : decode cX10_take 103 = .ok (.iaload, 1) := by decide +kernel
theorem dX10_take_104 : decode cX10_take 104 = .ok (.putfield 207, 3) := by decide +kernel
theorem dX10_take_107 : decode cX10_take 107 = .ok (.return_, 1) := by decide +kernel
theorem dX10_message_0 : decode cX10_message 0 = .ok (.aload_n 0, 1) := by decide +kernel
theorem dX10_message_1 : decode cX10_message 1 = .ok (.getfield 27, 3) := by decide +kernel
theorem dX10_message_4 : decode cX10_message 4 = .ok (.iload_n 1, 1) := by decide +kernel
theorem dX10_message_5 : decode cX10_message 5 = .ok (.iaload, 1) := by decide +kernel
theorem dX10_message_6 : decode cX10_message 6 = .ok (.istore 4, 2) := by decide +kernel
theorem dX10_message_8 : decode cX10_message 8 = .ok (.aload_n 0, 1) := by decide +kernel
theorem dX10_message_9 : decode cX10_message 9 = .ok (.iconst 0, 1) := by decide +kernel
theorem dX10_message_10 : decode cX10_message 10 = .ok (.putfield 198, 3) := by decide +kernel
theorem dX10_message_13 : decode cX10_message 13 = .ok (.aload_n 0, 1) := by decide +kernel
theorem dX10_message_14 : decode cX10_message 14 = .ok (.lconst 0, 1) := by decide +kernel
theorem dX10_message_15 : decode cX10_message 15 = .ok (.putfield 203, 3) := by decide +kernel
theorem dX10_message_18 : decode cX10_message 18 = .ok (.aload_n 0, 1) := by decide +kernel
theorem dX10_message_19 : decode cX10_message 19 = .ok (.iconst 0, 1) := by decide +kernel
theorem dX10_message_20 : decode cX10_message 20 = .ok (.putfield 207, 3) := by decide +kernel
theorem dX10_message_23 : decode cX10_message 23 = .ok (.iload_n 2, 1) := by decide +kernel
theorem dX10_message_24 : decode cX10_message 24 = .ok (.tableswitch 223 0 6 #[44, 56, 65, 111, 160, 173, 203], 44) := by decide +kernel
theorem dX10_message_68 : decode cX10_message 68 = .ok (.aload_n 0, 1) := by decide +kernel
theorem dX10_message_69 : decode cX10_message 69 = .ok (.aload_n 0, 1) := by decide +kernel
theorem dX10_message_70 : decode cX10_message 70 = .ok (.iload_n 1, 1) := by decide +kernel
theorem dX10_message_71 : decode cX10_message 71 = .ok (.invokevirtual 210, 3) := by decide +kernel
theorem dX10_message_74 : decode cX10_message 74 = .ok (.putfield 207, 3) := by decide +kernel
theorem dX10_message_77 : decode cX10_message 77 = .ok (.goto 226, 3) := by decide +kernel
theorem dX10_message_80 : decode cX10_message 80 = .ok (.aload_n 0, 1) := by decide +kernel
theorem dX10_message_81 : decode cX10_message 81 = .ok (.iload_n 1, 1) := by decide +kernel
theorem dX10_message_82 : decode cX10_message 82 = .ok (.iload_n 3, 1) := by decide +kernel
theorem dX10_message_83 : decode cX10_message 83 = .ok (.invokevirtual 213, 3) := by decide +kernel
theorem dX10_message_86 : decode cX10_message 86 = .ok (.goto 217, 3) := by decide +kernel
theorem dX10_message_89 : decode cX10_message 89 = .ok (.aload_n 0, 1) := by decide +kernel
theorem dX10_message_90 : decode cX10_message 90 = .ok (.iload 4, 2) := by decide +kernel
theorem dX10_message_92 : decode cX10_message 92 = .ok (.iconst 4, 1) := by decide +kernel
theorem dX10_message_93 : decode cX10_message 93 = .ok (.if_icmp .ge 7, 3) := by decide +kernel
theorem dX10_message_96 : decode cX10_message 96 = .ok (.iconst 3, 1) := by decide +kernel
theorem dX10_message_97 : decode cX10_message 97 = .ok (.goto 4, 3) := by decide +kernel
theorem dX10_message_100 : decode cX10_message 100 = .ok (.iconst 0, 1) := by decide +kernel
theorem dX10_message_101 : decode cX10_message 101 = .ok (.putfield 198, 3) := by decide +kernel
theorem dX10_message_104 : decode cX10_message 104 = .ok (.aload_n 0, 1) := by decide +kernel
theorem dX10_message_105 : decode cX10_message 105 = .ok (.iload 4, 2) := by decide +kernel
theorem dX10_message_107 : decode cX10_message 107 = .ok (.iconst 4, 1) := by decide +kernel
theorem dX10_message_108 : decode cX10_message 108 = .ok (.if_icmp .ne 13, 3) := by decide +kernel
theorem dX10_message_111 : decode cX10_message 111 = .ok (.iconst 5, 1) := by decide +kernel
theorem dX10_message_112 : decode cX10_message 112 = .ok (.aload_n 0, 1) := by decide +kernel
theorem dX10_message_113 : decode cX10_message 113 = .ok (.iload_n 1, 1) := by decide +kernel
theorem dX10_message_114 : decode cX10_message 114 = .ok (.invokevirtual 210, 3) := by decide +kernel
theorem dX10_message_117 : decode cX10_message 117 = .ok (.iadd, 1) := by decide +kernel
theorem dX10_message_118 : decode cX10_message 118 = .ok (.goto 11, 3) := by decide +kernel
theorem dX10_message_121 : decode cX10_message 121 = .ok (.iconst 3, 1) := by decide +kernel
theorem dX10_message_122 : decode cX10_message 122 = .ok (.aload_n 0, 1) := by decide +kernel
theorem dX10_message_123 : decode cX10_message 123 = .ok (.getfield 30, 3) := by decide +kernel
theorem dX10_message_126 : decode cX10_message 126 = .ok (.iload_n 1, 1) := by decide +kernel
theorem dX10_message_127 : decode cX10_message 127 = .ok (.iaload, 1) := by decide +kernel
theorem dX10_message_128 : decode cX10_message 128 = .ok (.imul, 1) := by decide +kernel
theorem dX10_message_129 : decode cX10_message 129 = .ok (.putfield 207, 3) := by decide +kernel
theorem dX10_message_132 : decode cX10_message 132 = .ok (.goto 171, 3) := by decide +kernel
theorem dX10_message_135 : decode cX10_message 135 = .ok (.aload_n 0, 1) := by decide +kernel
theorem dX10_message_136 : decode cX10_message 136 = .ok (.iload 4, 2) := by decide +kernel
theorem dX10_message_138 : decode cX10_message 138 = .ok (.invokestatic 195, 3) := by decide +kernel
theorem dX10_message_141 : decode cX10_message 141 = .ok (.ifCond .eq 7, 3) := by decide +kernel
theorem dX10_message_144 : decode cX10_message 144 = .ok (.iconst 0, 1) := by decide +kernel
theorem dX10_message_145 : decode cX10_message 145 = .ok (.goto 5, 3) := by decide +kernel
theorem dX10_message_148 : decode cX10_message 148 = .ok (.bipush 12, 2) := by decide +kernel
theorem dX10_message_150 : decode cX10_message 150 = .ok (.putfield 198, 3) := by decide +kernel
theorem dX10_message_153 : decode cX10_message 153 = .ok (.aload_n 0, 1) := by decide +kernel
theorem dX10_message_154 : decode cX10_message 154 = .ok (.iload 4, 2) := by decide +kernel
theorem dX10_message_156 : decode cX10_message 156 = .ok (.iconst 1, 1) := by decide +kernel
theorem dX10_message_157 : decode cX10_message 157 = .ok (.if_icmp .ne 12, 3) := by decide +kernel
theorem dX10_message_160 : decode cX10_message 160 = .ok (.aload_n 0, 1) := by decide +kernel
theorem dX10_message_161 : decode cX10_message 161 = .ok (.getfield 36, 3) := by decide +kernel
theorem dX10_message_164 : decode cX10_message 164 = .ok (.iload_n 1, 1) := by decide +kernel
theorem dX10_message_165 : decode cX10_message 165 = .ok (.iaload, 1) := by decide +kernel
theorem dX10_message_166 : decode cX10_message 166 = .ok (.goto 12, 3) := by decide +kernel
theorem dX10_message_169 : decode cX10_message 169 = .ok (.bipush 100, 2) := by decide +kernel
theorem dX10_message_171 : decode cX10_message 171 = .ok (.aload_n 0, 1) := by decide +kernel
theorem dX10_message_172 : decode cX10_message 172 = .ok (.getfield 36, 3) := by decide +kernel
theorem dX10_message_175 : decode cX10_message 175 = .ok (.iload_n 1, 1) := by decide +kernel
theorem dX10_message_176 : decode cX10_message 176 = .ok (.iaload, 1) := by decide +kernel
theorem dX10_message_177 : decode cX10_message 177 = .ok (.iadd, 1) := by decide +kernel
theorem dX10_message_178 : decode cX10_message 178 = .ok (.putfield 207, 3) := by decide +kernel
theorem dX10_message_181 : decode cX10_message 181 = .ok (.goto 122, 3) := by decide +kernel
theorem dX10_message_184 : decode cX10_message 184 = .ok (.aload_n 0, 1) := by decide +kernel
theorem dX10_message_185 : decode cX10_message 185 = .ok (.aload_n 0, 1) := by decide +kernel
theorem dX10_message_186 : decode cX10_message 186 = .ok (.getfield 33, 3) := by decide +kernel
theorem dX10_message_189 : decode cX10_message 189 = .ok (.iload_n 1, 1) := by decide +kernel
theorem dX10_message_190 : decode cX10_message 190 = .ok (.iaload, 1) := by decide +kernel
theorem dX10_message_191 : decode cX10_message 191 = .ok (.putfield 207, 3) := by decide +kernel
theorem dX10_message_194 : decode cX10_message 194 = .ok (.goto 109, 3) := by decide +kernel
theorem dX10_message_197 : decode cX10_message 197 = .ok (.aload_n 0, 1) := by decide +kernel
theorem dX10_message_198 : decode cX10_message 198 = .ok (.iload 4, 2) := by decide +kernel
theorem dX10_message_200 : decode cX10_message 200 = .ok (.invokestatic 195, 3) := by decide +kernel
theorem dX10_message_203 : decode cX10_message 203 = .ok (.ifCond .eq 7, 3) := by decide +kernel
theorem dX10_message_206 : decode cX10_message 206 = .ok (.iconst 0, 1) := by decide +kernel
theorem dX10_message_207 : decode cX10_message 207 = .ok (.goto 4, 3) := by decide +kernel
theorem dX10_message_210 : decode cX10_message 210 = .ok (.iconst 3, 1) := by decide +kernel
theorem dX10_message_211 : decode cX10_message 211 = .ok (.putfield 198, 3) := by decide +kernel
theorem dX10_message_214 : decode cX10_message 214 = .ok (.aload_n 0, 1) := by decide +kernel
theorem dX10_message_215 : decode cX10_message 215 = .ok (.aload_n 0, 1) := by decide +kernel
theorem dX10_message_216 : decode cX10_message 216 = .ok (.getfield 36, 3) := by decide +kernel
theorem dX10_message_219 : decode cX10_message 219 = .ok (.iload_n 1, 1) := by decide +kernel
theorem dX10_message_220 : decode cX10_message 220 = .ok (.iaload, 1) := by decide +kernel
theorem dX10_message_221 : decode cX10_message 221 = .ok (.putfield 207, 3) := by decide +kernel
theorem dX10_message_224 : decode cX10_message 224 = .ok (.goto 79, 3) := by decide +kernel
theorem dX10_message_227 : decode cX10_message 227 = .ok (.aload_n 0, 1) := by decide +kernel
theorem dX10_message_228 : decode cX10_message 228 = .ok (.aload_n 0, 1) := by decide +kernel
theorem dX10_message_229 : decode cX10_message 229 = .ok (.getfield 33, 3) := by decide +kernel
theorem dX10_message_232 : decode cX10_message 232 = .ok (.iload_n 1, 1) := by decide +kernel
theorem dX10_message_233 : decode cX10_message 233 = .ok (.iaload, 1) := by decide +kernel
theorem dX10_message_234 : decode cX10_message 234 = .ok (.putfield 207, 3) := by decide +kernel
theorem dX10_message_237 : decode cX10_message 237 = .ok (.aload_n 0, 1) := by decide +kernel
theorem dX10_message_238 : decode cX10_message 238 = .ok (.getfield 33, 3) := by decide +kernel
theorem dX10_message_241 : decode cX10_message 241 = .ok (.iload_n 1, 1) := by decide +kernel
theorem dX10_message_242 : decode cX10_message 242 = .ok (.iload_n 3, 1) := by decide +kernel
theorem dX10_message_243 : decode cX10_message 243 = .ok (.iastore, 1) := by decide +kernel
theorem dX10_message_244 : decode cX10_message 244 = .ok (.goto 59, 3) := by decide +kernel
theorem dX10_message_247 : decode cX10_message 247 = .ok (.aload_n 0, 1) := by decide +kernel
theorem dX10_message_248 : decode cX10_message 248 = .ok (.iload_n 2, 1) := by decide +kernel
theorem dX10_message_249 : decode cX10_message 249 = .ok (.bipush 7, 2) := by decide +kernel
theorem dX10_message_251 : decode cX10_message 251 = .ok (.if_icmp .ne 14, 3) := by decide +kernel
theorem dX10_message_254 : decode cX10_message 254 = .ok (.iload 4, 2) := by decide +kernel
theorem dX10_message_256 : decode cX10_message 256 = .ok (.invokestatic 195, 3) := by decide +kernel
theorem dX10_message_259 : decode cX10_message 259 = .ok (.ifCond .eq 16, 3) := by decide +kernel
theorem dX10_message_262 : decode cX10_message 262 = .ok (.goto 9, 3) := by decide +kernel
theorem dX10_message_265 : decode cX10_message 265 = .ok (.iload 4, 2) := by decide +kernel
theorem dX10_message_267 : decode cX10_message 267 = .ok (.iconst 5, 1) := by decide +kernel
theorem dX10_message_268 : decode cX10_message 268 = .ok (.if_icmp .ne 7, 3) := by decide +kernel
theorem dX10_message_271 : decode cX10_message 271 = .ok (.iconst 0, 1) := by decide +kernel
theorem dX10_message_272 : decode cX10_message 272 = .ok (.goto 4, 3) := by decide +kernel
theorem dX10_message_275 : decode cX10_message 275 = .ok (.iconst 3, 1) := by decide +kernel
theorem dX10_message_276 : decode cX10_message 276 = .ok (.putfield 198, 3) := by decide +kernel
theorem dX10_message_279 : decode cX10_message 279 = .ok (.aload_n 0, 1) := by decide +kernel
theorem dX10_message_280 : decode cX10_message 280 = .ok (.getfield 198, 3) := by decide +kernel
theorem dX10_message_283 : decode cX10_message 283 = .ok (.ifCond .ne 20, 3) := by decide +kernel
theorem dX10_message_286 : decode cX10_message 286 = .ok (.aload_n 0, 1) := by decide +kernel
theorem dX10_message_287 : decode cX10_message 287 = .ok (.aload_n 0, 1) := by decide +kernel
theorem dX10_message_288 : decode cX10_message 288 = .ok (.getfield 36, 3) := by decide +kernel
theorem dX10_message_291 : decode cX10_message 291 = .ok (.iload_n 1, 1) := by decide +kernel
theorem dX10_message_292 : decode cX10_message 292 = .ok (.iaload, 1) := by decide +kernel
theorem dX10_message_293 : decode cX10_message 293 = .ok (.putfield 207, 3) := by decide +kernel
theorem dX10_message_296 : decode cX10_message 296 = .ok (.aload_n 0, 1) := by decide +kernel
theorem dX10_message_297 : decode cX10_message 297 = .ok (.getfield 36, 3) := by decide +kernel
theorem dX10_message_300 : decode cX10_message 300 = .ok (.iload_n 1, 1) := by decide +kernel
theorem dX10_message_301 : decode cX10_message 301 = .ok (.iload_n 3, 1) := by decide +kernel
theorem dX10_message_302 : decode cX10_message 302 = .ok (.iastore, 1) := by decide +kernel
theorem dX10_message_303 : decode cX10_message 303 = .ok (.return_, 1) := by decide +kernel
theorem dX10_isRoutine_0 : decode cX10_isRoutine 0 = .ok (.iload_n 1, 1) := by decide +kernel
theorem dX10_isRoutine_1 : decode cX10_isRoutine 1 = .ok (.i2l, 1) := by decide +kernel
theorem dX10_isRoutine_2 : decode cX10_isRoutine 2 = .ok (.lconst 0, 1) := by decide +kernel
theorem dX10_isRoutine_3 : decode cX10_isRoutine 3 = .ok (.aload_n 0, 1) := by decide +kernel
theorem dX10_isRoutine_4 : decode cX10_isRoutine 4 = .ok (.getfield 217, 3) := by decide +kernel
theorem dX10_isRoutine_7 : decode cX10_isRoutine 7 = .ok (.iconst 1, 1) := by decide +kernel
theorem dX10_isRoutine_8 : decode cX10_isRoutine 8 = .ok (.isub, 1) := by decide +kernel
theorem dX10_isRoutine_9 : decode cX10_isRoutine 9 = .ok (.i2l, 1) := by decide +kernel
theorem dX10_isRoutine_10 : decode cX10_isRoutine 10 = .ok (.invokestatic 139, 3) := by decide +kernel
theorem dX10_isRoutine_13 : decode cX10_isRoutine 13 = .ok (.ireturn, 1) := by decide +kernel
theorem dX10_routine_0 : decode cX10_routine 0 = .ok (.iload_n 1, 1) := by decide +kernel
theorem dX10_routine_1 : decode cX10_routine 1 = .ok (.i2l, 1) := by decide +kernel
theorem dX10_routine_2 : decode cX10_routine 2 = .ok (.lconst 1, 1) := by decide +kernel
theorem dX10_routine_3 : decode cX10_routine 3 = .ok (.ldc2_w 220, 3) := by decide +kernel
theorem dX10_routine_6 : decode cX10_routine 6 = .ok (.invokestatic 139, 3) := by decide +kernel
theorem dX10_routine_9 : decode cX10_routine 9 = .ok (.ifCond .ne 6, 3) := by decide +kernel
theorem dX10_routine_12 : decode cX10_routine 12 = .ok (.ldc 163, 2) := by decide +kernel
theorem dX10_routine_14 : decode cX10_routine 14 = .ok (.ireturn, 1) := by decide +kernel
theorem dX10_routine_15 : decode cX10_routine 15 = .ok (.aload_n 0, 1) := by decide +kernel
theorem dX10_routine_16 : decode cX10_routine 16 = .ok (.getfield 217, 3) := by decide +kernel
theorem dX10_routine_19 : decode cX10_routine 19 = .ok (.bipush 12, 2) := by decide +kernel
theorem dX10_routine_21 : decode cX10_routine 21 = .ok (.if_icmp .ne 6, 3) := by decide +kernel
theorem dX10_routine_24 : decode cX10_routine 24 = .ok (.ldc 187, 2) := by decide +kernel
theorem dX10_routine_26 : decode cX10_routine 26 = .ok (.ireturn, 1) := by decide +kernel
theorem dX10_routine_27 : decode cX10_routine 27 = .ok (.aload_n 0, 1) := by decide +kernel
theorem dX10_routine_28 : decode cX10_routine 28 = .ok (.getfield 42, 3) := by decide +kernel
theorem dX10_routine_31 : decode cX10_routine 31 = .ok (.aload_n 0, 1) := by decide +kernel
theorem dX10_routine_32 : decode cX10_routine 32 = .ok (.getfield 217, 3) := by decide +kernel
theorem dX10_routine_35 : decode cX10_routine 35 = .ok (.iload_n 1, 1) := by decide +kernel
theorem dX10_routine_36 : decode cX10_routine 36 = .ok (.iastore, 1) := by decide +kernel
theorem dX10_routine_37 : decode cX10_routine 37 = .ok (.aload_n 0, 1) := by decide +kernel
theorem dX10_routine_38 : decode cX10_routine 38 = .ok (.getfield 45, 3) := by decide +kernel
theorem dX10_routine_41 : decode cX10_routine 41 = .ok (.aload_n 0, 1) := by decide +kernel
theorem dX10_routine_42 : decode cX10_routine 42 = .ok (.getfield 217, 3) := by decide +kernel
theorem dX10_routine_45 : decode cX10_routine 45 = .ok (.iconst 0, 1) := by decide +kernel
theorem dX10_routine_46 : decode cX10_routine 46 = .ok (.iastore, 1) := by decide +kernel
theorem dX10_routine_47 : decode cX10_routine 47 = .ok (.aload_n 0, 1) := by decide +kernel
theorem dX10_routine_48 : decode cX10_routine 48 = .ok (.getfield 48, 3) := by decide +kernel
theorem dX10_routine_51 : decode cX10_routine 51 = .ok (.aload_n 0, 1) := by decide +kernel
theorem dX10_routine_52 : decode cX10_routine 52 = .ok (.getfield 217, 3) := by decide +kernel
theorem dX10_routine_55 : decode cX10_routine 55 = .ok (.iconst 0, 1) := by decide +kernel
theorem dX10_routine_56 : decode cX10_routine 56 = .ok (.iastore, 1) := by decide +kernel
theorem dX10_routine_57 : decode cX10_routine 57 = .ok (.aload_n 0, 1) := by decide +kernel
theorem dX10_routine_58 : decode cX10_routine 58 = .ok (.getfield 51, 3) := by decide +kernel
theorem dX10_routine_61 : decode cX10_routine 61 = .ok (.aload_n 0, 1) := by decide +kernel
theorem dX10_routine_62 : decode cX10_routine 62 = .ok (.getfield 217, 3) := by decide +kernel
theorem dX10_routine_65 : decode cX10_routine 65 = .ok (.iconst (-1), 1) := by decide +kernel
theorem dX10_routine_66 : decode cX10_routine 66 = .ok (.iastore, 1) := by decide +kernel
theorem dX10_routine_67 : decode cX10_routine 67 = .ok (.aload_n 0, 1) := by decide +kernel
theorem dX10_routine_68 : decode cX10_routine 68 = .ok (.dup, 1) := by decide +kernel
theorem dX10_routine_69 : decode cX10_routine 69 = .ok (.getfield 217, 3) := by decide +kernel
theorem dX10_routine_72 : decode cX10_routine 72 = .ok (.iconst 1, 1) := by decide +kernel
theorem dX10_routine_73 : decode cX10_routine 73 = .ok (.iadd, 1) := by decide +kernel
theorem dX10_routine_74 : decode cX10_routine 74 = .ok (.putfield 217, 3) := by decide +kernel
theorem dX10_routine_77 : decode cX10_routine 77 = .ok (.aload_n 0, 1) := by decide +kernel
theorem dX10_routine_78 : decode cX10_routine 78 = .ok (.getfield 217, 3) := by decide +kernel
theorem dX10_routine_81 : decode cX10_routine 81 = .ok (.iconst 1, 1) := by decide +kernel
theorem dX10_routine_82 : decode cX10_routine 82 = .ok (.isub, 1) := by decide +kernel
theorem dX10_routine_83 : decode cX10_routine 83 = .ok (.ireturn, 1) := by decide +kernel
theorem dX10_isOp_0 : decode cX10_isOp 0 = .ok (.iload_n 2, 1) := by decide +kernel
theorem dX10_isOp_1 : decode cX10_isOp 1 = .ok (.i2l, 1) := by decide +kernel
theorem dX10_isOp_2 : decode cX10_isOp 2 = .ok (.lconst 0, 1) := by decide +kernel
theorem dX10_isOp_3 : decode cX10_isOp 3 = .ok (.ldc2_w 222, 3) := by decide +kernel
theorem dX10_isOp_6 : decode cX10_isOp 6 = .ok (.invokestatic 139, 3) := by decide +kernel
theorem dX10_isOp_9 : decode cX10_isOp 9 = .ok (.ifCond .ne 5, 3) := by decide +kernel
theorem dX10_isOp_12 : decode cX10_isOp 12 = .ok (.iconst 0, 1) := by decide +kernel
theorem dX10_isOp_13 : decode cX10_isOp 13 = .ok (.ireturn, 1) := by decide +kernel
theorem dX10_isOp_14 : decode cX10_isOp 14 = .ok (.iload_n 2, 1) := by decide +kernel
theorem dX10_isOp_15 : decode cX10_isOp 15 = .ok (.iconst 1, 1) := by decide +kernel
theorem dX10_isOp_16 : decode cX10_isOp 16 = .ok (.if_icmp .eq 8, 3) := by decide +kernel
theorem dX10_isOp_19 : decode cX10_isOp 19 = .ok (.iload_n 2, 1) := by decide +kernel
theorem dX10_isOp_20 : decode cX10_isOp 20 = .ok (.iconst 2, 1) := by decide +kernel
theorem dX10_isOp_21 : decode cX10_isOp 21 = .ok (.if_icmp .ne 19, 3) := by decide +kernel
theorem dX10_isOp_24 : decode cX10_isOp 24 = .ok (.iload_n 3, 1) := by decide +kernel
theorem dX10_isOp_25 : decode cX10_isOp 25 = .ok (.i2l, 1) := by decide +kernel
theorem dX10_isOp_26 : decode cX10_isOp 26 = .ok (.lconst 0, 1) := by decide +kernel
theorem dX10_isOp_27 : decode cX10_isOp 27 = .ok (.aload_n 0, 1) := by decide +kernel
theorem dX10_isOp_28 : decode cX10_isOp 28 = .ok (.getfield 42, 3) := by decide +kernel
theorem dX10_isOp_31 : decode cX10_isOp 31 = .ok (.iload_n 1, 1) := by decide +kernel
theorem dX10_isOp_32 : decode cX10_isOp 32 = .ok (.iaload, 1) := by decide +kernel
theorem dX10_isOp_33 : decode cX10_isOp 33 = .ok (.iconst 1, 1) := by decide +kernel
theorem dX10_isOp_34 : decode cX10_isOp 34 = .ok (.isub, 1) := by decide +kernel
theorem dX10_isOp_35 : decode cX10_isOp 35 = .ok (.i2l, 1) := by decide +kernel
theorem dX10_isOp_36 : decode cX10_isOp 36 = .ok (.invokestatic 139, 3) := by decide +kernel
theorem dX10_isOp_39 : decode cX10_isOp 39 = .ok (.ireturn, 1) := by decide +kernel
theorem dX10_isOp_40 : decode cX10_isOp 40 = .ok (.iload_n 2, 1) := by decide +kernel
theorem dX10_isOp_41 : decode cX10_isOp 41 = .ok (.bipush 10, 2) := by decide +kernel
theorem dX10_isOp_43 : decode cX10_isOp 43 = .ok (.if_icmp .eq 9, 3) := by decide +kernel
theorem dX10_isOp_46 : decode cX10_isOp 46 = .ok (.iload_n 2, 1) := by decide +kernel
theorem dX10_isOp_47 : decode cX10_isOp 47 = .ok (.bipush 11, 2) := by decide +kernel
theorem dX10_isOp_49 : decode cX10_isOp 49 = .ok (.if_icmp .ne 13, 3) := by decide +kernel
theorem dX10_isOp_52 : decode cX10_isOp 52 = .ok (.iload_n 3, 1) := by decide +kernel
theorem dX10_isOp_53 : decode cX10_isOp 53 = .ok (.i2l, 1) := by decide +kernel
theorem dX10_isOp_54 : decode cX10_isOp 54 = .ok (.lconst 0, 1) := by decide +kernel
theorem dX10_isOp_55 : decode cX10_isOp 55 = .ok (.ldc2_w 222, 3) := by decide +kernel
theorem dX10_isOp_58 : decode cX10_isOp 58 = .ok (.invokestatic 139, 3) := by decide +kernel
theorem dX10_isOp_61 : decode cX10_isOp 61 = .ok (.ireturn, 1) := by decide +kernel
theorem dX10_isOp_62 : decode cX10_isOp 62 = .ok (.iload_n 2, 1) := by decide +kernel
theorem dX10_isOp_63 : decode cX10_isOp 63 = .ok (.i2l, 1) := by decide +kernel
theorem dX10_isOp_64 : decode cX10_isOp 64 = .ok (.ldc2_w 224, 3) := by decide +kernel
theorem dX10_isOp_67 : decode cX10_isOp 67 = .ok (.ldc2_w 226, 3) := by decide +kernel
theorem dX10_isOp_70 : decode cX10_isOp 70 = .ok (.invokestatic 139, 3) := by decide +kernel
theorem dX10_isOp_73 : decode cX10_isOp 73 = .ok (.ifCond .ne 9, 3) := by decide +kernel
theorem dX10_isOp_76 : decode cX10_isOp 76 = .ok (.iload_n 2, 1) := by decide +kernel
theorem dX10_isOp_77 : decode cX10_isOp 77 = .ok (.bipush 29, 2) := by decide +kernel
theorem dX10_isOp_79 : decode cX10_isOp 79 = .ok (.if_icmp .ne 80, 3) := by decide +kernel
theorem dX10_isOp_82 : decode cX10_isOp 82 = .ok (.iload_n 2, 1) := by decide +kernel
theorem dX10_isOp_83 : decode cX10_isOp 83 = .ok (.bipush 12, 2) := by decide +kernel
theorem dX10_isOp_85 : decode cX10_isOp 85 = .ok (.if_icmp .eq 27, 3) := by decide +kernel
theorem dX10_isOp_88 : decode cX10_isOp 88 = .ok (.iload_n 2, 1) := by decide +kernel
theorem dX10_isOp_89 : decode cX10_isOp 89 = .ok (.bipush 13, 2) := by decide +kernel
theorem dX10_isOp_91 : decode cX10_isOp 91 = .ok (.if_icmp .eq 21, 3) := by decide +kernel
theorem dX10_isOp_94 : decode cX10_isOp 94 = .ok (.iload_n 2, 1) := by decide +kernel
theorem dX10_isOp_95 : decode cX10_isOp 95 = .ok (.bipush 15, 2) := by decide +kernel
theorem dX10_isOp_97 : decode cX10_isOp 97 = .ok (.if_icmp .eq 15, 3) := by decide +kernel
theorem dX10_isOp_100 : decode cX10_isOp 100 = .ok (.iload_n 2, 1) := by decide +kernel
theorem dX10_isOp_101 : decode cX10_isOp 101 = .ok (.bipush 16, 2) := by decide +kernel
theorem dX10_isOp_103 : decode cX10_isOp 103 = .ok (.if_icmp .le 13, 3) := by decide +kernel
theorem dX10_isOp_106 : decode cX10_isOp 106 = .ok (.iload_n 2, 1) := by decide +kernel
theorem dX10_isOp_107 : decode cX10_isOp 107 = .ok (.bipush 19, 2) := by decide +kernel
theorem dX10_isOp_109 : decode cX10_isOp 109 = .ok (.if_icmp .ge 7, 3) := by decide +kernel
theorem dX10_isOp_112 : decode cX10_isOp 112 = .ok (.iconst 1, 1) := by decide +kernel
theorem dX10_isOp_113 : decode cX10_isOp 113 = .ok (.goto 4, 3) := by decide +kernel
theorem dX10_isOp_116 : decode cX10_isOp 116 = .ok (.iconst 0, 1) := by decide +kernel
theorem dX10_isOp_117 : decode cX10_isOp 117 = .ok (.istore 5, 2) := by decide +kernel
theorem dX10_isOp_119 : decode cX10_isOp 119 = .ok (.iload_n 3, 1) := by decide +kernel
theorem dX10_isOp_120 : decode cX10_isOp 120 = .ok (.invokestatic 156, 3) := by decide +kernel
theorem dX10_isOp_123 : decode cX10_isOp 123 = .ok (.ifCond .eq 34, 3) := by decide +kernel
theorem dX10_isOp_126 : decode cX10_isOp 126 = .ok (.iload 5, 2) := by decide +kernel
theorem dX10_isOp_128 : decode cX10_isOp 128 = .ok (.ifCond .eq 11, 3) := by decide +kernel
theorem dX10_isOp_131 : decode cX10_isOp 131 = .ok (.iload 4, 2) := by decide +kernel
theorem dX10_isOp_133 : decode cX10_isOp 133 = .ok (.invokestatic 160, 3) := by decide +kernel
theorem dX10_isOp_136 : decode cX10_isOp 136 = .ok (.ifCond .eq 21, 3) := by decide +kernel
theorem dX10_isOp_139 : decode cX10_isOp 139 = .ok (.iload_n 2, 1) := by decide +kernel
theorem dX10_isOp_140 : decode cX10_isOp 140 = .ok (.bipush 29, 2) := by decide +kernel
theorem dX10_isOp_142 : decode cX10_isOp 142 = .ok (.if_icmp .ne 11, 3) := by decide +kernel
theorem dX10_isOp_145 : decode cX10_isOp 145 = .ok (.iload 4, 2) := by decide +kernel
theorem dX10_isOp_147 : decode cX10_isOp 147 = .ok (.invokestatic 156, 3) := by decide +kernel
theorem dX10_isOp_150 : decode cX10_isOp 150 = .ok (.ifCond .eq 7, 3) := by decide +kernel
theorem dX10_isOp_153 : decode cX10_isOp 153 = .ok (.iconst 1, 1) := by decide +kernel
theorem dX10_isOp_154 : decode cX10_isOp 154 = .ok (.goto 4, 3) := by decide +kernel
theorem dX10_isOp_157 : decode cX10_isOp 157 = .ok (.iconst 0, 1) := by decide +kernel
theorem dX10_isOp_158 : decode cX10_isOp 158 = .ok (.ireturn, 1) := by decide +kernel
theorem dX10_isOp_159 : decode cX10_isOp 159 = .ok (.iload_n 2, 1) := by decide +kernel
theorem dX10_isOp_160 : decode cX10_isOp 160 = .ok (.bipush 19, 2) := by decide +kernel
theorem dX10_isOp_162 : decode cX10_isOp 162 = .ok (.if_icmp .ne 36, 3) := by decide +kernel
theorem dX10_isOp_165 : decode cX10_isOp 165 = .ok (.iload_n 3, 1) := by decide +kernel
theorem dX10_isOp_166 : decode cX10_isOp 166 = .ok (.i2l, 1) := by decide +kernel
theorem dX10_isOp_167 : decode cX10_isOp 167 = .ok (.lconst 0, 1) := by decide +kernel
theorem dX10_isOp_168 : decode cX10_isOp 168 = .ok (.ldc2_w 137, 3) := by decide +kernel
theorem dX10_isOp_171 : decode cX10_isOp 171 = .ok (.invokestatic 139, 3) := by decide +kernel
theorem dX10_isOp_174 : decode cX10_isOp 174 = .ok (.ifCond .eq 20, 3) := by decide +kernel
theorem dX10_isOp_177 : decode cX10_isOp 177 = .ok (.iload 4, 2) := by decide +kernel
theorem dX10_isOp_179 : decode cX10_isOp 179 = .ok (.i2l, 1) := by decide +kernel
theorem dX10_isOp_180 : decode cX10_isOp 180 = .ok (.lconst 0, 1) := by decide +kernel
theorem dX10_isOp_181 : decode cX10_isOp 181 = .ok (.ldc2_w 220, 3) := by decide +kernel
theorem dX10_isOp_184 : decode cX10_isOp 184 = .ok (.invokestatic 139, 3) := by decide +kernel
theorem dX10_isOp_187 : decode cX10_isOp 187 = .ok (.ifCond .eq 7, 3) := by decide +kernel
theorem dX10_isOp_190 : decode cX10_isOp 190 = .ok (.iconst 1, 1) := by decide +kernel
theorem dX10_isOp_191 : decode cX10_isOp 191 = .ok (.goto 30, 3) := by decide +kernel
theorem dX10_isOp_194 : decode cX10_isOp 194 = .ok (.iconst 0, 1) := by decide +kernel
theorem dX10_isOp_195 : decode cX10_isOp 195 = .ok (.goto 26, 3) := by decide +kernel
theorem dX10_isOp_198 : decode cX10_isOp 198 = .ok (.iload_n 2, 1) := by decide +kernel
theorem dX10_isOp_199 : decode cX10_isOp 199 = .ok (.bipush 23, 2) := by decide +kernel
theorem dX10_isOp_201 : decode cX10_isOp 201 = .ok (.if_icmp .ne 15, 3) := by decide +kernel
theorem dX10_isOp_204 : decode cX10_isOp 204 = .ok (.iload_n 3, 1) := by decide +kernel
theorem dX10_isOp_205 : decode cX10_isOp 205 = .ok (.i2l, 1) := by decide +kernel
theorem dX10_isOp_206 : decode cX10_isOp 206 = .ok (.lconst 0, 1) := by decide +kernel
theorem dX10_isOp_207 : decode cX10_isOp 207 = .ok (.ldc2_w 228, 3) := by decide +kernel
theorem dX10_isOp_210 : decode cX10_isOp 210 = .ok (.invokestatic 139, 3) := by decide +kernel
theorem dX10_isOp_213 : decode cX10_isOp 213 = .ok (.ifCond .eq 7, 3) := by decide +kernel
theorem dX10_isOp_216 : decode cX10_isOp 216 = .ok (.iconst 1, 1) := by decide +kernel
theorem dX10_isOp_217 : decode cX10_isOp 217 = .ok (.goto 4, 3) := by decide +kernel
theorem dX10_isOp_220 : decode cX10_isOp 220 = .ok (.iconst 0, 1) := by decide +kernel
theorem dX10_isOp_221 : decode cX10_isOp 221 = .ok (.ireturn, 1) := by decide +kernel
theorem dX10_op_0 : decode cX10_op 0 = .ok (.aload_n 0, 1) := by decide +kernel
theorem dX10_op_1 : decode cX10_op 1 = .ok (.iload_n 1, 1) := by decide +kernel
theorem dX10_op_2 : decode cX10_op 2 = .ok (.invokevirtual 230, 3) := by decide +kernel
theorem dX10_op_5 : decode cX10_op 5 = .ok (.ifCond .eq 15, 3) := by decide +kernel
theorem dX10_op_8 : decode cX10_op 8 = .ok (.aload_n 0, 1) := by decide +kernel
theorem dX10_op_9 : decode cX10_op 9 = .ok (.iload_n 1, 1) := by decide +kernel
theorem dX10_op_10 : decode cX10_op 10 = .ok (.iload_n 2, 1) := by decide +kernel
theorem dX10_op_11 : decode cX10_op 11 = .ok (.iload_n 3, 1) := by decide +kernel
theorem dX10_op_12 : decode cX10_op 12 = .ok (.iload 4, 2) := by decide +kernel
theorem dX10_op_14 : decode cX10_op 14 = .ok (.invokevirtual 233, 3) := by decide +kernel
theorem dX10_op_17 : decode cX10_op 17 = .ok (.ifCond .ne 6, 3) := by decide +kernel
theorem dX10_op_20 : decode cX10_op 20 = .ok (.ldc 163, 2) := by decide +kernel
theorem dX10_op_22 : decode cX10_op 22 = .ok (.ireturn, 1) := by decide +kernel
theorem dX10_op_23 : decode cX10_op 23 = .ok (.aload_n 0, 1) := by decide +kernel
theorem dX10_op_24 : decode cX10_op 24 = .ok (.getfield 45, 3) := by decide +kernel
theorem dX10_op_27 : decode cX10_op 27 = .ok (.iload_n 1, 1) := by decide +kernel
theorem dX10_op_28 : decode cX10_op 28 = .ok (.iaload, 1) := by decide +kernel
theorem dX10_op_29 : decode cX10_op 29 = .ok (.bipush 30, 2) := by decide +kernel
theorem dX10_op_31 : decode cX10_op 31 = .ok (.if_icmp .ne 6, 3) := by decide +kernel
theorem dX10_op_34 : decode cX10_op 34 = .ok (.ldc 187, 2) := by decide +kernel
theorem dX10_op_36 : decode cX10_op 36 = .ok (.ireturn, 1) := by decide +kernel
theorem dX10_op_37 : decode cX10_op 37 = .ok (.bipush 30, 2) := by decide +kernel
theorem dX10_op_39 : decode cX10_op 39 = .ok (.iload_n 1, 1) := by decide +kernel
theorem dX10_op_40 : decode cX10_op 40 = .ok (.imul, 1) := by decide +kernel
theorem dX10_op_41 : decode cX10_op 41 = .ok (.aload_n 0, 1) := by decide +kernel
theorem dX10_op_42 : decode cX10_op 42 = .ok (.getfield 45, 3) := by decide +kernel
theorem dX10_op_45 : decode cX10_op 45 = .ok (.iload_n 1, 1) := by decide +kernel
theorem dX10_op_46 : decode cX10_op 46 = .ok (.iaload, 1) := by decide +kernel
theorem dX10_op_47 : decode cX10_op 47 = .ok (.iadd, 1) := by decide +kernel
theorem dX10_op_48 : decode cX10_op 48 = .ok (.istore 5, 2) := by decide +kernel
theorem dX10_op_50 : decode cX10_op 50 = .ok (.aload_n 0, 1) := by decide +kernel
theorem dX10_op_51 : decode cX10_op 51 = .ok (.getfield 54, 3) := by decide +kernel
theorem dX10_op_54 : decode cX10_op 54 = .ok (.iload 5, 2) := by decide +kernel
theorem dX10_op_56 : decode cX10_op 56 = .ok (.iload_n 2, 1) := by decide +kernel
theorem dX10_op_57 : decode cX10_op 57 = .ok (.iastore, 1) := by decide +kernel
theorem dX10_op_58 : decode cX10_op 58 = .ok (.aload_n 0, 1) := by decide +kernel
theorem dX10_op_59 : decode cX10_op 59 = .ok (.getfield 57, 3) := by decide +kernel
theorem dX10_op_62 : decode cX10_op 62 = .ok (.iload 5, 2) := by decide +kernel
theorem dX10_op_64 : decode cX10_op 64 = .ok (.iload_n 3, 1) := by decide +kernel
theorem dX10_op_65 : decode cX10_op 65 = .ok (.iastore, 1) := by decide +kernel
theorem dX10_op_66 : decode cX10_op 66 = .ok (.aload_n 0, 1) := by decide +kernel
theorem dX10_op_67 : decode cX10_op 67 = .ok (.getfield 60, 3) := by decide +kernel
theorem dX10_op_70 : decode cX10_op 70 = .ok (.iload 5, 2) := by decide +kernel
theorem dX10_op_72 : decode cX10_op 72 = .ok (.iload 4, 2) := by decide +kernel
theorem dX10_op_74 : decode cX10_op 74 = .ok (.iastore, 1) := by decide +kernel
theorem dX10_op_75 : decode cX10_op 75 = .ok (.aload_n 0, 1) := by decide +kernel
theorem dX10_op_76 : decode cX10_op 76 = .ok (.getfield 45, 3) := by decide +kernel
theorem dX10_op_79 : decode cX10_op 79 = .ok (.iload_n 1, 1) := by decide +kernel
theorem dX10_op_80 : decode cX10_op 80 = .ok (.dup2, 1) := by decide +kernel
theorem dX10_op_81 : decode cX10_op 81 = .ok (.iaload, 1) := by decide +kernel
theorem dX10_op_82 : decode cX10_op 82 = .ok (.iconst 1, 1) := by decide +kernel
theorem dX10_op_83 : decode cX10_op 83 = .ok (.iadd, 1) := by decide +kernel
theorem dX10_op_84 : decode cX10_op 84 = .ok (.iastore, 1) := by decide +kernel
theorem dX10_op_85 : decode cX10_op 85 = .ok (.aload_n 0, 1) := by decide +kernel
theorem dX10_op_86 : decode cX10_op 86 = .ok (.getfield 45, 3) := by decide +kernel
theorem dX10_op_89 : decode cX10_op 89 = .ok (.iload_n 1, 1) := by decide +kernel
theorem dX10_op_90 : decode cX10_op 90 = .ok (.iaload, 1) := by decide +kernel
theorem dX10_op_91 : decode cX10_op 91 = .ok (.iconst 1, 1) := by decide +kernel
theorem dX10_op_92 : decode cX10_op 92 = .ok (.isub, 1) := by decide +kernel
theorem dX10_op_93 : decode cX10_op 93 = .ok (.ireturn, 1) := by decide +kernel
theorem dX10_guard_0 : decode cX10_guard 0 = .ok (.aload_n 0, 1) := by decide +kernel
theorem dX10_guard_1 : decode cX10_guard 1 = .ok (.iload_n 1, 1) := by decide +kernel
theorem dX10_guard_2 : decode cX10_guard 2 = .ok (.invokevirtual 230, 3) := by decide +kernel
theorem dX10_guard_5 : decode cX10_guard 5 = .ok (.ifCond .eq 44, 3) := by decide +kernel
theorem dX10_guard_8 : decode cX10_guard 8 = .ok (.iload_n 2, 1) := by decide +kernel
theorem dX10_guard_9 : decode cX10_guard 9 = .ok (.ifCond .lt 40, 3) := by decide +kernel
theorem dX10_guard_12 : decode cX10_guard 12 = .ok (.iload_n 2, 1) := by decide +kernel
theorem dX10_guard_13 : decode cX10_guard 13 = .ok (.iload_n 3, 1) := by decide +kernel
theorem dX10_guard_14 : decode cX10_guard 14 = .ok (.if_icmp .ge 35, 3) := by decide +kernel
theorem dX10_guard_17 : decode cX10_guard 17 = .ok (.iload_n 3, 1) := by decide +kernel
theorem dX10_guard_18 : decode cX10_guard 18 = .ok (.bipush 30, 2) := by decide +kernel
theorem dX10_guard_20 : decode cX10_guard 20 = .ok (.if_icmp .gt 29, 3) := by decide +kernel
theorem dX10_guard_23 : decode cX10_guard 23 = .ok (.iload 4, 2) := by decide +kernel
theorem dX10_guard_25 : decode cX10_guard 25 = .ok (.i2l, 1) := by decide +kernel
theorem dX10_guard_26 : decode cX10_guard 26 = .ok (.lconst 0, 1) := by decide +kernel
theorem dX10_guard_27 : decode cX10_guard 27 = .ok (.ldc2_w 224, 3) := by decide +kernel
theorem dX10_guard_30 : decode cX10_guard 30 = .ok (.invokestatic 139, 3) := by decide +kernel
theorem dX10_guard_33 : decode cX10_guard 33 = .ok (.ifCond .eq 16, 3) := by decide +kernel
theorem dX10_guard_36 : decode cX10_guard 36 = .ok (.iload 5, 2) := by decide +kernel
theorem dX10_guard_38 : decode cX10_guard 38 = .ok (.i2l, 1) := by decide +kernel
theorem dX10_guard_39 : decode cX10_guard 39 = .ok (.lconst 0, 1) := by decide +kernel
theorem dX10_guard_40 : decode cX10_guard 40 = .ok (.ldc2_w 222, 3) := by decide +kernel
theorem dX10_guard_43 : decode cX10_guard 43 = .ok (.invokestatic 139, 3) := by decide +kernel
theorem dX10_guard_46 : decode cX10_guard 46 = .ok (.ifCond .ne 6, 3) := by decide +kernel
theorem dX10_guard_49 : decode cX10_guard 49 = .ok (.ldc 163, 2) := by decide +kernel
theorem dX10_guard_51 : decode cX10_guard 51 = .ok (.ireturn, 1) := by decide +kernel
theorem dX10_guard_52 : decode cX10_guard 52 = .ok (.aload_n 0, 1) := by decide +kernel
theorem dX10_guard_53 : decode cX10_guard 53 = .ok (.getfield 48, 3) := by decide +kernel
theorem dX10_guard_56 : decode cX10_guard 56 = .ok (.iload_n 1, 1) := by decide +kernel
theorem dX10_guard_57 : decode cX10_guard 57 = .ok (.iaload, 1) := by decide +kernel
theorem dX10_guard_58 : decode cX10_guard 58 = .ok (.iconst 4, 1) := by decide +kernel
theorem dX10_guard_59 : decode cX10_guard 59 = .ok (.if_icmp .ne 6, 3) := by decide +kernel
theorem dX10_guard_62 : decode cX10_guard 62 = .ok (.ldc 187, 2) := by decide +kernel
theorem dX10_guard_64 : decode cX10_guard 64 = .ok (.ireturn, 1) := by decide +kernel
theorem dX10_guard_65 : decode cX10_guard 65 = .ok (.bipush 16, 2) := by decide +kernel
theorem dX10_guard_67 : decode cX10_guard 67 = .ok (.iload_n 1, 1) := by decide +kernel
theorem dX10_guard_68 : decode cX10_guard 68 = .ok (.imul, 1) := by decide +kernel
theorem dX10_guard_69 : decode cX10_guard 69 = .ok (.iconst 4, 1) := by decide +kernel
theorem dX10_guard_70 : decode cX10_guard 70 = .ok (.aload_n 0, 1) := by decide +kernel
theorem dX10_guard_71 : decode cX10_guard 71 = .ok (.getfield 48, 3) := by decide +kernel
theorem dX10_guard_74 : decode cX10_guard 74 = .ok (.iload_n 1, 1) := by decide +kernel
theorem dX10_guard_75 : decode cX10_guard 75 = .ok (.iaload, 1) := by decide +kernel
theorem dX10_guard_76 : decode cX10_guard 76 = .ok (.imul, 1) := by decide +kernel
theorem dX10_guard_77 : decode cX10_guard 77 = .ok (.iadd, 1) := by decide +kernel
theorem dX10_guard_78 : decode cX10_guard 78 = .ok (.istore 6, 2) := by decide +kernel
theorem dX10_guard_80 : decode cX10_guard 80 = .ok (.aload_n 0, 1) := by decide +kernel
theorem dX10_guard_81 : decode cX10_guard 81 = .ok (.getfield 63, 3) := by decide +kernel
theorem dX10_guard_84 : decode cX10_guard 84 = .ok (.iload 6, 2) := by decide +kernel
theorem dX10_guard_86 : decode cX10_guard 86 = .ok (.iload_n 2, 1) := by decide +kernel
theorem dX10_guard_87 : decode cX10_guard 87 = .ok (.iastore, 1) := by decide +kernel
theorem dX10_guard_88 : decode cX10_guard 88 = .ok (.aload_n 0, 1) := by decide +kernel
theorem dX10_guard_89 : decode cX10_guard 89 = .ok (.getfield 63, 3) := by decide +kernel
theorem dX10_guard_92 : decode cX10_guard 92 = .ok (.iload 6, 2) := by decide +kernel
theorem dX10_guard_94 : decode cX10_guard 94 = .ok (.iconst 1, 1) := by decide +kernel
theorem dX10_guard_95 : decode cX10_guard 95 = .ok (.iadd, 1) := by decide +kernel
theorem dX10_guard_96 : decode cX10_guard 96 = .ok (.iload_n 3, 1) := by decide +kernel
theorem dX10_guard_97 : decode cX10_guard 97 = .ok (.iastore, 1) := by decide +kernel
theorem dX10_guard_98 : decode cX10_guard 98 = .ok (.aload_n 0, 1) := by decide +kernel
theorem dX10_guard_99 : decode cX10_guard 99 = .ok (.getfield 63, 3) := by decide +kernel
theorem dX10_guard_102 : decode cX10_guard 102 = .ok (.iload 6, 2) := by decide +kernel
theorem dX10_guard_104 : decode cX10_guard 104 = .ok (.iconst 2, 1) := by decide +kernel
theorem dX10_guard_105 : decode cX10_guard 105 = .ok (.iadd, 1) := by decide +kernel
theorem dX10_guard_106 : decode cX10_guard 106 = .ok (.iload 4, 2) := by decide +kernel
theorem dX10_guard_108 : decode cX10_guard 108 = .ok (.iastore, 1) := by decide +kernel
theorem dX10_guard_109 : decode cX10_guard 109 = .ok (.aload_n 0, 1) := by decide +kernel
theorem dX10_guard_110 : decode cX10_guard 110 = .ok (.getfield 63, 3) := by decide +kernel
theorem dX10_guard_113 : decode cX10_guard 113 = .ok (.iload 6, 2) := by decide +kernel
theorem dX10_guard_115 : decode cX10_guard 115 = .ok (.iconst 3, 1) := by decide +kernel
theorem dX10_guard_116 : decode cX10_guard 116 = .ok (.iadd, 1) := by decide +kernel
theorem dX10_guard_117 : decode cX10_guard 117 = .ok (.iload 5, 2) := by decide +kernel
theorem dX10_guard_119 : decode cX10_guard 119 = .ok (.iastore, 1) := by decide +kernel
theorem dX10_guard_120 : decode cX10_guard 120 = .ok (.aload_n 0, 1) := by decide +kernel
theorem dX10_guard_121 : decode cX10_guard 121 = .ok (.getfield 48, 3) := by decide +kernel
theorem dX10_guard_124 : decode cX10_guard 124 = .ok (.iload_n 1, 1) := by decide +kernel
theorem dX10_guard_125 : decode cX10_guard 125 = .ok (.dup2, 1) := by decide +kernel
theorem dX10_guard_126 : decode cX10_guard 126 = .ok (.iaload, 1) := by decide +kernel
theorem dX10_guard_127 : decode cX10_guard 127 = .ok (.iconst 1, 1) := by decide +kernel
theorem dX10_guard_128 : decode cX10_guard 128 = .ok (.iadd, 1) := by decide +kernel
theorem dX10_guard_129 : decode cX10_guard 129 = .ok (.iastore, 1) := by decide +kernel
theorem dX10_guard_130 : decode cX10_guard 130 = .ok (.aload_n 0, 1) := by decide +kernel
theorem dX10_guard_131 : decode cX10_guard 131 = .ok (.getfield 48, 3) := by decide +kernel
theorem dX10_guard_134 : decode cX10_guard 134 = .ok (.iload_n 1, 1) := by decide +kernel
theorem dX10_guard_135 : decode cX10_guard 135 = .ok (.iaload, 1) := by decide +kernel
theorem dX10_guard_136 : decode cX10_guard 136 = .ok (.iconst 1, 1) := by decide +kernel
theorem dX10_guard_137 : decode cX10_guard 137 = .ok (.isub, 1) := by decide +kernel
theorem dX10_guard_138 : decode cX10_guard 138 = .ok (.ireturn, 1) := by decide +kernel
theorem dX10_last_0 : decode cX10_last 0 = .ok (.aload_n 0, 1) := by decide +kernel
theorem dX10_last_1 : decode cX10_last 1 = .ok (.iload_n 1, 1) := by decide +kernel
theorem dX10_last_2 : decode cX10_last 2 = .ok (.invokevirtual 230, 3) := by decide +kernel
theorem dX10_last_5 : decode cX10_last 5 = .ok (.ifCond .eq 17, 3) := by decide +kernel
theorem dX10_last_8 : decode cX10_last 8 = .ok (.iload_n 2, 1) := by decide +kernel
theorem dX10_last_9 : decode cX10_last 9 = .ok (.i2l, 1) := by decide +kernel
theorem dX10_last_10 : decode cX10_last 10 = .ok (.ldc2_w 237, 3) := by decide +kernel
theorem dX10_last_13 : decode cX10_last 13 = .ok (.ldc2_w 222, 3) := by decide +kernel
theorem dX10_last_16 : decode cX10_last 16 = .ok (.invokestatic 139, 3) := by decide +kernel
theorem dX10_last_19 : decode cX10_last 19 = .ok (.ifCond .ne 6, 3) := by decide +kernel
theorem dX10_last_22 : decode cX10_last 22 = .ok (.ldc 163, 2) := by decide +kernel
theorem dX10_last_24 : decode cX10_last 24 = .ok (.ireturn, 1) := by decide +kernel
theorem dX10_last_25 : decode cX10_last 25 = .ok (.aload_n 0, 1) := by decide +kernel
theorem dX10_last_26 : decode cX10_last 26 = .ok (.getfield 51, 3) := by decide +kernel
theorem dX10_last_29 : decode cX10_last 29 = .ok (.iload_n 1, 1) := by decide +kernel
theorem dX10_last_30 : decode cX10_last 30 = .ok (.iaload, 1) := by decide +kernel
theorem dX10_last_31 : decode cX10_last 31 = .ok (.istore_n 3, 1) := by decide +kernel
theorem dX10_last_32 : decode cX10_last 32 = .ok (.aload_n 0, 1) := by decide +kernel
theorem dX10_last_33 : decode cX10_last 33 = .ok (.getfield 51, 3) := by decide +kernel
theorem dX10_last_36 : decode cX10_last 36 = .ok (.iload_n 1, 1) := by decide +kernel
theorem dX10_last_37 : decode cX10_last 37 = .ok (.iload_n 2, 1) := by decide +kernel
theorem dX10_last_38 : decode cX10_last 38 = .ok (.iastore, 1) := by decide +kernel
theorem dX10_last_39 : decode cX10_last 39 = .ok (.iload_n 3, 1) := by decide +kernel
theorem dX10_last_40 : decode cX10_last 40 = .ok (.ireturn, 1) := by decide +kernel
theorem dX10_enter_0 : decode cX10_enter 0 = .ok (.aload_n 0, 1) := by decide +kernel
theorem dX10_enter_1 : decode cX10_enter 1 = .ok (.getfield 239, 3) := by decide +kernel
theorem dX10_enter_4 : decode cX10_enter 4 = .ok (.istore_n 2, 1) := by decide +kernel
theorem dX10_enter_5 : decode cX10_enter 5 = .ok (.aload_n 0, 1) := by decide +kernel
theorem dX10_enter_6 : decode cX10_enter 6 = .ok (.dup, 1) := by decide +kernel
theorem dX10_enter_7 : decode cX10_enter 7 = .ok (.getfield 239, 3) := by decide +kernel
theorem dX10_enter_10 : decode cX10_enter 10 = .ok (.iconst 1, 1) := by decide +kernel
theorem dX10_enter_11 : decode cX10_enter 11 = .ok (.iadd, 1) := by decide +kernel
theorem dX10_enter_12 : decode cX10_enter 12 = .ok (.putfield 239, 3) := by decide +kernel
theorem dX10_enter_15 : decode cX10_enter 15 = .ok (.aload_n 0, 1) := by decide +kernel
theorem dX10_enter_16 : decode cX10_enter 16 = .ok (.aload_n 0, 1) := by decide +kernel
theorem dX10_enter_17 : decode cX10_enter 17 = .ok (.getfield 239, 3) := by decide +kernel
theorem dX10_enter_20 : decode cX10_enter 20 = .ok (.aload_n 0, 1) := by decide +kernel
theorem dX10_enter_21 : decode cX10_enter 21 = .ok (.getfield 242, 3) := by decide +kernel
theorem dX10_enter_24 : decode cX10_enter 24 = .ok (.if_icmp .le 10, 3) := by decide +kernel
theorem dX10_enter_27 : decode cX10_enter 27 = .ok (.aload_n 0, 1) := by decide +kernel
theorem dX10_enter_28 : decode cX10_enter 28 = .ok (.getfield 239, 3) := by decide +kernel
theorem dX10_enter_31 : decode cX10_enter 31 = .ok (.goto 7, 3) := by decide +kernel
theorem dX10_enter_34 : decode cX10_enter 34 = .ok (.aload_n 0, 1) := by decide +kernel
theorem dX10_enter_35 : decode cX10_enter 35 = .ok (.getfield 242, 3) := by decide +kernel
theorem dX10_enter_38 : decode cX10_enter 38 = .ok (.putfield 242, 3) := by decide +kernel
theorem dX10_enter_41 : decode cX10_enter 41 = .ok (.aload_n 0, 1) := by decide +kernel
theorem dX10_enter_42 : decode cX10_enter 42 = .ok (.getfield 66, 3) := by decide +kernel
theorem dX10_enter_45 : decode cX10_enter 45 = .ok (.iload_n 2, 1) := by decide +kernel
theorem dX10_enter_46 : decode cX10_enter 46 = .ok (.iload_n 1, 1) := by decide +kernel
theorem dX10_enter_47 : decode cX10_enter 47 = .ok (.iastore, 1) := by decide +kernel
theorem dX10_enter_48 : decode cX10_enter 48 = .ok (.aload_n 0, 1) := by decide +kernel
theorem dX10_enter_49 : decode cX10_enter 49 = .ok (.getfield 69, 3) := by decide +kernel
theorem dX10_enter_52 : decode cX10_enter 52 = .ok (.iload_n 2, 1) := by decide +kernel
theorem dX10_enter_53 : decode cX10_enter 53 = .ok (.iconst 0, 1) := by decide +kernel
theorem dX10_enter_54 : decode cX10_enter 54 = .ok (.iastore, 1) := by decide +kernel
theorem dX10_enter_55 : decode cX10_enter 55 = .ok (.aload_n 0, 1) := by decide +kernel
theorem dX10_enter_56 : decode cX10_enter 56 = .ok (.getfield 78, 3) := by decide +kernel
theorem dX10_enter_59 : decode cX10_enter 59 = .ok (.iload_n 2, 1) := by decide +kernel
theorem dX10_enter_60 : decode cX10_enter 60 = .ok (.iconst 0, 1) := by decide +kernel
theorem dX10_enter_61 : decode cX10_enter 61 = .ok (.iastore, 1) := by decide +kernel
theorem dX10_enter_62 : decode cX10_enter 62 = .ok (.aload_n 0, 1) := by decide +kernel
theorem dX10_enter_63 : decode cX10_enter 63 = .ok (.getfield 81, 3) := by decide +kernel
theorem dX10_enter_66 : decode cX10_enter 66 = .ok (.iload_n 2, 1) := by decide +kernel
theorem dX10_enter_67 : decode cX10_enter 67 = .ok (.iconst 0, 1) := by decide +kernel
theorem dX10_enter_68 : decode cX10_enter 68 = .ok (.bastore, 1) := by decide +kernel
theorem dX10_enter_69 : decode cX10_enter 69 = .ok (.iconst 0, 1) := by decide +kernel
theorem dX10_enter_70 : decode cX10_enter 70 = .ok (.istore_n 3, 1) := by decide +kernel
theorem dX10_enter_71 : decode cX10_enter 71 = .ok (.iload_n 3, 1) := by decide +kernel
theorem dX10_enter_72 : decode cX10_enter 72 = .ok (.bipush 6, 2) := by decide +kernel
theorem dX10_enter_74 : decode cX10_enter 74 = .ok (.if_icmp .ge 21, 3) := by decide +kernel
theorem dX10_enter_77 : decode cX10_enter 77 = .ok (.aload_n 0, 1) := by decide +kernel
theorem dX10_enter_78 : decode cX10_enter 78 = .ok (.getfield 72, 3) := by decide +kernel
theorem dX10_enter_81 : decode cX10_enter 81 = .ok (.bipush 6, 2) := by decide +kernel
theorem dX10_enter_83 : decode cX10_enter 83 = .ok (.iload_n 2, 1) := by decide +kernel
theorem dX10_enter_84 : decode cX10_enter 84 = .ok (.imul, 1) := by decide +kernel
theorem dX10_enter_85 : decode cX10_enter 85 = .ok (.iload_n 3, 1) := by decide +kernel
theorem dX10_enter_86 : decode cX10_enter 86 = .ok (.iadd, 1) := by decide +kernel
theorem dX10_enter_87 : decode cX10_enter 87 = .ok (.lconst 0, 1) := by decide +kernel
theorem dX10_enter_88 : decode cX10_enter 88 = .ok (.lastore, 1) := by decide +kernel
theorem dX10_enter_89 : decode cX10_enter 89 = .ok (.iinc 3 1, 3) := by decide +kernel
theorem dX10_enter_92 : decode cX10_enter 92 = .ok (.goto (-21), 3) := by decide +kernel
theorem dX10_enter_95 : decode cX10_enter 95 = .ok (.return_, 1) := by decide +kernel
theorem dX10_isPlace_0 : decode cX10_isPlace 0 = .ok (.iload_n 2, 1) := by decide +kernel
theorem dX10_isPlace_1 : decode cX10_isPlace 1 = .ok (.i2l, 1) := by decide +kernel
theorem dX10_isPlace_2 : decode cX10_isPlace 2 = .ok (.lconst 0, 1) := by decide +kernel
theorem dX10_isPlace_3 : decode cX10_isPlace 3 = .ok (.aload_n 0, 1) := by decide +kernel
theorem dX10_isPlace_4 : decode cX10_isPlace 4 = .ok (.getfield 45, 3) := by decide +kernel
theorem dX10_isPlace_7 : decode cX10_isPlace 7 = .ok (.iload_n 1, 1) := by decide +kernel
theorem dX10_isPlace_8 : decode cX10_isPlace 8 = .ok (.iaload, 1) := by decide +kernel
theorem dX10_isPlace_9 : decode cX10_isPlace 9 = .ok (.iconst 1, 1) := by decide +kernel
theorem dX10_isPlace_10 : decode cX10_isPlace 10 = .ok (.isub, 1) := by decide +kernel
theorem dX10_isPlace_11 : decode cX10_isPlace 11 = .ok (.i2l, 1) := by decide +kernel
theorem dX10_isPlace_12 : decode cX10_isPlace 12 = .ok (.invokestatic 139, 3) := by decide +kernel
theorem dX10_isPlace_15 : decode cX10_isPlace 15 = .ok (.ireturn, 1) := by decide +kernel
theorem dX10_mayBeginLast_0 : decode cX10_mayBeginLast 0 = .ok (.aload_n 0, 1) := by decide +kernel
theorem dX10_mayBeginLast_1 : decode cX10_mayBeginLast 1 = .ok (.getfield 239, 3) := by decide +kernel
theorem dX10_mayBeginLast_4 : decode cX10_mayBeginLast 4 = .ok (.iconst 1, 1) := by decide +kernel
theorem dX10_mayBeginLast_5 : decode cX10_mayBeginLast 5 = .ok (.isub, 1) := by decide +kernel
theorem dX10_mayBeginLast_6 : decode cX10_mayBeginLast 6 = .ok (.istore_n 1, 1) := by decide +kernel
theorem dX10_mayBeginLast_7 : decode cX10_mayBeginLast 7 = .ok (.aload_n 0, 1) := by decide +kernel
theorem dX10_mayBeginLast_8 : decode cX10_mayBeginLast 8 = .ok (.getfield 81, 3) := by decide +kernel
theorem dX10_mayBeginLast_11 : decode cX10_mayBeginLast 11 = .ok (.iload_n 1, 1) := by decide +kernel
theorem dX10_mayBeginLast_12 : decode cX10_mayBeginLast 12 = .ok (.baload, 1) := by decide +kernel
theorem dX10_mayBeginLast_13 : decode cX10_mayBeginLast 13 = .ok (.ifCond .ne 31, 3) := by decide +kernel
theorem dX10_mayBeginLast_16 : decode cX10_mayBeginLast 16 = .ok (.aload_n 0, 1) := by decide +kernel
theorem dX10_mayBeginLast_17 : decode cX10_mayBeginLast 17 = .ok (.aload_n 0, 1) := by decide +kernel
theorem dX10_mayBeginLast_18 : decode cX10_mayBeginLast 18 = .ok (.getfield 66, 3) := by decide +kernel
theorem dX10_mayBeginLast_21 : decode cX10_mayBeginLast 21 = .ok (.iload_n 1, 1) := by decide +kernel
theorem dX10_mayBeginLast_22 : decode cX10_mayBeginLast 22 = .ok (.iaload, 1) := by decide +kernel
theorem dX10_mayBeginLast_23 : decode cX10_mayBeginLast 23 = .ok (.aload_n 0, 1) := by decide +kernel
theorem dX10_mayBeginLast_24 : decode cX10_mayBeginLast 24 = .ok (.getfield 51, 3) := by decide +kernel
theorem dX10_mayBeginLast_27 : decode cX10_mayBeginLast 27 = .ok (.aload_n 0, 1) := by decide +kernel
theorem dX10_mayBeginLast_28 : decode cX10_mayBeginLast 28 = .ok (.getfield 66, 3) := by decide +kernel
theorem dX10_mayBeginLast_31 : decode cX10_mayBeginLast 31 = .ok (.iload_n 1, 1) := by decide +kernel
theorem dX10_mayBeginLast_32 : decode cX10_mayBeginLast 32 = .ok (.iaload, 1) := by decide +kernel
theorem dX10_mayBeginLast_33 : decode cX10_mayBeginLast 33 = .ok (.iaload, 1) := by decide +kernel
theorem dX10_mayBeginLast_34 : decode cX10_mayBeginLast 34 = .ok (.invokevirtual 245, 3) := by decide +kernel
theorem dX10_mayBeginLast_37 : decode cX10_mayBeginLast 37 = .ok (.ifCond .eq 7, 3) := by decide +kernel
theorem dX10_mayBeginLast_40 : decode cX10_mayBeginLast 40 = .ok (.iconst 1, 1) := by decide +kernel
theorem dX10_mayBeginLast_41 : decode cX10_mayBeginLast 41 = .ok (.goto 4, 3) := by decide +kernel
theorem dX10_mayBeginLast_44 : decode cX10_mayBeginLast 44 = .ok (.iconst 0, 1) := by decide +kernel
theorem dX10_mayBeginLast_45 : decode cX10_mayBeginLast 45 = .ok (.ireturn, 1) := by decide +kernel
theorem dX10_beginLast_0 : decode cX10_beginLast 0 = .ok (.aload_n 0, 1) := by decide +kernel
theorem dX10_beginLast_1 : decode cX10_beginLast 1 = .ok (.getfield 239, 3) := by decide +kernel
theorem dX10_beginLast_4 : decode cX10_beginLast 4 = .ok (.iconst 1, 1) := by decide +kernel
theorem dX10_beginLast_5 : decode cX10_beginLast 5 = .ok (.isub, 1) := by decide +kernel
theorem dX10_beginLast_6 : decode cX10_beginLast 6 = .ok (.istore 6, 2) := by decide +kernel
theorem dX10_beginLast_8 : decode cX10_beginLast 8 = .ok (.aload_n 0, 1) := by decide +kernel
theorem dX10_beginLast_9 : decode cX10_beginLast 9 = .ok (.dup, 1) := by decide +kernel
theorem dX10_beginLast_10 : decode cX10_beginLast 10 = .ok (.getfield 249, 3) := by decide +kernel
theorem dX10_beginLast_13 : decode cX10_beginLast 13 = .ok (.iconst 1, 1) := by decide +kernel
theorem dX10_beginLast_14 : decode cX10_beginLast 14 = .ok (.iadd, 1) := by decide +kernel
theorem dX10_beginLast_15 : decode cX10_beginLast 15 = .ok (.putfield 249, 3) := by decide +kernel
theorem dX10_beginLast_18 : decode cX10_beginLast 18 = .ok (.aload_n 0, 1) := by decide +kernel
theorem dX10_beginLast_19 : decode cX10_beginLast 19 = .ok (.getfield 81, 3) := by decide +kernel
theorem dX10_beginLast_22 : decode cX10_beginLast 22 = .ok (.iload 6, 2) := by decide +kernel
theorem dX10_beginLast_24 : decode cX10_beginLast 24 = .ok (.iconst 1, 1) := by decide +kernel
theorem dX10_beginLast_25 : decode cX10_beginLast 25 = .ok (.bastore, 1) := by decide +kernel
theorem dX10_beginLast_26 : decode cX10_beginLast 26 = .ok (.aload_n 0, 1) := by decide +kernel
theorem dX10_beginLast_27 : decode cX10_beginLast 27 = .ok (.getfield 85, 3) := by decide +kernel
theorem dX10_beginLast_30 : decode cX10_beginLast 30 = .ok (.iload 6, 2) := by decide +kernel
theorem dX10_beginLast_32 : decode cX10_beginLast 32 = .ok (.iload_n 1, 1) := by decide +kernel
theorem dX10_beginLast_33 : decode cX10_beginLast 33 = .ok (.iastore, 1) := by decide +kernel
theorem dX10_beginLast_34 : decode cX10_beginLast 34 = .ok (.aload_n 0, 1) := by decide +kernel
theorem dX10_beginLast_35 : decode cX10_beginLast 35 = .ok (.getfield 88, 3) := by decide +kernel
theorem dX10_beginLast_38 : decode cX10_beginLast 38 = .ok (.iload 6, 2) := by decide +kernel
theorem dX10_beginLast_40 : decode cX10_beginLast 40 = .ok (.lload_n 2, 1) := by decide +kernel
theorem dX10_beginLast_41 : decode cX10_beginLast 41 = .ok (.lastore, 1) := by decide +kernel
theorem dX10_beginLast_42 : decode cX10_beginLast 42 = .ok (.aload_n 0, 1) := by decide +kernel
theorem dX10_beginLast_43 : decode cX10_beginLast 43 = .ok (.getfield 91, 3) := by decide +kernel
theorem dX10_beginLast_46 : decode cX10_beginLast 46 = .ok (.iload 6, 2) := by decide +kernel
theorem dX10_beginLast_48 : decode cX10_beginLast 48 = .ok (.iload 4, 2) := by decide +kernel
theorem dX10_beginLast_50 : decode cX10_beginLast 50 = .ok (.iastore, 1) := by decide +kernel
theorem dX10_beginLast_51 : decode cX10_beginLast 51 = .ok (.aload_n 0, 1) := by decide +kernel
theorem dX10_beginLast_52 : decode cX10_beginLast 52 = .ok (.getfield 94, 3) := by decide +kernel
theorem dX10_beginLast_55 : decode cX10_beginLast 55 = .ok (.iload 6, 2) := by decide +kernel
theorem dX10_beginLast_57 : decode cX10_beginLast 57 = .ok (.iload 5, 2) := by decide +kernel
theorem dX10_beginLast_59 : decode cX10_beginLast 59 = .ok (.iastore, 1) := by decide +kernel
theorem dX10_beginLast_60 : decode cX10_beginLast 60 = .ok (.aload_n 0, 1) := by decide +kernel
theorem dX10_beginLast_61 : decode cX10_beginLast 61 = .ok (.getfield 78, 3) := by decide +kernel
theorem dX10_beginLast_64 : decode cX10_beginLast 64 = .ok (.iload 6, 2) := by decide +kernel
theorem dX10_beginLast_66 : decode cX10_beginLast 66 = .ok (.iconst 0, 1) := by decide +kernel
theorem dX10_beginLast_67 : decode cX10_beginLast 67 = .ok (.iastore, 1) := by decide +kernel
theorem dX10_beginLast_68 : decode cX10_beginLast 68 = .ok (.aload_n 0, 1) := by decide +kernel
theorem dX10_beginLast_69 : decode cX10_beginLast 69 = .ok (.getfield 69, 3) := by decide +kernel
theorem dX10_beginLast_72 : decode cX10_beginLast 72 = .ok (.iload 6, 2) := by decide +kernel
theorem dX10_beginLast_74 : decode cX10_beginLast 74 = .ok (.aload_n 0, 1) := by decide +kernel
theorem dX10_beginLast_75 : decode cX10_beginLast 75 = .ok (.getfield 51, 3) := by decide +kernel
theorem dX10_beginLast_78 : decode cX10_beginLast 78 = .ok (.aload_n 0, 1) := by decide +kernel
theorem dX10_beginLast_79 : decode cX10_beginLast 79 = .ok (.getfield 66, 3) := by decide +kernel
theorem dX10_beginLast_82 : decode cX10_beginLast 82 = .ok (.iload 6, 2) := by decide +kernel
theorem dX10_beginLast_84 : decode cX10_beginLast 84 = .ok (.iaload, 1) := by decide +kernel
theorem dX10_beginLast_85 : decode cX10_beginLast 85 = .ok (.iaload, 1) := by decide +kernel
theorem dX10_beginLast_86 : decode cX10_beginLast 86 = .ok (.iastore, 1) := by decide +kernel
theorem dX10_beginLast_87 : decode cX10_beginLast 87 = .ok (.return_, 1) := by decide +kernel
theorem dX10_isTaken_0 : decode cX10_isTaken 0 = .ok (.aload_n 0, 1) := by decide +kernel
theorem dX10_isTaken_1 : decode cX10_isTaken 1 = .ok (.getfield 239, 3) := by decide +kernel
theorem dX10_isTaken_4 : decode cX10_isTaken 4 = .ok (.iconst 1, 1) := by decide +kernel
theorem dX10_isTaken_5 : decode cX10_isTaken 5 = .ok (.isub, 1) := by decide +kernel
theorem dX10_isTaken_6 : decode cX10_isTaken 6 = .ok (.istore_n 1, 1) := by decide +kernel
theorem dX10_isTaken_7 : decode cX10_isTaken 7 = .ok (.aload_n 0, 1) := by decide +kernel
theorem dX10_isTaken_8 : decode cX10_isTaken 8 = .ok (.getfield 66, 3) := by decide +kernel
theorem dX10_isTaken_11 : decode cX10_isTaken 11 = .ok (.iload_n 1, 1) := by decide +kernel
theorem dX10_isTaken_12 : decode cX10_isTaken 12 = .ok (.iaload, 1) := by decide +kernel
theorem dX10_isTaken_13 : decode cX10_isTaken 13 = .ok (.istore_n 2, 1) := by decide +kernel
theorem dX10_isTaken_14 : decode cX10_isTaken 14 = .ok (.iconst 0, 1) := by decide +kernel
theorem dX10_isTaken_15 : decode cX10_isTaken 15 = .ok (.istore_n 3, 1) := by decide +kernel
theorem dX10_isTaken_16 : decode cX10_isTaken 16 = .ok (.iload_n 3, 1) := by decide +kernel
theorem dX10_isTaken_17 : decode cX10_isTaken 17 = .ok (.aload_n 0, 1) := by decide +kernel
theorem dX10_isTaken_18 : decode cX10_isTaken 18 = .ok (.getfield 48, 3) := by decide +kernel
theorem dX10_isTaken_21 : decode cX10_isTaken 21 = .ok (.iload_n 2, 1) := by decide +kernel
theorem dX10_isTaken_22 : decode cX10_isTaken 22 = .ok (.iaload, 1) := by decide +kernel
theorem dX10_isTaken_23 : decode cX10_isTaken 23 = .ok (.if_icmp .ge 173, 3) := by decide +kernel
theorem dX10_isTaken_26 : decode cX10_isTaken 26 = .ok (.bipush 16, 2) := by decide +kernel
theorem dX10_isTaken_28 : decode cX10_isTaken 28 = .ok (.iload_n 2, 1) := by decide +kernel
theorem dX10_isTaken_29 : decode cX10_isTaken 29 = .ok (.imul, 1) := by decide +kernel
theorem dX10_isTaken_30 : decode cX10_isTaken 30 = .ok (.iconst 4, 1) := by decide +kernel
theorem dX10_isTaken_31 : decode cX10_isTaken 31 = .ok (.iload_n 3, 1) := by decide +kernel
theorem dX10_isTaken_32 : decode cX10_isTaken 32 = .ok (.imul, 1) := by decide +kernel
theorem dX10_isTaken_33 : decode cX10_isTaken 33 = .ok (.iadd, 1) := by decide +kernel
theorem dX10_isTaken_34 : decode cX10_isTaken 34 = .ok (.istore 4, 2) := by decide +kernel
theorem dX10_isTaken_36 : decode cX10_isTaken 36 = .ok (.aload_n 0, 1) := by decide +kernel
theorem dX10_isTaken_37 : decode cX10_isTaken 37 = .ok (.getfield 69, 3) := by decide +kernel
theorem dX10_isTaken_40 : decode cX10_isTaken 40 = .ok (.iload_n 1, 1) := by decide +kernel
theorem dX10_isTaken_41 : decode cX10_isTaken 41 = .ok (.iaload, 1) := by decide +kernel
theorem dX10_isTaken_42 : decode cX10_isTaken 42 = .ok (.aload_n 0, 1) := by decide +kernel
theorem dX10_isTaken_43 : decode cX10_isTaken 43 = .ok (.getfield 63, 3) := by decide +kernel
theorem dX10_isTaken_46 : decode cX10_isTaken 46 = .ok (.iload 4, 2) := by decide +kernel
theorem dX10_isTaken_48 : decode cX10_isTaken 48 = .ok (.iaload, 1) := by decide +kernel
theorem dX10_isTaken_49 : decode cX10_isTaken 49 = .ok (.if_icmp .lt 25, 3) := by decide +kernel
theorem dX10_isTaken_52 : decode cX10_isTaken 52 = .ok (.aload_n 0, 1) := by decide +kernel
theorem dX10_isTaken_53 : decode cX10_isTaken 53 = .ok (.getfield 69, 3) := by decide +kernel
theorem dX10_isTaken_56 : decode cX10_isTaken 56 = .ok (.iload_n 1, 1) := by decide +kernel
theorem dX10_isTaken_57 : decode cX10_isTaken 57 = .ok (.iaload, 1) := by decide +kernel
theorem dX10_isTaken_58 : decode cX10_isTaken 58 = .ok (.aload_n 0, 1) := by decide +kernel
theorem dX10_isTaken_59 : decode cX10_isTaken 59 = .ok (.getfield 63, 3) := by decide +kernel
theorem dX10_isTaken_62 : decode cX10_isTaken 62 = .ok (.iload 4, 2) := by decide +kernel
theorem dX10_isTaken_64 : decode cX10_isTaken 64 = .ok (.iconst 1, 1) := by decide +kernel
theorem dX10_isTaken_65 : decode cX10_isTaken 65 = .ok (.iadd, 1) := by decide +kernel
theorem dX10_isTaken_66 : decode cX10_isTaken 66 = .ok (.iaload, 1) := by decide +kernel
theorem dX10_isTaken_67 : decode cX10_isTaken 67 = .ok (.if_icmp .ge 7, 3) := by decide +kernel
theorem dX10_isTaken_70 : decode cX10_isTaken 70 = .ok (.iconst 1, 1) := by decide +kernel
theorem dX10_isTaken_71 : decode cX10_isTaken 71 = .ok (.goto 4, 3) := by decide +kernel
theorem dX10_isTaken_74 : decode cX10_isTaken 74 = .ok (.iconst 0, 1) := by decide +kernel
theorem dX10_isTaken_75 : decode cX10_isTaken 75 = .ok (.istore 5, 2) := by decide +kernel
theorem dX10_isTaken_77 : decode cX10_isTaken 77 = .ok (.iload 5, 2) := by decide +kernel
theorem dX10_isTaken_79 : decode cX10_isTaken 79 = .ok (.ifCond .eq 111, 3) := by decide +kernel
theorem dX10_isTaken_82 : decode cX10_isTaken 82 = .ok (.aload_n 0, 1) := by decide +kernel
theorem dX10_isTaken_83 : decode cX10_isTaken 83 = .ok (.getfield 63, 3) := by decide +kernel
theorem dX10_isTaken_86 : decode cX10_isTaken 86 = .ok (.iload 4, 2) := by decide +kernel
theorem dX10_isTaken_88 : decode cX10_isTaken 88 = .ok (.iconst 2, 1) := by decide +kernel
theorem dX10_isTaken_89 : decode cX10_isTaken 89 = .ok (.iadd, 1) := by decide +kernel
theorem dX10_isTaken_90 : decode cX10_isTaken 90 = .ok (.iaload, 1) := by decide +kernel
theorem dX10_isTaken_91 : decode cX10_isTaken 91 = .ok (.ifCond .eq 19, 3) := by decide +kernel
theorem dX10_isTaken_94 : decode cX10_isTaken 94 = .ok (.aload_n 0, 1) := by decide +kernel
theorem dX10_isTaken_95 : decode cX10_isTaken 95 = .ok (.getfield 63, 3) := by decide +kernel
theorem dX10_isTaken_98 : decode cX10_isTaken 98 = .ok (.iload 4, 2) := by decide +kernel
theorem dX10_isTaken_100 : decode cX10_isTaken 100 = .ok (.iconst 2, 1) := by decide +kernel
theorem dX10_isTaken_101 : decode cX10_isTaken 101 = .ok (.iadd, 1) := by decide +kernel
theorem dX10_isTaken_102 : decode cX10_isTaken 102 = .ok (.iaload, 1) := by decide +kernel
theorem dX10_isTaken_103 : decode cX10_isTaken 103 = .ok (.aload_n 0, 1) := by decide +kernel
theorem dX10_isTaken_104 : decode cX10_isTaken 104 = .ok (.getfield 252, 3) := by decide +kernel
theorem dX10_isTaken_107 : decode cX10_isTaken 107 = .ok (.if_icmp .ne 83, 3) := by decide +kernel
theorem dX10_isTaken_110 : decode cX10_isTaken 110 = .ok (.aload_n 0, 1) := by decide +kernel
theorem dX10_isTaken_111 : decode cX10_isTaken 111 = .ok (.iload_n 2, 1) := by decide +kernel
theorem dX10_isTaken_112 : decode cX10_isTaken 112 = .ok (.aload_n 0, 1) := by decide +kernel
theorem dX10_isTaken_113 : decode cX10_isTaken 113 = .ok (.getfield 63, 3) := by decide +kernel
theorem dX10_isTaken_116 : decode cX10_isTaken 116 = .ok (.iload 4, 2) := by decide +kernel
theorem dX10_isTaken_118 : decode cX10_isTaken 118 = .ok (.iconst 3, 1) := by decide +kernel
theorem dX10_isTaken_119 : decode cX10_isTaken 119 = .ok (.iadd, 1) := by decide +kernel
theorem dX10_isTaken_120 : decode cX10_isTaken 120 = .ok (.iaload, 1) := by decide +kernel
theorem dX10_isTaken_121 : decode cX10_isTaken 121 = .ok (.invokevirtual 245, 3) := by decide +kernel
theorem dX10_isTaken_124 : decode cX10_isTaken 124 = .ok (.ifCond .eq 66, 3) := by decide +kernel
theorem dX10_isTaken_127 : decode cX10_isTaken 127 = .ok (.aload_n 0, 1) := by decide +kernel
theorem dX10_isTaken_128 : decode cX10_isTaken 128 = .ok (.dup, 1) := by decide +kernel
theorem dX10_isTaken_129 : decode cX10_isTaken 129 = .ok (.getfield 255, 3) := by decide +kernel
theorem dX10_isTaken_132 : decode cX10_isTaken 132 = .ok (.iconst 1, 1) := by decide +kernel
theorem dX10_isTaken_133 : decode cX10_isTaken 133 = .ok (.iadd, 1) := by decide +kernel
theorem dX10_isTaken_134 : decode cX10_isTaken 134 = .ok (.putfield 255, 3) := by decide +kernel
theorem dX10_isTaken_137 : decode cX10_isTaken 137 = .ok (.aload_n 0, 1) := by decide +kernel
theorem dX10_isTaken_138 : decode cX10_isTaken 138 = .ok (.getfield 75, 3) := by decide +kernel
theorem dX10_isTaken_141 : decode cX10_isTaken 141 = .ok (.bipush 8, 2) := by decide +kernel
theorem dX10_isTaken_143 : decode cX10_isTaken 143 = .ok (.iload_n 1, 1) := by decide +kernel
theorem dX10_isTaken_144 : decode cX10_isTaken 144 = .ok (.imul, 1) := by decide +kernel
theorem dX10_isTaken_145 : decode cX10_isTaken 145 = .ok (.aload_n 0, 1) := by decide +kernel
theorem dX10_isTaken_146 : decode cX10_isTaken 146 = .ok (.getfield 258, 3) := by decide +kernel
theorem dX10_isTaken_149 : decode cX10_isTaken 149 = .ok (.lastore, 1) := by decide +kernel
theorem dX10_isTaken_150 : decode cX10_isTaken 150 = .ok (.aload_n 0, 1) := by decide +kernel
theorem dX10_isTaken_151 : decode cX10_isTaken 151 = .ok (.getfield 75, 3) := by decide +kernel
theorem dX10_isTaken_154 : decode cX10_isTaken 154 = .ok (.bipush 8, 2) := by decide +kernel
theorem dX10_isTaken_156 : decode cX10_isTaken 156 = .ok (.iload_n 1, 1) := by decide +kernel
theorem dX10_isTaken_157 : decode cX10_isTaken 157 = .ok (.imul, 1) := by decide +kernel
theorem dX10_isTaken_158 : decode cX10_isTaken 158 = .ok (.iconst 1, 1) := by decide +kernel
theorem dX10_isTaken_159 : decode cX10_isTaken 159 = .ok (.iadd, 1) := by decide +kernel
theorem dX10_isTaken_160 : decode cX10_isTaken 160 = .ok (.aload_n 0, 1) := by decide +kernel
theorem dX10_isTaken_161 : decode cX10_isTaken 161 = .ok (.getfield 252, 3) := by decide +kernel
theorem dX10_isTaken_164 : decode cX10_isTaken 164 = .ok (.i2l, 1) := by decide +kernel
theorem dX10_isTaken_165 : decode cX10_isTaken 165 = .ok (.lastore, 1) := by decide +kernel
theorem dX10_isTaken_166 : decode cX10_isTaken 166 = .ok (.aload_n 0, 1) := by decide +kernel
theorem dX10_isTaken_167 : decode cX10_isTaken 167 = .ok (.getfield 78, 3) := by decide +kernel
theorem dX10_isTaken_170 : decode cX10_isTaken 170 = .ok (.iload_n 1, 1) := by decide +kernel
theorem dX10_isTaken_171 : decode cX10_isTaken 171 = .ok (.iconst 2, 1) := by decide +kernel
theorem dX10_isTaken_172 : decode cX10_isTaken 172 = .ok (.iastore, 1) := by decide +kernel
theorem dX10_isTaken_173 : decode cX10_isTaken 173 = .ok (.aload_n 0, 1) := by decide +kernel
theorem dX10_isTaken_174 : decode cX10_isTaken 174 = .ok (.getfield 69, 3) := by decide +kernel
theorem dX10_isTaken_177 : decode cX10_isTaken 177 = .ok (.iload_n 1, 1) := by decide +kernel
theorem dX10_isTaken_178 : decode cX10_isTaken 178 = .ok (.aload_n 0, 1) := by decide +kernel
theorem dX10_isTaken_179 : decode cX10_isTaken 179 = .ok (.getfield 63, 3) := by decide +kernel
theorem dX10_isTaken_182 : decode cX10_isTaken 182 = .ok (.iload 4, 2) := by decide +kernel
theorem dX10_isTaken_184 : decode cX10_isTaken 184 = .ok (.iconst 3, 1) := by decide +kernel
theorem dX10_isTaken_185 : decode cX10_isTaken 185 = .ok (.iadd, 1) := by decide +kernel
theorem dX10_isTaken_186 : decode cX10_isTaken 186 = .ok (.iaload, 1) := by decide +kernel
theorem dX10_isTaken_187 : decode cX10_isTaken 187 = .ok (.iastore, 1) := by decide +kernel
theorem dX10_isTaken_188 : decode cX10_isTaken 188 = .ok (.iconst 1, 1) := by decide +kernel
theorem dX10_isTaken_189 : decode cX10_isTaken 189 = .ok (.ireturn, 1) := by decide +kernel
theorem dX10_isTaken_190 : decode cX10_isTaken 190 = .ok (.iinc 3 1, 3) := by decide +kernel
theorem dX10_isTaken_193 : decode cX10_isTaken 193 = .ok (.goto (-177), 3) := by decide +kernel
theorem dX10_isTaken_196 : decode cX10_isTaken 196 = .ok (.iconst 0, 1) := by decide +kernel
theorem dX10_isTaken_197 : decode cX10_isTaken 197 = .ok (.ireturn, 1) := by decide +kernel
theorem dX10_goesUp_0 : decode cX10_goesUp 0 = .ok (.iconst 1, 1) := by decide +kernel
theorem dX10_goesUp_1 : decode cX10_goesUp 1 = .ok (.istore_n 1, 1) := by decide +kernel
theorem dX10_goesUp_2 : decode cX10_goesUp 2 = .ok (.iload_n 1, 1) := by decide +kernel
theorem dX10_goesUp_3 : decode cX10_goesUp 3 = .ok (.ifCond .eq 67, 3) := by decide +kernel
theorem dX10_goesUp_6 : decode cX10_goesUp 6 = .ok (.aload_n 0, 1) := by decide +kernel
theorem dX10_goesUp_7 : decode cX10_goesUp 7 = .ok (.getfield 239, 3) := by decide +kernel
theorem dX10_goesUp_10 : decode cX10_goesUp 10 = .ok (.ifCond .le 60, 3) := by decide +kernel
theorem dX10_goesUp_13 : decode cX10_goesUp 13 = .ok (.aload_n 0, 1) := by decide +kernel
theorem dX10_goesUp_14 : decode cX10_goesUp 14 = .ok (.invokevirtual 261, 3) := by decide +kernel
theorem dX10_goesUp_17 : decode cX10_goesUp 17 = .ok (.ifCond .eq 8, 3) := by decide +kernel
theorem dX10_goesUp_20 : decode cX10_goesUp 20 = .ok (.iconst 0, 1) := by decide +kernel
theorem dX10_goesUp_21 : decode cX10_goesUp 21 = .ok (.istore_n 1, 1) := by decide +kernel
theorem dX10_goesUp_22 : decode cX10_goesUp 22 = .ok (.goto (-20), 3) := by decide +kernel
theorem dX10_goesUp_25 : decode cX10_goesUp 25 = .ok (.aload_n 0, 1) := by decide +kernel
theorem dX10_goesUp_26 : decode cX10_goesUp 26 = .ok (.invokevirtual 265, 3) := by decide +kernel
theorem dX10_goesUp_29 : decode cX10_goesUp 29 = .ok (.ifCond .eq 28, 3) := by decide +kernel
theorem dX10_goesUp_32 : decode cX10_goesUp 32 = .ok (.aload_n 0, 1) := by decide +kernel
theorem dX10_goesUp_33 : decode cX10_goesUp 33 = .ok (.aload_n 0, 1) := by decide +kernel
theorem dX10_goesUp_34 : decode cX10_goesUp 34 = .ok (.getfield 252, 3) := by decide +kernel
theorem dX10_goesUp_37 : decode cX10_goesUp 37 = .ok (.aload_n 0, 1) := by decide +kernel
theorem dX10_goesUp_38 : decode cX10_goesUp 38 = .ok (.getfield 258, 3) := by decide +kernel
theorem dX10_goesUp_41 : decode cX10_goesUp 41 = .ok (.aload_n 0, 1) := by decide +kernel
theorem dX10_goesUp_42 : decode cX10_goesUp 42 = .ok (.getfield 268, 3) := by decide +kernel
theorem dX10_goesUp_45 : decode cX10_goesUp 45 = .ok (.aload_n 0, 1) := by decide +kernel
theorem dX10_goesUp_46 : decode cX10_goesUp 46 = .ok (.getfield 271, 3) := by decide +kernel
theorem dX10_goesUp_49 : decode cX10_goesUp 49 = .ok (.invokevirtual 274, 3) := by decide +kernel
theorem dX10_goesUp_52 : decode cX10_goesUp 52 = .ok (.iconst 0, 1) := by decide +kernel
theorem dX10_goesUp_53 : decode cX10_goesUp 53 = .ok (.istore_n 1, 1) := by decide +kernel
theorem dX10_goesUp_54 : decode cX10_goesUp 54 = .ok (.goto (-52), 3) := by decide +kernel
theorem dX10_goesUp_57 : decode cX10_goesUp 57 = .ok (.aload_n 0, 1) := by decide +kernel
theorem dX10_goesUp_58 : decode cX10_goesUp 58 = .ok (.dup, 1) := by decide +kernel
theorem dX10_goesUp_59 : decode cX10_goesUp 59 = .ok (.getfield 239, 3) := by decide +kernel
theorem dX10_goesUp_62 : decode cX10_goesUp 62 = .ok (.iconst 1, 1) := by decide +kernel
theorem dX10_goesUp_63 : decode cX10_goesUp 63 = .ok (.isub, 1) := by decide +kernel
theorem dX10_goesUp_64 : decode cX10_goesUp 64 = .ok (.putfield 239, 3) := by decide +kernel
theorem dX10_goesUp_67 : decode cX10_goesUp 67 = .ok (.goto (-65), 3) := by decide +kernel
theorem dX10_goesUp_70 : decode cX10_goesUp 70 = .ok (.aload_n 0, 1) := by decide +kernel
theorem dX10_goesUp_71 : decode cX10_goesUp 71 = .ok (.getfield 239, 3) := by decide +kernel
theorem dX10_goesUp_74 : decode cX10_goesUp 74 = .ok (.ifCond .ne 40, 3) := by decide +kernel
theorem dX10_goesUp_77 : decode cX10_goesUp 77 = .ok (.aload_n 0, 1) := by decide +kernel
theorem dX10_goesUp_78 : decode cX10_goesUp 78 = .ok (.iconst 2, 1) := by decide +kernel
theorem dX10_goesUp_79 : decode cX10_goesUp 79 = .ok (.putfield 278, 3) := by decide +kernel
theorem dX10_goesUp_82 : decode cX10_goesUp 82 = .ok (.aload_n 0, 1) := by decide +kernel
theorem dX10_goesUp_83 : decode cX10_goesUp 83 = .ok (.aload_n 0, 1) := by decide +kernel
theorem dX10_goesUp_84 : decode cX10_goesUp 84 = .ok (.getfield 252, 3) := by decide +kernel
theorem dX10_goesUp_87 : decode cX10_goesUp 87 = .ok (.putfield 281, 3) := by decide +kernel
theorem dX10_goesUp_90 : decode cX10_goesUp 90 = .ok (.aload_n 0, 1) := by decide +kernel
theorem dX10_goesUp_91 : decode cX10_goesUp 91 = .ok (.aload_n 0, 1) := by decide +kernel
theorem dX10_goesUp_92 : decode cX10_goesUp 92 = .ok (.getfield 258, 3) := by decide +kernel
theorem dX10_goesUp_95 : decode cX10_goesUp 95 = .ok (.putfield 284, 3) := by decide +kernel
theorem dX10_goesUp_98 : decode cX10_goesUp 98 = .ok (.aload_n 0, 1) := by decide +kernel
theorem dX10_goesUp_99 : decode cX10_goesUp 99 = .ok (.aload_n 0, 1) := by decide +kernel
theorem dX10_goesUp_100 : decode cX10_goesUp 100 = .ok (.getfield 268, 3) := by decide +kernel
theorem dX10_goesUp_103 : decode cX10_goesUp 103 = .ok (.putfield 100, 3) := by decide +kernel
theorem dX10_goesUp_106 : decode cX10_goesUp 106 = .ok (.aload_n 0, 1) := by decide +kernel
theorem dX10_goesUp_107 : decode cX10_goesUp 107 = .ok (.aload_n 0, 1) := by decide +kernel
theorem dX10_goesUp_108 : decode cX10_goesUp 108 = .ok (.getfield 271, 3) := by decide +kernel
theorem dX10_goesUp_111 : decode cX10_goesUp 111 = .ok (.putfield 104, 3) := by decide +kernel
theorem dX10_goesUp_114 : decode cX10_goesUp 114 = .ok (.return_, 1) := by decide +kernel
theorem dX10_comes_0 : decode cX10_comes 0 = .ok (.aload_n 0, 1) := by decide +kernel
theorem dX10_comes_1 : decode cX10_comes 1 = .ok (.dup, 1) := by decide +kernel
theorem dX10_comes_2 : decode cX10_comes 2 = .ok (.getfield 287, 3) := by decide +kernel
theorem dX10_comes_5 : decode cX10_comes 5 = .ok (.iconst 1, 1) := by decide +kernel
theorem dX10_comes_6 : decode cX10_comes 6 = .ok (.iadd, 1) := by decide +kernel
theorem dX10_comes_7 : decode cX10_comes 7 = .ok (.putfield 287, 3) := by decide +kernel
theorem dX10_comes_10 : decode cX10_comes 10 = .ok (.aload_n 0, 1) := by decide +kernel
theorem dX10_comes_11 : decode cX10_comes 11 = .ok (.getfield 287, 3) := by decide +kernel
theorem dX10_comes_14 : decode cX10_comes 14 = .ok (.bipush 25, 2) := by decide +kernel
theorem dX10_comes_16 : decode cX10_comes 16 = .ok (.if_icmp .ne 9, 3) := by decide +kernel
theorem dX10_comes_19 : decode cX10_comes 19 = .ok (.aload_n 0, 1) := by decide +kernel
theorem dX10_comes_20 : decode cX10_comes 20 = .ok (.iconst 3, 1) := by decide +kernel
theorem dX10_comes_21 : decode cX10_comes 21 = .ok (.putfield 278, 3) := by decide +kernel
theorem dX10_comes_24 : decode cX10_comes 24 = .ok (.return_, 1) := by decide +kernel
theorem dX10_comes_25 : decode cX10_comes 25 = .ok (.aload_n 0, 1) := by decide +kernel
theorem dX10_comes_26 : decode cX10_comes 26 = .ok (.iload_n 1, 1) := by decide +kernel
theorem dX10_comes_27 : decode cX10_comes 27 = .ok (.putfield 252, 3) := by decide +kernel
theorem dX10_comes_30 : decode cX10_comes 30 = .ok (.aload_n 0, 1) := by decide +kernel
theorem dX10_comes_31 : decode cX10_comes 31 = .ok (.lload_n 2, 1) := by decide +kernel
theorem dX10_comes_32 : decode cX10_comes 32 = .ok (.putfield 258, 3) := by decide +kernel
theorem dX10_comes_35 : decode cX10_comes 35 = .ok (.aload_n 0, 1) := by decide +kernel
theorem dX10_comes_36 : decode cX10_comes 36 = .ok (.aload_n 0, 1) := by decide +kernel
theorem dX10_comes_37 : decode cX10_comes 37 = .ok (.getfield 66, 3) := by decide +kernel
theorem dX10_comes_40 : decode cX10_comes 40 = .ok (.aload_n 0, 1) := by decide +kernel
theorem dX10_comes_41 : decode cX10_comes 41 = .ok (.getfield 239, 3) := by decide +kernel
theorem dX10_comes_44 : decode cX10_comes 44 = .ok (.iconst 1, 1) := by decide +kernel
theorem dX10_comes_45 : decode cX10_comes 45 = .ok (.isub, 1) := by decide +kernel
theorem dX10_comes_46 : decode cX10_comes 46 = .ok (.iaload, 1) := by decide +kernel
theorem dX10_comes_47 : decode cX10_comes 47 = .ok (.putfield 268, 3) := by decide +kernel
theorem dX10_comes_50 : decode cX10_comes 50 = .ok (.aload_n 0, 1) := by decide +kernel
theorem dX10_comes_51 : decode cX10_comes 51 = .ok (.aload_n 0, 1) := by decide +kernel
theorem dX10_comes_52 : decode cX10_comes 52 = .ok (.getfield 69, 3) := by decide +kernel
theorem dX10_comes_55 : decode cX10_comes 55 = .ok (.aload_n 0, 1) := by decide +kernel
theorem dX10_comes_56 : decode cX10_comes 56 = .ok (.getfield 239, 3) := by decide +kernel
theorem dX10_comes_59 : decode cX10_comes 59 = .ok (.iconst 1, 1) := by decide +kernel
theorem dX10_comes_60 : decode cX10_comes 60 = .ok (.isub, 1) := by decide +kernel
theorem dX10_comes_61 : decode cX10_comes 61 = .ok (.iaload, 1) := by decide +kernel
theorem dX10_comes_62 : decode cX10_comes 62 = .ok (.putfield 271, 3) := by decide +kernel
theorem dX10_comes_65 : decode cX10_comes 65 = .ok (.aload_n 0, 1) := by decide +kernel
theorem dX10_comes_66 : decode cX10_comes 66 = .ok (.invokevirtual 290, 3) := by decide +kernel
theorem dX10_comes_69 : decode cX10_comes 69 = .ok (.return_, 1) := by decide +kernel
theorem dX10_goesTo_0 : decode cX10_goesTo 0 = .ok (.aload_n 0, 1) := by decide +kernel
theorem dX10_goesTo_1 : decode cX10_goesTo 1 = .ok (.getfield 239, 3) := by decide +kernel
theorem dX10_goesTo_4 : decode cX10_goesTo 4 = .ok (.iconst 1, 1) := by decide +kernel
theorem dX10_goesTo_5 : decode cX10_goesTo 5 = .ok (.isub, 1) := by decide +kernel
theorem dX10_goesTo_6 : decode cX10_goesTo 6 = .ok (.istore_n 2, 1) := by decide +kernel
theorem dX10_goesTo_7 : decode cX10_goesTo 7 = .ok (.aload_n 0, 1) := by decide +kernel
theorem dX10_goesTo_8 : decode cX10_goesTo 8 = .ok (.aload_n 0, 1) := by decide +kernel
theorem dX10_goesTo_9 : decode cX10_goesTo 9 = .ok (.getfield 66, 3) := by decide +kernel
theorem dX10_goesTo_12 : decode cX10_goesTo 12 = .ok (.iload_n 2, 1) := by decide +kernel
theorem dX10_goesTo_13 : decode cX10_goesTo 13 = .ok (.iaload, 1) := by decide +kernel
theorem dX10_goesTo_14 : decode cX10_goesTo 14 = .ok (.iload_n 1, 1) := by decide +kernel
theorem dX10_goesTo_15 : decode cX10_goesTo 15 = .ok (.invokevirtual 245, 3) := by decide +kernel
theorem dX10_goesTo_18 : decode cX10_goesTo 18 = .ok (.ifCond .eq 13, 3) := by decide +kernel
theorem dX10_goesTo_21 : decode cX10_goesTo 21 = .ok (.aload_n 0, 1) := by decide +kernel
theorem dX10_goesTo_22 : decode cX10_goesTo 22 = .ok (.getfield 69, 3) := by decide +kernel
theorem dX10_goesTo_25 : decode cX10_goesTo 25 = .ok (.iload_n 2, 1) := by decide +kernel
theorem dX10_goesTo_26 : decode cX10_goesTo 26 = .ok (.iload_n 1, 1) := by decide +kernel
theorem dX10_goesTo_27 : decode cX10_goesTo 27 = .ok (.iastore, 1) := by decide +kernel
theorem dX10_goesTo_28 : decode cX10_goesTo 28 = .ok (.goto 10, 3) := by decide +kernel
theorem dX10_goesTo_31 : decode cX10_goesTo 31 = .ok (.aload_n 0, 1) := by decide +kernel
theorem dX10_goesTo_32 : decode cX10_goesTo 32 = .ok (.bipush 10, 2) := by decide +kernel
theorem dX10_goesTo_34 : decode cX10_goesTo 34 = .ok (.lconst 0, 1) := by decide +kernel
theorem dX10_goesTo_35 : decode cX10_goesTo 35 = .ok (.invokevirtual 293, 3) := by decide +kernel
theorem dX10_goesTo_38 : decode cX10_goesTo 38 = .ok (.return_, 1) := by decide +kernel
theorem dX10_lays_0 : decode cX10_lays 0 = .ok (.aload_n 0, 1) := by decide +kernel
theorem dX10_lays_1 : decode cX10_lays 1 = .ok (.getfield 239, 3) := by decide +kernel
theorem dX10_lays_4 : decode cX10_lays 4 = .ok (.iconst 1, 1) := by decide +kernel
theorem dX10_lays_5 : decode cX10_lays 5 = .ok (.isub, 1) := by decide +kernel
theorem dX10_lays_6 : decode cX10_lays 6 = .ok (.istore_n 3, 1) := by decide +kernel
theorem dX10_lays_7 : decode cX10_lays 7 = .ok (.aload_n 0, 1) := by decide +kernel
theorem dX10_lays_8 : decode cX10_lays 8 = .ok (.getfield 78, 3) := by decide +kernel
theorem dX10_lays_11 : decode cX10_lays 11 = .ok (.iload_n 3, 1) := by decide +kernel
theorem dX10_lays_12 : decode cX10_lays 12 = .ok (.iaload, 1) := by decide +kernel
theorem dX10_lays_13 : decode cX10_lays 13 = .ok (.bipush 8, 2) := by decide +kernel
theorem dX10_lays_15 : decode cX10_lays 15 = .ok (.if_icmp .ne 11, 3) := by decide +kernel
theorem dX10_lays_18 : decode cX10_lays 18 = .ok (.aload_n 0, 1) := by decide +kernel
theorem dX10_lays_19 : decode cX10_lays 19 = .ok (.bipush 8, 2) := by decide +kernel
theorem dX10_lays_21 : decode cX10_lays 21 = .ok (.lconst 0, 1) := by decide +kernel
theorem dX10_lays_22 : decode cX10_lays 22 = .ok (.invokevirtual 293, 3) := by decide +kernel
theorem dX10_lays_25 : decode cX10_lays 25 = .ok (.return_, 1) := by decide +kernel
theorem dX10_lays_26 : decode cX10_lays 26 = .ok (.aload_n 0, 1) := by decide +kernel
theorem dX10_lays_27 : decode cX10_lays 27 = .ok (.getfield 75, 3) := by decide +kernel
theorem dX10_lays_30 : decode cX10_lays 30 = .ok (.bipush 8, 2) := by decide +kernel
theorem dX10_lays_32 : decode cX10_lays 32 = .ok (.iload_n 3, 1) := by decide +kernel
theorem dX10_lays_33 : decode cX10_lays 33 = .ok (.imul, 1) := by decide +kernel
theorem dX10_lays_34 : decode cX10_lays 34 = .ok (.aload_n 0, 1) := by decide +kernel
theorem dX10_lays_35 : decode cX10_lays 35 = .ok (.getfield 78, 3) := by decide +kernel
theorem dX10_lays_38 : decode cX10_lays 38 = .ok (.iload_n 3, 1) := by decide +kernel
theorem dX10_lays_39 : decode cX10_lays 39 = .ok (.iaload, 1) := by decide +kernel
theorem dX10_lays_40 : decode cX10_lays 40 = .ok (.iadd, 1) := by decide +kernel
theorem dX10_lays_41 : decode cX10_lays 41 = .ok (.lload_n 1, 1) := by decide +kernel
theorem dX10_lays_42 : decode cX10_lays 42 = .ok (.lastore, 1) := by decide +kernel
theorem dX10_lays_43 : decode cX10_lays 43 = .ok (.aload_n 0, 1) := by decide +kernel
theorem dX10_lays_44 : decode cX10_lays 44 = .ok (.getfield 78, 3) := by decide +kernel
theorem dX10_lays_47 : decode cX10_lays 47 = .ok (.iload_n 3, 1) := by decide +kernel
theorem dX10_lays_48 : decode cX10_lays 48 = .ok (.dup2, 1) := by decide +kernel
theorem dX10_lays_49 : decode cX10_lays 49 = .ok (.iaload, 1) := by decide +kernel
theorem dX10_lays_50 : decode cX10_lays 50 = .ok (.iconst 1, 1) := by decide +kernel
theorem dX10_lays_51 : decode cX10_lays 51 = .ok (.iadd, 1) := by decide +kernel
theorem dX10_lays_52 : decode cX10_lays 52 = .ok (.iastore, 1) := by decide +kernel
theorem dX10_lays_53 : decode cX10_lays 53 = .ok (.aload_n 0, 1) := by decide +kernel
theorem dX10_lays_54 : decode cX10_lays 54 = .ok (.aload_n 0, 1) := by decide +kernel
theorem dX10_lays_55 : decode cX10_lays 55 = .ok (.getfield 69, 3) := by decide +kernel
theorem dX10_lays_58 : decode cX10_lays 58 = .ok (.iload_n 3, 1) := by decide +kernel
theorem dX10_lays_59 : decode cX10_lays 59 = .ok (.iaload, 1) := by decide +kernel
theorem dX10_lays_60 : decode cX10_lays 60 = .ok (.iconst 1, 1) := by decide +kernel
theorem dX10_lays_61 : decode cX10_lays 61 = .ok (.iadd, 1) := by decide +kernel
theorem dX10_lays_62 : decode cX10_lays 62 = .ok (.invokevirtual 297, 3) := by decide +kernel
theorem dX10_lays_65 : decode cX10_lays 65 = .ok (.return_, 1) := by decide +kernel
theorem dX10_goesOn_0 : decode cX10_goesOn 0 = .ok (.aload_n 0, 1) := by decide +kernel
theorem dX10_goesOn_1 : decode cX10_goesOn 1 = .ok (.aload_n 0, 1) := by decide +kernel
theorem dX10_goesOn_2 : decode cX10_goesOn 2 = .ok (.getfield 69, 3) := by decide +kernel
theorem dX10_goesOn_5 : decode cX10_goesOn 5 = .ok (.aload_n 0, 1) := by decide +kernel
theorem dX10_goesOn_6 : decode cX10_goesOn 6 = .ok (.getfield 239, 3) := by decide +kernel
theorem dX10_goesOn_9 : decode cX10_goesOn 9 = .ok (.iconst 1, 1) := by decide +kernel
theorem dX10_goesOn_10 : decode cX10_goesOn 10 = .ok (.isub, 1) := by decide +kernel
theorem dX10_goesOn_11 : decode cX10_goesOn 11 = .ok (.iaload, 1) := by decide +kernel
theorem dX10_goesOn_12 : decode cX10_goesOn 12 = .ok (.iconst 1, 1) := by decide +kernel
theorem dX10_goesOn_13 : decode cX10_goesOn 13 = .ok (.iadd, 1) := by decide +kernel
theorem dX10_goesOn_14 : decode cX10_goesOn 14 = .ok (.invokevirtual 297, 3) := by decide +kernel
theorem dX10_goesOn_17 : decode cX10_goesOn 17 = .ok (.return_, 1) := by decide +kernel
theorem dX10_endsWith_0 : decode cX10_endsWith 0 = .ok (.aload_n 0, 1) := by decide +kernel
theorem dX10_endsWith_1 : decode cX10_endsWith 1 = .ok (.dup, 1) := by decide +kernel
theorem dX10_endsWith_2 : decode cX10_endsWith 2 = .ok (.getfield 239, 3) := by decide +kernel
theorem dX10_endsWith_5 : decode cX10_endsWith 5 = .ok (.iconst 1, 1) := by decide +kernel
theorem dX10_endsWith_6 : decode cX10_endsWith 6 = .ok (.isub, 1) := by decide +kernel
theorem dX10_endsWith_7 : decode cX10_endsWith 7 = .ok (.putfield 239, 3) := by decide +kernel
theorem dX10_endsWith_10 : decode cX10_endsWith 10 = .ok (.aload_n 0, 1) := by decide +kernel
theorem dX10_endsWith_11 : decode cX10_endsWith 11 = .ok (.getfield 239, 3) := by decide +kernel
theorem dX10_endsWith_14 : decode cX10_endsWith 14 = .ok (.ifCond .ne 16, 3) := by decide +kernel
theorem dX10_endsWith_17 : decode cX10_endsWith 17 = .ok (.aload_n 0, 1) := by decide +kernel
theorem dX10_endsWith_18 : decode cX10_endsWith 18 = .ok (.iconst 1, 1) := by decide +kernel
theorem dX10_endsWith_19 : decode cX10_endsWith 19 = .ok (.putfield 278, 3) := by decide +kernel
theorem dX10_endsWith_22 : decode cX10_endsWith 22 = .ok (.aload_n 0, 1) := by decide +kernel
theorem dX10_endsWith_23 : decode cX10_endsWith 23 = .ok (.lload_n 1, 1) := by decide +kernel
theorem dX10_endsWith_24 : decode cX10_endsWith 24 = .ok (.putfield 301, 3) := by decide +kernel
theorem dX10_endsWith_27 : decode cX10_endsWith 27 = .ok (.goto 8, 3) := by decide +kernel
theorem dX10_endsWith_30 : decode cX10_endsWith 30 = .ok (.aload_n 0, 1) := by decide +kernel
theorem dX10_endsWith_31 : decode cX10_endsWith 31 = .ok (.lload_n 1, 1) := by decide +kernel
theorem dX10_endsWith_32 : decode cX10_endsWith 32 = .ok (.invokevirtual 304, 3) := by decide +kernel
theorem dX10_endsWith_35 : decode cX10_endsWith 35 = .ok (.return_, 1) := by decide +kernel
theorem dX10_takes_0 : decode cX10_takes 0 = .ok (.iload_n 0, 1) := by decide +kernel
theorem dX10_takes_1 : decode cX10_takes 1 = .ok (.tableswitch 139 2 26 #[115, 117, 117, 117, 117, 117, 117, 117, 139, 115, 115, 117, 139, 115, 139, 115, 117, 119, 115, 115, 139, 121, 137, 117, 115], 115) := by decide +kernel
theorem dX10_takes_116 : decode cX10_takes 116 = .ok (.iconst 1, 1) := by decide +kernel
theorem dX10_takes_117 : decode cX10_takes 117 = .ok (.ireturn, 1) := by decide +kernel
theorem dX10_takes_118 : decode cX10_takes 118 = .ok (.iconst 2, 1) := by decide +kernel
theorem dX10_takes_119 : decode cX10_takes 119 = .ok (.ireturn, 1) := by decide +kernel
theorem dX10_takes_120 : decode cX10_takes 120 = .ok (.iload_n 2, 1) := by decide +kernel
theorem dX10_takes_121 : decode cX10_takes 121 = .ok (.ireturn, 1) := by decide +kernel
theorem dX10_takes_122 : decode cX10_takes 122 = .ok (.iload_n 1, 1) := by decide +kernel
theorem dX10_takes_123 : decode cX10_takes 123 = .ok (.iconst 1, 1) := by decide +kernel
theorem dX10_takes_124 : decode cX10_takes 124 = .ok (.if_icmp .eq 8, 3) := by decide +kernel
theorem dX10_takes_127 : decode cX10_takes 127 = .ok (.iload_n 1, 1) := by decide +kernel
theorem dX10_takes_128 : decode cX10_takes 128 = .ok (.iconst 5, 1) := by decide +kernel
theorem dX10_takes_129 : decode cX10_takes 129 = .ok (.if_icmp .le 7, 3) := by decide +kernel
theorem dX10_takes_132 : decode cX10_takes 132 = .ok (.iconst 2, 1) := by decide +kernel
theorem dX10_takes_133 : decode cX10_takes 133 = .ok (.goto 4, 3) := by decide +kernel
theorem dX10_takes_136 : decode cX10_takes 136 = .ok (.iconst 1, 1) := by decide +kernel
theorem dX10_takes_137 : decode cX10_takes 137 = .ok (.ireturn, 1) := by decide +kernel
theorem dX10_takes_138 : decode cX10_takes 138 = .ok (.iconst 3, 1) := by decide +kernel
theorem dX10_takes_139 : decode cX10_takes 139 = .ok (.ireturn, 1) := by decide +kernel
theorem dX10_takes_140 : decode cX10_takes 140 = .ok (.iconst 0, 1) := by decide +kernel
theorem dX10_takes_141 : decode cX10_takes 141 = .ok (.ireturn, 1) := by decide +kernel
theorem dX10_step_0 : decode cX10_step 0 = .ok (.aload_n 0, 1) := by decide +kernel
theorem dX10_step_1 : decode cX10_step 1 = .ok (.getfield 239, 3) := by decide +kernel
theorem dX10_step_4 : decode cX10_step 4 = .ok (.iconst 1, 1) := by decide +kernel
theorem dX10_step_5 : decode cX10_step 5 = .ok (.isub, 1) := by decide +kernel
theorem dX10_step_6 : decode cX10_step 6 = .ok (.istore_n 1, 1) := by decide +kernel
theorem dX10_step_7 : decode cX10_step 7 = .ok (.bipush 30, 2) := by decide +kernel
theorem dX10_step_9 : decode cX10_step 9 = .ok (.aload_n 0, 1) := by decide +kernel
theorem dX10_step_10 : decode cX10_step 10 = .ok (.getfield 66, 3) := by decide +kernel
theorem dX10_step_13 : decode cX10_step 13 = .ok (.iload_n 1, 1) := by decide +kernel
theorem dX10_step_14 : decode cX10_step 14 = .ok (.iaload, 1) := by decide +kernel
theorem dX10_step_15 : decode cX10_step 15 = .ok (.imul, 1) := by decide +kernel
theorem dX10_step_16 : decode cX10_step 16 = .ok (.aload_n 0, 1) := by decide +kernel
theorem dX10_step_17 : decode cX10_step 17 = .ok (.getfield 69, 3) := by decide +kernel
theorem dX10_step_20 : decode cX10_step 20 = .ok (.iload_n 1, 1) := by decide +kernel
theorem dX10_step_21 : decode cX10_step 21 = .ok (.iaload, 1) := by decide +kernel
theorem dX10_step_22 : decode cX10_step 22 = .ok (.iadd, 1) := by decide +kernel
theorem dX10_step_23 : decode cX10_step 23 = .ok (.istore_n 2, 1) := by decide +kernel
theorem dX10_step_24 : decode cX10_step 24 = .ok (.aload_n 0, 1) := by decide +kernel
theorem dX10_step_25 : decode cX10_step 25 = .ok (.getfield 54, 3) := by decide +kernel
theorem dX10_step_28 : decode cX10_step 28 = .ok (.iload_n 2, 1) := by decide +kernel
theorem dX10_step_29 : decode cX10_step 29 = .ok (.iaload, 1) := by decide +kernel
theorem dX10_step_30 : decode cX10_step 30 = .ok (.istore_n 3, 1) := by decide +kernel
theorem dX10_step_31 : decode cX10_step 31 = .ok (.aload_n 0, 1) := by decide +kernel
theorem dX10_step_32 : decode cX10_step 32 = .ok (.getfield 57, 3) := by decide +kernel
theorem dX10_step_35 : decode cX10_step 35 = .ok (.iload_n 2, 1) := by decide +kernel
theorem dX10_step_36 : decode cX10_step 36 = .ok (.iaload, 1) := by decide +kernel
theorem dX10_step_37 : decode cX10_step 37 = .ok (.istore 4, 2) := by decide +kernel
theorem dX10_step_39 : decode cX10_step 39 = .ok (.aload_n 0, 1) := by decide +kernel
theorem dX10_step_40 : decode cX10_step 40 = .ok (.getfield 60, 3) := by decide +kernel
theorem dX10_step_43 : decode cX10_step 43 = .ok (.iload_n 2, 1) := by decide +kernel
theorem dX10_step_44 : decode cX10_step 44 = .ok (.iaload, 1) := by decide +kernel
theorem dX10_step_45 : decode cX10_step 45 = .ok (.istore 5, 2) := by decide +kernel
theorem dX10_step_47 : decode cX10_step 47 = .ok (.iload_n 3, 1) := by decide +kernel
theorem dX10_step_48 : decode cX10_step 48 = .ok (.iload 4, 2) := by decide +kernel
theorem dX10_step_50 : decode cX10_step 50 = .ok (.iload 5, 2) := by decide +kernel
theorem dX10_step_52 : decode cX10_step 52 = .ok (.invokestatic 308, 3) := by decide +kernel
theorem dX10_step_55 : decode cX10_step 55 = .ok (.istore 6, 2) := by decide +kernel
theorem dX10_step_57 : decode cX10_step 57 = .ok (.aload_n 0, 1) := by decide +kernel
theorem dX10_step_58 : decode cX10_step 58 = .ok (.getfield 78, 3) := by decide +kernel
theorem dX10_step_61 : decode cX10_step 61 = .ok (.iload_n 1, 1) := by decide +kernel
theorem dX10_step_62 : decode cX10_step 62 = .ok (.iaload, 1) := by decide +kernel
theorem dX10_step_63 : decode cX10_step 63 = .ok (.iload 6, 2) := by decide +kernel
theorem dX10_step_65 : decode cX10_step 65 = .ok (.if_icmp .ge 11, 3) := by decide +kernel
theorem dX10_step_68 : decode cX10_step 68 = .ok (.aload_n 0, 1) := by decide +kernel
theorem dX10_step_69 : decode cX10_step 69 = .ok (.bipush 8, 2) := by decide +kernel
theorem dX10_step_71 : decode cX10_step 71 = .ok (.lconst 0, 1) := by decide +kernel
theorem dX10_step_72 : decode cX10_step 72 = .ok (.invokevirtual 293, 3) := by decide +kernel
theorem dX10_step_75 : decode cX10_step 75 = .ok (.return_, 1) := by decide +kernel
theorem dX10_step_76 : decode cX10_step 76 = .ok (.aload_n 0, 1) := by decide +kernel
theorem dX10_step_77 : decode cX10_step 77 = .ok (.getfield 78, 3) := by decide +kernel
theorem dX10_step_80 : decode cX10_step 80 = .ok (.iload_n 1, 1) := by decide +kernel
theorem dX10_step_81 : decode cX10_step 81 = .ok (.dup2, 1) := by decide +kernel
theorem dX10_step_82 : decode cX10_step 82 = .ok (.iaload, 1) := by decide +kernel
theorem dX10_step_83 : decode cX10_step 83 = .ok (.iload 6, 2) := by decide +kernel
theorem dX10_step_85 : decode cX10_step 85 = .ok (.isub, 1) := by decide +kernel
theorem dX10_step_86 : decode cX10_step 86 = .ok (.iastore, 1) := by decide +kernel
theorem dX10_step_87 : decode cX10_step 87 = .ok (.bipush 8, 2) := by decide +kernel
theorem dX10_step_89 : decode cX10_step 89 = .ok (.iload_n 1, 1) := by decide +kernel
theorem dX10_step_90 : decode cX10_step 90 = .ok (.imul, 1) := by decide +kernel
theorem dX10_step_91 : decode cX10_step 91 = .ok (.aload_n 0, 1) := by decide +kernel
theorem dX10_step_92 : decode cX10_step 92 = .ok (.getfield 78, 3) := by decide +kernel
theorem dX10_step_95 : decode cX10_step 95 = .ok (.iload_n 1, 1) := by decide +kernel
theorem dX10_step_96 : decode cX10_step 96 = .ok (.iaload, 1) := by decide +kernel
theorem dX10_step_97 : decode cX10_step 97 = .ok (.iadd, 1) := by decide +kernel
theorem dX10_step_98 : decode cX10_step 98 = .ok (.istore 7, 2) := by decide +kernel
theorem dX10_step_100 : decode cX10_step 100 = .ok (.iload 6, 2) := by decide +kernel
theorem dX10_step_102 : decode cX10_step 102 = .ok (.ifCond .le 13, 3) := by decide +kernel
theorem dX10_step_105 : decode cX10_step 105 = .ok (.aload_n 0, 1) := by decide +kernel
theorem dX10_step_106 : decode cX10_step 106 = .ok (.getfield 75, 3) := by decide +kernel
theorem dX10_step_109 : decode cX10_step 109 = .ok (.iload 7, 2) := by decide +kernel
theorem dX10_step_111 : decode cX10_step 111 = .ok (.laload, 1) := by decide +kernel
theorem dX10_step_112 : decode cX10_step 112 = .ok (.goto 4, 3) := by decide +kernel
theorem dX10_step_115 : decode cX10_step 115 = .ok (.lconst 0, 1) := by decide +kernel
theorem dX10_step_116 : decode cX10_step 116 = .ok (.lstore 8, 2) := by decide +kernel
theorem dX10_step_118 : decode cX10_step 118 = .ok (.iload 6, 2) := by decide +kernel
theorem dX10_step_120 : decode cX10_step 120 = .ok (.iconst 1, 1) := by decide +kernel
theorem dX10_step_121 : decode cX10_step 121 = .ok (.if_icmp .le 15, 3) := by decide +kernel
theorem dX10_step_124 : decode cX10_step 124 = .ok (.aload_n 0, 1) := by decide +kernel
theorem dX10_step_125 : decode cX10_step 125 = .ok (.getfield 75, 3) := by decide +kernel
theorem dX10_step_128 : decode cX10_step 128 = .ok (.iload 7, 2) := by decide +kernel
theorem dX10_step_130 : decode cX10_step 130 = .ok (.iconst 1, 1) := by decide +kernel
theorem dX10_step_131 : decode cX10_step 131 = .ok (.iadd, 1) := by decide +kernel
theorem dX10_step_132 : decode cX10_step 132 = .ok (.laload, 1) := by decide +kernel
theorem dX10_step_133 : decode cX10_step 133 = .ok (.goto 4, 3) := by decide +kernel
theorem dX10_step_136 : decode cX10_step 136 = .ok (.lconst 0, 1) := by decide +kernel
theorem dX10_step_137 : decode cX10_step 137 = .ok (.lstore 10, 2) := by decide +kernel
theorem dX10_step_139 : decode cX10_step 139 = .ok (.iload_n 3, 1) := by decide +kernel
theorem dX10_step_140 : decode cX10_step 140 = .ok (.bipush 12, 2) := by decide +kernel
theorem dX10_step_142 : decode cX10_step 142 = .ok (.if_icmp .ge 17, 3) := by decide +kernel
theorem dX10_step_145 : decode cX10_step 145 = .ok (.aload_n 0, 1) := by decide +kernel
theorem dX10_step_146 : decode cX10_step 146 = .ok (.iload_n 3, 1) := by decide +kernel
theorem dX10_step_147 : decode cX10_step 147 = .ok (.iload 4, 2) := by decide +kernel
theorem dX10_step_149 : decode cX10_step 149 = .ok (.lload 8, 2) := by decide +kernel
theorem dX10_step_151 : decode cX10_step 151 = .ok (.lload 10, 2) := by decide +kernel
theorem dX10_step_153 : decode cX10_step 153 = .ok (.invokevirtual 312, 3) := by decide +kernel
theorem dX10_step_156 : decode cX10_step 156 = .ok (.goto 81, 3) := by decide +kernel
theorem dX10_step_159 : decode cX10_step 159 = .ok (.iload_n 3, 1) := by decide +kernel
theorem dX10_step_160 : decode cX10_step 160 = .ok (.bipush 19, 2) := by decide +kernel
theorem dX10_step_162 : decode cX10_step 162 = .ok (.if_icmp .lt 9, 3) := by decide +kernel
theorem dX10_step_165 : decode cX10_step 165 = .ok (.iload_n 3, 1) := by decide +kernel
theorem dX10_step_166 : decode cX10_step 166 = .ok (.bipush 29, 2) := by decide +kernel
theorem dX10_step_168 : decode cX10_step 168 = .ok (.if_icmp .ne 19, 3) := by decide +kernel
theorem dX10_step_171 : decode cX10_step 171 = .ok (.aload_n 0, 1) := by decide +kernel
theorem dX10_step_172 : decode cX10_step 172 = .ok (.iload_n 3, 1) := by decide +kernel
theorem dX10_step_173 : decode cX10_step 173 = .ok (.iload 4, 2) := by decide +kernel
theorem dX10_step_175 : decode cX10_step 175 = .ok (.iload 5, 2) := by decide +kernel
theorem dX10_step_177 : decode cX10_step 177 = .ok (.lload 8, 2) := by decide +kernel
theorem dX10_step_179 : decode cX10_step 179 = .ok (.lload 10, 2) := by decide +kernel
theorem dX10_step_181 : decode cX10_step 181 = .ok (.invokevirtual 316, 3) := by decide +kernel
theorem dX10_step_184 : decode cX10_step 184 = .ok (.goto 53, 3) := by decide +kernel
theorem dX10_step_187 : decode cX10_step 187 = .ok (.iload_n 3, 1) := by decide +kernel
theorem dX10_step_188 : decode cX10_step 188 = .ok (.bipush 23, 2) := by decide +kernel
theorem dX10_step_190 : decode cX10_step 190 = .ok (.if_icmp .ge 17, 3) := by decide +kernel
theorem dX10_step_193 : decode cX10_step 193 = .ok (.aload_n 0, 1) := by decide +kernel
theorem dX10_step_194 : decode cX10_step 194 = .ok (.iload_n 3, 1) := by decide +kernel
theorem dX10_step_195 : decode cX10_step 195 = .ok (.iload 4, 2) := by decide +kernel
theorem dX10_step_197 : decode cX10_step 197 = .ok (.iload 5, 2) := by decide +kernel
theorem dX10_step_199 : decode cX10_step 199 = .ok (.lload 8, 2) := by decide +kernel
theorem dX10_step_201 : decode cX10_step 201 = .ok (.invokevirtual 320, 3) := by decide +kernel
theorem dX10_step_204 : decode cX10_step 204 = .ok (.goto 33, 3) := by decide +kernel
theorem dX10_step_207 : decode cX10_step 207 = .ok (.aload_n 0, 1) := by decide +kernel
theorem dX10_step_208 : decode cX10_step 208 = .ok (.iload_n 3, 1) := by decide +kernel
theorem dX10_step_209 : decode cX10_step 209 = .ok (.iload 4, 2) := by decide +kernel
theorem dX10_step_211 : decode cX10_step 211 = .ok (.lload 8, 2) := by decide +kernel
theorem dX10_step_213 : decode cX10_step 213 = .ok (.lload 10, 2) := by decide +kernel
theorem dX10_step_215 : decode cX10_step 215 = .ok (.iload 6, 2) := by decide +kernel
theorem dX10_step_217 : decode cX10_step 217 = .ok (.iconst 2, 1) := by decide +kernel
theorem dX10_step_218 : decode cX10_step 218 = .ok (.if_icmp .le 15, 3) := by decide +kernel
theorem dX10_step_221 : decode cX10_step 221 = .ok (.aload_n 0, 1) := by decide +kernel
theorem dX10_step_222 : decode cX10_step 222 = .ok (.getfield 75, 3) := by decide +kernel
theorem dX10_step_225 : decode cX10_step 225 = .ok (.iload 7, 2) := by decide +kernel
theorem dX10_step_227 : decode cX10_step 227 = .ok (.iconst 2, 1) := by decide +kernel
theorem dX10_step_228 : decode cX10_step 228 = .ok (.iadd, 1) := by decide +kernel
theorem dX10_step_229 : decode cX10_step 229 = .ok (.laload, 1) := by decide +kernel
theorem dX10_step_230 : decode cX10_step 230 = .ok (.goto 4, 3) := by decide +kernel
theorem dX10_step_233 : decode cX10_step 233 = .ok (.lconst 0, 1) := by decide +kernel
theorem dX10_step_234 : decode cX10_step 234 = .ok (.invokevirtual 324, 3) := by decide +kernel
theorem dX10_step_237 : decode cX10_step 237 = .ok (.return_, 1) := by decide +kernel
theorem dX10_plain_0 : decode cX10_plain 0 = .ok (.aload_n 0, 1) := by decide +kernel
theorem dX10_plain_1 : decode cX10_plain 1 = .ok (.getfield 239, 3) := by decide +kernel
theorem dX10_plain_4 : decode cX10_plain 4 = .ok (.iconst 1, 1) := by decide +kernel
theorem dX10_plain_5 : decode cX10_plain 5 = .ok (.isub, 1) := by decide +kernel
theorem dX10_plain_6 : decode cX10_plain 6 = .ok (.istore 7, 2) := by decide +kernel
theorem dX10_plain_8 : decode cX10_plain 8 = .ok (.iload_n 1, 1) := by decide +kernel
theorem dX10_plain_9 : decode cX10_plain 9 = .ok (.tableswitch 227 0 10 #[59, 68, 87, 107, 118, 129, 140, 140, 181, 200, 219], 59) := by decide +kernel
theorem dX10_plain_68 : decode cX10_plain 68 = .ok (.aload_n 0, 1) := by decide +kernel
theorem dX10_plain_69 : decode cX10_plain 69 = .ok (.iload_n 2, 1) := by decide +kernel
theorem dX10_plain_70 : decode cX10_plain 70 = .ok (.i2l, 1) := by decide +kernel
theorem dX10_plain_71 : decode cX10_plain 71 = .ok (.invokevirtual 304, 3) := by decide +kernel
theorem dX10_plain_74 : decode cX10_plain 74 = .ok (.goto 185, 3) := by decide +kernel
theorem dX10_plain_77 : decode cX10_plain 77 = .ok (.aload_n 0, 1) := by decide +kernel
theorem dX10_plain_78 : decode cX10_plain 78 = .ok (.aload_n 0, 1) := by decide +kernel
theorem dX10_plain_79 : decode cX10_plain 79 = .ok (.getfield 72, 3) := by decide +kernel
theorem dX10_plain_82 : decode cX10_plain 82 = .ok (.bipush 6, 2) := by decide +kernel
theorem dX10_plain_84 : decode cX10_plain 84 = .ok (.iload 7, 2) := by decide +kernel
theorem dX10_plain_86 : decode cX10_plain 86 = .ok (.imul, 1) := by decide +kernel
theorem dX10_plain_87 : decode cX10_plain 87 = .ok (.iload_n 2, 1) := by decide +kernel
theorem dX10_plain_88 : decode cX10_plain 88 = .ok (.iadd, 1) := by decide +kernel
theorem dX10_plain_89 : decode cX10_plain 89 = .ok (.laload, 1) := by decide +kernel
theorem dX10_plain_90 : decode cX10_plain 90 = .ok (.invokevirtual 304, 3) := by decide +kernel
theorem dX10_plain_93 : decode cX10_plain 93 = .ok (.goto 166, 3) := by decide +kernel
theorem dX10_plain_96 : decode cX10_plain 96 = .ok (.aload_n 0, 1) := by decide +kernel
theorem dX10_plain_97 : decode cX10_plain 97 = .ok (.getfield 72, 3) := by decide +kernel
theorem dX10_plain_100 : decode cX10_plain 100 = .ok (.bipush 6, 2) := by decide +kernel
theorem dX10_plain_102 : decode cX10_plain 102 = .ok (.iload 7, 2) := by decide +kernel
theorem dX10_plain_104 : decode cX10_plain 104 = .ok (.imul, 1) := by decide +kernel
theorem dX10_plain_105 : decode cX10_plain 105 = .ok (.iload_n 2, 1) := by decide +kernel
theorem dX10_plain_106 : decode cX10_plain 106 = .ok (.iadd, 1) := by decide +kernel
theorem dX10_plain_107 : decode cX10_plain 107 = .ok (.lload_n 3, 1) := by decide +kernel
theorem dX10_plain_108 : decode cX10_plain 108 = .ok (.lastore, 1) := by decide +kernel
theorem dX10_plain_109 : decode cX10_plain 109 = .ok (.aload_n 0, 1) := by decide +kernel
theorem dX10_plain_110 : decode cX10_plain 110 = .ok (.invokevirtual 328, 3) := by decide +kernel
theorem dX10_plain_113 : decode cX10_plain 113 = .ok (.goto 146, 3) := by decide +kernel
theorem dX10_plain_116 : decode cX10_plain 116 = .ok (.aload_n 0, 1) := by decide +kernel
theorem dX10_plain_117 : decode cX10_plain 117 = .ok (.lload_n 3, 1) := by decide +kernel
theorem dX10_plain_118 : decode cX10_plain 118 = .ok (.lload 5, 2) := by decide +kernel
theorem dX10_plain_120 : decode cX10_plain 120 = .ok (.ladd, 1) := by decide +kernel
theorem dX10_plain_121 : decode cX10_plain 121 = .ok (.invokevirtual 304, 3) := by decide +kernel
theorem dX10_plain_124 : decode cX10_plain 124 = .ok (.goto 135, 3) := by decide +kernel
theorem dX10_plain_127 : decode cX10_plain 127 = .ok (.aload_n 0, 1) := by decide +kernel
theorem dX10_plain_128 : decode cX10_plain 128 = .ok (.lload_n 3, 1) := by decide +kernel
theorem dX10_plain_129 : decode cX10_plain 129 = .ok (.lload 5, 2) := by decide +kernel
theorem dX10_plain_131 : decode cX10_plain 131 = .ok (.lsub, 1) := by decide +kernel
theorem dX10_plain_132 : decode cX10_plain 132 = .ok (.invokevirtual 304, 3) := by decide +kernel
theorem dX10_plain_135 : decode cX10_plain 135 = .ok (.goto 124, 3) := by decide +kernel
theorem dX10_plain_138 : decode cX10_plain 138 = .ok (.aload_n 0, 1) := by decide +kernel
theorem dX10_plain_139 : decode cX10_plain 139 = .ok (.lload_n 3, 1) := by decide +kernel
theorem dX10_plain_140 : decode cX10_plain 140 = .ok (.lload 5, 2) := by decide +kernel
theorem dX10_plain_142 : decode cX10_plain 142 = .ok (.lmul, 1) := by decide +kernel
theorem dX10_plain_143 : decode cX10_plain 143 = .ok (.invokevirtual 304, 3) := by decide +kernel
theorem dX10_plain_146 : decode cX10_plain 146 = .ok (.goto 113, 3) := by decide +kernel
theorem dX10_plain_149 : decode cX10_plain 149 = .ok (.lload 5, 2) := by decide +kernel
theorem dX10_plain_151 : decode cX10_plain 151 = .ok (.lconst 0, 1) := by decide +kernel
theorem dX10_plain_152 : decode cX10_plain 152 = .ok (.lcmp, 1) := by decide +kernel
theorem dX10_plain_153 : decode cX10_plain 153 = .ok (.ifCond .ne 13, 3) := by decide +kernel
theorem dX10_plain_156 : decode cX10_plain 156 = .ok (.aload_n 0, 1) := by decide +kernel
theorem dX10_plain_157 : decode cX10_plain 157 = .ok (.bipush 6, 2) := by decide +kernel
theorem dX10_plain_159 : decode cX10_plain 159 = .ok (.lconst 0, 1) := by decide +kernel
theorem dX10_plain_160 : decode cX10_plain 160 = .ok (.invokevirtual 293, 3) := by decide +kernel
theorem dX10_plain_163 : decode cX10_plain 163 = .ok (.goto 96, 3) := by decide +kernel
theorem dX10_plain_166 : decode cX10_plain 166 = .ok (.aload_n 0, 1) := by decide +kernel
theorem dX10_plain_167 : decode cX10_plain 167 = .ok (.iload_n 1, 1) := by decide +kernel
theorem dX10_plain_168 : decode cX10_plain 168 = .ok (.bipush 6, 2) := by decide +kernel
theorem dX10_plain_170 : decode cX10_plain 170 = .ok (.if_icmp .ne 10, 3) := by decide +kernel
theorem dX10_plain_173 : decode cX10_plain 173 = .ok (.lload_n 3, 1) := by decide +kernel
theorem dX10_plain_174 : decode cX10_plain 174 = .ok (.lload 5, 2) := by decide +kernel
theorem dX10_plain_176 : decode cX10_plain 176 = .ok (.ldiv, 1) := by decide +kernel
theorem dX10_plain_177 : decode cX10_plain 177 = .ok (.goto 7, 3) := by decide +kernel
theorem dX10_plain_180 : decode cX10_plain 180 = .ok (.lload_n 3, 1) := by decide +kernel
theorem dX10_plain_181 : decode cX10_plain 181 = .ok (.lload 5, 2) := by decide +kernel
theorem dX10_plain_183 : decode cX10_plain 183 = .ok (.lrem, 1) := by decide +kernel
theorem dX10_plain_184 : decode cX10_plain 184 = .ok (.invokevirtual 304, 3) := by decide +kernel
theorem dX10_plain_187 : decode cX10_plain 187 = .ok (.goto 72, 3) := by decide +kernel
theorem dX10_plain_190 : decode cX10_plain 190 = .ok (.aload_n 0, 1) := by decide +kernel
theorem dX10_plain_191 : decode cX10_plain 191 = .ok (.lload_n 3, 1) := by decide +kernel
theorem dX10_plain_192 : decode cX10_plain 192 = .ok (.lload 5, 2) := by decide +kernel
theorem dX10_plain_194 : decode cX10_plain 194 = .ok (.lcmp, 1) := by decide +kernel
theorem dX10_plain_195 : decode cX10_plain 195 = .ok (.ifCond .ge 7, 3) := by decide +kernel
theorem dX10_plain_198 : decode cX10_plain 198 = .ok (.lconst 1, 1) := by decide +kernel
theorem dX10_plain_199 : decode cX10_plain 199 = .ok (.goto 4, 3) := by decide +kernel
theorem dX10_plain_202 : decode cX10_plain 202 = .ok (.lconst 0, 1) := by decide +kernel
theorem dX10_plain_203 : decode cX10_plain 203 = .ok (.invokevirtual 304, 3) := by decide +kernel
theorem dX10_plain_206 : decode cX10_plain 206 = .ok (.goto 53, 3) := by decide +kernel
theorem dX10_plain_209 : decode cX10_plain 209 = .ok (.aload_n 0, 1) := by decide +kernel
theorem dX10_plain_210 : decode cX10_plain 210 = .ok (.lload_n 3, 1) := by decide +kernel
theorem dX10_plain_211 : decode cX10_plain 211 = .ok (.lload 5, 2) := by decide +kernel
theorem dX10_plain_213 : decode cX10_plain 213 = .ok (.lcmp, 1) := by decide +kernel
theorem dX10_plain_214 : decode cX10_plain 214 = .ok (.ifCond .ne 7, 3) := by decide +kernel
theorem dX10_plain_217 : decode cX10_plain 217 = .ok (.lconst 1, 1) := by decide +kernel
theorem dX10_plain_218 : decode cX10_plain 218 = .ok (.goto 4, 3) := by decide +kernel
theorem dX10_plain_221 : decode cX10_plain 221 = .ok (.lconst 0, 1) := by decide +kernel
theorem dX10_plain_222 : decode cX10_plain 222 = .ok (.invokevirtual 304, 3) := by decide +kernel
theorem dX10_plain_225 : decode cX10_plain 225 = .ok (.goto 34, 3) := by decide +kernel
theorem dX10_plain_228 : decode cX10_plain 228 = .ok (.aload_n 0, 1) := by decide +kernel
theorem dX10_plain_229 : decode cX10_plain 229 = .ok (.iload_n 2, 1) := by decide +kernel
theorem dX10_plain_230 : decode cX10_plain 230 = .ok (.invokevirtual 297, 3) := by decide +kernel
theorem dX10_plain_233 : decode cX10_plain 233 = .ok (.goto 26, 3) := by decide +kernel
theorem dX10_plain_236 : decode cX10_plain 236 = .ok (.aload_n 0, 1) := by decide +kernel
theorem dX10_plain_237 : decode cX10_plain 237 = .ok (.lload_n 3, 1) := by decide +kernel
theorem dX10_plain_238 : decode cX10_plain 238 = .ok (.lconst 0, 1) := by decide +kernel
theorem dX10_plain_239 : decode cX10_plain 239 = .ok (.lcmp, 1) := by decide +kernel
theorem dX10_plain_240 : decode cX10_plain 240 = .ok (.ifCond .ne 7, 3) := by decide +kernel
theorem dX10_plain_243 : decode cX10_plain 243 = .ok (.iload_n 2, 1) := by decide +kernel
theorem dX10_plain_244 : decode cX10_plain 244 = .ok (.goto 12, 3) := by decide +kernel
theorem dX10_plain_247 : decode cX10_plain 247 = .ok (.aload_n 0, 1) := by decide +kernel
theorem dX10_plain_248 : decode cX10_plain 248 = .ok (.getfield 69, 3) := by decide +kernel
theorem dX10_plain_251 : decode cX10_plain 251 = .ok (.iload 7, 2) := by decide +kernel
theorem dX10_plain_253 : decode cX10_plain 253 = .ok (.iaload, 1) := by decide +kernel
theorem dX10_plain_254 : decode cX10_plain 254 = .ok (.iconst 1, 1) := by decide +kernel
theorem dX10_plain_255 : decode cX10_plain 255 = .ok (.iadd, 1) := by decide +kernel
theorem dX10_plain_256 : decode cX10_plain 256 = .ok (.invokevirtual 297, 3) := by decide +kernel
theorem dX10_plain_259 : decode cX10_plain 259 = .ok (.return_, 1) := by decide +kernel
theorem dX10_memory_0 : decode cX10_memory 0 = .ok (.aload_n 0, 1) := by decide +kernel
theorem dX10_memory_1 : decode cX10_memory 1 = .ok (.getfield 7, 3) := by decide +kernel
theorem dX10_memory_4 : decode cX10_memory 4 = .ok (.iload_n 2, 1) := by decide +kernel
theorem dX10_memory_5 : decode cX10_memory 5 = .ok (.iaload, 1) := by decide +kernel
theorem dX10_memory_6 : decode cX10_memory 6 = .ok (.istore 8, 2) := by decide +kernel
theorem dX10_memory_8 : decode cX10_memory 8 = .ok (.iload_n 1, 1) := by decide +kernel
theorem dX10_memory_9 : decode cX10_memory 9 = .ok (.bipush 12, 2) := by decide +kernel
theorem dX10_memory_11 : decode cX10_memory 11 = .ok (.if_icmp .eq 21, 3) := by decide +kernel
theorem dX10_memory_14 : decode cX10_memory 14 = .ok (.iload_n 1, 1) := by decide +kernel
theorem dX10_memory_15 : decode cX10_memory 15 = .ok (.bipush 13, 2) := by decide +kernel
theorem dX10_memory_17 : decode cX10_memory 17 = .ok (.if_icmp .eq 15, 3) := by decide +kernel
theorem dX10_memory_20 : decode cX10_memory 20 = .ok (.iload_n 1, 1) := by decide +kernel
theorem dX10_memory_21 : decode cX10_memory 21 = .ok (.bipush 17, 2) := by decide +kernel
theorem dX10_memory_23 : decode cX10_memory 23 = .ok (.if_icmp .eq 9, 3) := by decide +kernel
theorem dX10_memory_26 : decode cX10_memory 26 = .ok (.iload_n 1, 1) := by decide +kernel
theorem dX10_memory_27 : decode cX10_memory 27 = .ok (.bipush 18, 2) := by decide +kernel
theorem dX10_memory_29 : decode cX10_memory 29 = .ok (.if_icmp .ne 13, 3) := by decide +kernel
theorem dX10_memory_32 : decode cX10_memory 32 = .ok (.aload_n 0, 1) := by decide +kernel
theorem dX10_memory_33 : decode cX10_memory 33 = .ok (.iload_n 2, 1) := by decide +kernel
theorem dX10_memory_34 : decode cX10_memory 34 = .ok (.lload 4, 2) := by decide +kernel
theorem dX10_memory_36 : decode cX10_memory 36 = .ok (.invokevirtual 168, 3) := by decide +kernel
theorem dX10_memory_39 : decode cX10_memory 39 = .ok (.goto 4, 3) := by decide +kernel
theorem dX10_memory_42 : decode cX10_memory 42 = .ok (.iconst 0, 1) := by decide +kernel
theorem dX10_memory_43 : decode cX10_memory 43 = .ok (.istore 9, 2) := by decide +kernel
theorem dX10_memory_45 : decode cX10_memory 45 = .ok (.iload_n 1, 1) := by decide +kernel
theorem dX10_memory_46 : decode cX10_memory 46 = .ok (.bipush 12, 2) := by decide +kernel
theorem dX10_memory_48 : decode cX10_memory 48 = .ok (.if_icmp .eq 9, 3) := by decide +kernel
theorem dX10_memory_51 : decode cX10_memory 51 = .ok (.iload_n 1, 1) := by decide +kernel
theorem dX10_memory_52 : decode cX10_memory 52 = .ok (.bipush 13, 2) := by decide +kernel
theorem dX10_memory_54 : decode cX10_memory 54 = .ok (.if_icmp .ne 28, 3) := by decide +kernel
theorem dX10_memory_57 : decode cX10_memory 57 = .ok (.iload 9, 2) := by decide +kernel
theorem dX10_memory_59 : decode cX10_memory 59 = .ok (.iconst 1, 1) := by decide +kernel
theorem dX10_memory_60 : decode cX10_memory 60 = .ok (.if_icmp .eq 18, 3) := by decide +kernel
theorem dX10_memory_63 : decode cX10_memory 63 = .ok (.aload_n 0, 1) := by decide +kernel
theorem dX10_memory_64 : decode cX10_memory 64 = .ok (.getfield 13, 3) := by decide +kernel
theorem dX10_memory_67 : decode cX10_memory 67 = .ok (.iload 8, 2) := by decide +kernel
theorem dX10_memory_69 : decode cX10_memory 69 = .ok (.iaload, 1) := by decide +kernel
theorem dX10_memory_70 : decode cX10_memory 70 = .ok (.iload_n 3, 1) := by decide +kernel
theorem dX10_memory_71 : decode cX10_memory 71 = .ok (.if_icmp .eq 7, 3) := by decide +kernel
theorem dX10_memory_74 : decode cX10_memory 74 = .ok (.iconst 3, 1) := by decide +kernel
theorem dX10_memory_75 : decode cX10_memory 75 = .ok (.goto 5, 3) := by decide +kernel
theorem dX10_memory_78 : decode cX10_memory 78 = .ok (.iload 9, 2) := by decide +kernel
theorem dX10_memory_80 : decode cX10_memory 80 = .ok (.istore 9, 2) := by decide +kernel
theorem dX10_memory_82 : decode cX10_memory 82 = .ok (.iload_n 1, 1) := by decide +kernel
theorem dX10_memory_83 : decode cX10_memory 83 = .ok (.bipush 17, 2) := by decide +kernel
theorem dX10_memory_85 : decode cX10_memory 85 = .ok (.if_icmp .ne 41, 3) := by decide +kernel
theorem dX10_memory_88 : decode cX10_memory 88 = .ok (.iload 9, 2) := by decide +kernel
theorem dX10_memory_90 : decode cX10_memory 90 = .ok (.ifCond .ne 36, 3) := by decide +kernel
theorem dX10_memory_93 : decode cX10_memory 93 = .ok (.aload_n 0, 1) := by decide +kernel
theorem dX10_memory_94 : decode cX10_memory 94 = .ok (.getfield 13, 3) := by decide +kernel
theorem dX10_memory_97 : decode cX10_memory 97 = .ok (.iload 8, 2) := by decide +kernel
