theorem dX12_put_0 : decode cX12_put 0 = .ok (.bipush 24, 2) := by decide +kernel
theorem dX12_put_2 : decode cX12_put 2 = .ok (.istore_n 2, 1) := by decide +kernel
theorem dX12_put_3 : decode cX12_put 3 = .ok (.iload_n 2, 1) := by decide +kernel
theorem dX12_put_4 : decode cX12_put 4 = .ok (.ifCond .lt 32, 3) := by decide +kernel
theorem dX12_put_7 : decode cX12_put 7 = .ok (.aload_n 0, 1) := by decide +kernel
theorem dX12_put_8 : decode cX12_put 8 = .ok (.getfield 13, 3) := by decide +kernel
theorem dX12_put_11 : decode cX12_put 11 = .ok (.aload_n 0, 1) := by decide +kernel
theorem dX12_put_12 : decode cX12_put 12 = .ok (.getfield 154, 3) := by decide +kernel
theorem dX12_put_15 : decode cX12_put 15 = .ok (.iload_n 1, 1) := by decide +kernel
theorem dX12_put_16 : decode cX12_put 16 = .ok (.iload_n 2, 1) := by decide +kernel
theorem dX12_put_17 : decode cX12_put 17 = .ok (.ishr, 1) := by decide +kernel
theorem dX12_put_18 : decode cX12_put 18 = .ok (.i2b, 1) := by decide +kernel
theorem dX12_put_19 : decode cX12_put 19 = .ok (.bastore, 1) := by decide +kernel
theorem dX12_put_20 : decode cX12_put 20 = .ok (.aload_n 0, 1) := by decide +kernel
theorem dX12_put_21 : decode cX12_put 21 = .ok (.dup, 1) := by decide +kernel
theorem dX12_put_22 : decode cX12_put 22 = .ok (.getfield 154, 3) := by decide +kernel
theorem dX12_put_25 : decode cX12_put 25 = .ok (.iconst 1, 1) := by decide +kernel
theorem dX12_put_26 : decode cX12_put 26 = .ok (.iadd, 1) := by decide +kernel
theorem dX12_put_27 : decode cX12_put 27 = .ok (.putfield 154, 3) := by decide +kernel
theorem dX12_put_30 : decode cX12_put 30 = .ok (.iinc 2 (-8), 3) := by decide +kernel
theorem dX12_put_33 : decode cX12_put 33 = .ok (.goto (-30), 3) := by decide +kernel
theorem dX12_put_36 : decode cX12_put 36 = .ok (.return_, 1) := by decide +kernel
theorem dX12_feed_0 : decode cX12_feed 0 = .ok (.aload_n 0, 1) := by decide +kernel
theorem dX12_feed_1 : decode cX12_feed 1 = .ok (.getfield 154, 3) := by decide +kernel
theorem dX12_feed_4 : decode cX12_feed 4 = .ok (.bipush 20, 2) := by decide +kernel
theorem dX12_feed_6 : decode cX12_feed 6 = .ok (.iadd, 1) := by decide +kernel
theorem dX12_feed_7 : decode cX12_feed 7 = .ok (.sipush 2000, 3) := by decide +kernel
theorem dX12_feed_10 : decode cX12_feed 10 = .ok (.if_icmp .le 5, 3) := by decide +kernel
theorem dX12_feed_13 : decode cX12_feed 13 = .ok (.iconst (-1), 1) := by decide +kernel
theorem dX12_feed_14 : decode cX12_feed 14 = .ok (.ireturn, 1) := by decide +kernel
theorem dX12_feed_15 : decode cX12_feed 15 = .ok (.aload_n 0, 1) := by decide +kernel
theorem dX12_feed_16 : decode cX12_feed 16 = .ok (.iload_n 1, 1) := by decide +kernel
theorem dX12_feed_17 : decode cX12_feed 17 = .ok (.invokevirtual 157, 3) := by decide +kernel
theorem dX12_feed_20 : decode cX12_feed 20 = .ok (.aload_n 0, 1) := by decide +kernel
theorem dX12_feed_21 : decode cX12_feed 21 = .ok (.iload_n 2, 1) := by decide +kernel
theorem dX12_feed_22 : decode cX12_feed 22 = .ok (.invokevirtual 157, 3) := by decide +kernel
theorem dX12_feed_25 : decode cX12_feed 25 = .ok (.aload_n 0, 1) := by decide +kernel
theorem dX12_feed_26 : decode cX12_feed 26 = .ok (.iload_n 3, 1) := by decide +kernel
theorem dX12_feed_27 : decode cX12_feed 27 = .ok (.invokevirtual 157, 3) := by decide +kernel
theorem dX12_feed_30 : decode cX12_feed 30 = .ok (.aload_n 0, 1) := by decide +kernel
theorem dX12_feed_31 : decode cX12_feed 31 = .ok (.iload 4, 2) := by decide +kernel
theorem dX12_feed_33 : decode cX12_feed 33 = .ok (.invokevirtual 157, 3) := by decide +kernel
theorem dX12_feed_36 : decode cX12_feed 36 = .ok (.aload_n 0, 1) := by decide +kernel
theorem dX12_feed_37 : decode cX12_feed 37 = .ok (.iload 5, 2) := by decide +kernel
theorem dX12_feed_39 : decode cX12_feed 39 = .ok (.invokevirtual 157, 3) := by decide +kernel
theorem dX12_feed_42 : decode cX12_feed 42 = .ok (.aload_n 0, 1) := by decide +kernel
theorem dX12_feed_43 : decode cX12_feed 43 = .ok (.getfield 154, 3) := by decide +kernel
theorem dX12_feed_46 : decode cX12_feed 46 = .ok (.ireturn, 1) := by decide +kernel
theorem dX12_back_0 : decode cX12_back 0 = .ok (.iload_n 1, 1) := by decide +kernel
theorem dX12_back_1 : decode cX12_back 1 = .ok (.ifCond .lt 11, 3) := by decide +kernel
theorem dX12_back_4 : decode cX12_back 4 = .ok (.iload_n 1, 1) := by decide +kernel
theorem dX12_back_5 : decode cX12_back 5 = .ok (.aload_n 0, 1) := by decide +kernel
theorem dX12_back_6 : decode cX12_back 6 = .ok (.getfield 154, 3) := by decide +kernel
theorem dX12_back_9 : decode cX12_back 9 = .ok (.if_icmp .le 5, 3) := by decide +kernel
theorem dX12_back_12 : decode cX12_back 12 = .ok (.iconst (-1), 1) := by decide +kernel
theorem dX12_back_13 : decode cX12_back 13 = .ok (.ireturn, 1) := by decide +kernel
theorem dX12_back_14 : decode cX12_back 14 = .ok (.aload_n 0, 1) := by decide +kernel
theorem dX12_back_15 : decode cX12_back 15 = .ok (.dup, 1) := by decide +kernel
theorem dX12_back_16 : decode cX12_back 16 = .ok (.getfield 154, 3) := by decide +kernel
theorem dX12_back_19 : decode cX12_back 19 = .ok (.iload_n 1, 1) := by decide +kernel
theorem dX12_back_20 : decode cX12_back 20 = .ok (.isub, 1) := by decide +kernel
theorem dX12_back_21 : decode cX12_back 21 = .ok (.putfield 154, 3) := by decide +kernel
theorem dX12_back_24 : decode cX12_back 24 = .ok (.aload_n 0, 1) := by decide +kernel
theorem dX12_back_25 : decode cX12_back 25 = .ok (.getfield 154, 3) := by decide +kernel
theorem dX12_back_28 : decode cX12_back 28 = .ok (.ireturn, 1) := by decide +kernel
theorem dX12_isDigit_0 : decode cX12_isDigit 0 = .ok (.iload_n 0, 1) := by decide +kernel
theorem dX12_isDigit_1 : decode cX12_isDigit 1 = .ok (.bipush 48, 2) := by decide +kernel
theorem dX12_isDigit_3 : decode cX12_isDigit 3 = .ok (.if_icmp .lt 13, 3) := by decide +kernel
theorem dX12_isDigit_6 : decode cX12_isDigit 6 = .ok (.iload_n 0, 1) := by decide +kernel
theorem dX12_isDigit_7 : decode cX12_isDigit 7 = .ok (.bipush 57, 2) := by decide +kernel
theorem dX12_isDigit_9 : decode cX12_isDigit 9 = .ok (.if_icmp .gt 7, 3) := by decide +kernel
theorem dX12_isDigit_12 : decode cX12_isDigit 12 = .ok (.iconst 1, 1) := by decide +kernel
theorem dX12_isDigit_13 : decode cX12_isDigit 13 = .ok (.goto 4, 3) := by decide +kernel
theorem dX12_isDigit_16 : decode cX12_isDigit 16 = .ok (.iconst 0, 1) := by decide +kernel
theorem dX12_isDigit_17 : decode cX12_isDigit 17 = .ok (.ireturn, 1) := by decide +kernel
theorem dX12_isLetter_0 : decode cX12_isLetter 0 = .ok (.iload_n 0, 1) := by decide +kernel
theorem dX12_isLetter_1 : decode cX12_isLetter 1 = .ok (.bipush 97, 2) := by decide +kernel
theorem dX12_isLetter_3 : decode cX12_isLetter 3 = .ok (.if_icmp .lt 13, 3) := by decide +kernel
theorem dX12_isLetter_6 : decode cX12_isLetter 6 = .ok (.iload_n 0, 1) := by decide +kernel
theorem dX12_isLetter_7 : decode cX12_isLetter 7 = .ok (.bipush 122, 2) := by decide +kernel
theorem dX12_isLetter_9 : decode cX12_isLetter 9 = .ok (.if_icmp .gt 7, 3) := by decide +kernel
theorem dX12_isLetter_12 : decode cX12_isLetter 12 = .ok (.iconst 1, 1) := by decide +kernel
theorem dX12_isLetter_13 : decode cX12_isLetter 13 = .ok (.goto 4, 3) := by decide +kernel
theorem dX12_isLetter_16 : decode cX12_isLetter 16 = .ok (.iconst 0, 1) := by decide +kernel
theorem dX12_isLetter_17 : decode cX12_isLetter 17 = .ok (.ireturn, 1) := by decide +kernel
theorem dX12_in_0 : decode cX12_in 0 = .ok (.iload_n 0, 1) := by decide +kernel
theorem dX12_in_1 : decode cX12_in 1 = .ok (.iload_n 1, 1) := by decide +kernel
theorem dX12_in_2 : decode cX12_in 2 = .ok (.if_icmp .lt 12, 3) := by decide +kernel
theorem dX12_in_5 : decode cX12_in 5 = .ok (.iload_n 0, 1) := by decide +kernel
theorem dX12_in_6 : decode cX12_in 6 = .ok (.iload_n 2, 1) := by decide +kernel
theorem dX12_in_7 : decode cX12_in 7 = .ok (.if_icmp .gt 7, 3) := by decide +kernel
theorem dX12_in_10 : decode cX12_in 10 = .ok (.iconst 1, 1) := by decide +kernel
theorem dX12_in_11 : decode cX12_in 11 = .ok (.goto 4, 3) := by decide +kernel
theorem dX12_in_14 : decode cX12_in 14 = .ok (.iconst 0, 1) := by decide +kernel
theorem dX12_in_15 : decode cX12_in 15 = .ok (.ireturn, 1) := by decide +kernel
theorem dX12_within_0 : decode cX12_within 0 = .ok (.iload_n 0, 1) := by decide +kernel
theorem dX12_within_1 : decode cX12_within 1 = .ok (.iload_n 1, 1) := by decide +kernel
theorem dX12_within_2 : decode cX12_within 2 = .ok (.if_icmp .ge 7, 3) := by decide +kernel
theorem dX12_within_5 : decode cX12_within 5 = .ok (.iload_n 1, 1) := by decide +kernel
theorem dX12_within_6 : decode cX12_within 6 = .ok (.goto 13, 3) := by decide +kernel
theorem dX12_within_9 : decode cX12_within 9 = .ok (.iload_n 0, 1) := by decide +kernel
theorem dX12_within_10 : decode cX12_within 10 = .ok (.iload_n 2, 1) := by decide +kernel
theorem dX12_within_11 : decode cX12_within 11 = .ok (.if_icmp .le 7, 3) := by decide +kernel
theorem dX12_within_14 : decode cX12_within 14 = .ok (.iload_n 2, 1) := by decide +kernel
theorem dX12_within_15 : decode cX12_within 15 = .ok (.goto 4, 3) := by decide +kernel
theorem dX12_within_18 : decode cX12_within 18 = .ok (.iload_n 0, 1) := by decide +kernel
theorem dX12_within_19 : decode cX12_within 19 = .ok (.ireturn, 1) := by decide +kernel
theorem dX12_byteAt_0 : decode cX12_byteAt 0 = .ok (.iload_n 1, 1) := by decide +kernel
theorem dX12_byteAt_1 : decode cX12_byteAt 1 = .ok (.aload_n 0, 1) := by decide +kernel
theorem dX12_byteAt_2 : decode cX12_byteAt 2 = .ok (.getfield 160, 3) := by decide +kernel
theorem dX12_byteAt_5 : decode cX12_byteAt 5 = .ok (.if_icmp .ge 16, 3) := by decide +kernel
theorem dX12_byteAt_8 : decode cX12_byteAt 8 = .ok (.aload_n 0, 1) := by decide +kernel
theorem dX12_byteAt_9 : decode cX12_byteAt 9 = .ok (.getfield 17, 3) := by decide +kernel
theorem dX12_byteAt_12 : decode cX12_byteAt 12 = .ok (.iload_n 1, 1) := by decide +kernel
theorem dX12_byteAt_13 : decode cX12_byteAt 13 = .ok (.baload, 1) := by decide +kernel
theorem dX12_byteAt_14 : decode cX12_byteAt 14 = .ok (.sipush 255, 3) := by decide +kernel
theorem dX12_byteAt_17 : decode cX12_byteAt 17 = .ok (.iand, 1) := by decide +kernel
theorem dX12_byteAt_18 : decode cX12_byteAt 18 = .ok (.goto 4, 3) := by decide +kernel
theorem dX12_byteAt_21 : decode cX12_byteAt 21 = .ok (.iconst 0, 1) := by decide +kernel
theorem dX12_byteAt_22 : decode cX12_byteAt 22 = .ok (.ireturn, 1) := by decide +kernel
theorem dX12_isRung_0 : decode cX12_isRung 0 = .ok (.iload_n 1, 1) := by decide +kernel
theorem dX12_isRung_1 : decode cX12_isRung 1 = .ok (.iconst 0, 1) := by decide +kernel
theorem dX12_isRung_2 : decode cX12_isRung 2 = .ok (.aload_n 0, 1) := by decide +kernel
theorem dX12_isRung_3 : decode cX12_isRung 3 = .ok (.getfield 43, 3) := by decide +kernel
theorem dX12_isRung_6 : decode cX12_isRung 6 = .ok (.aload_n 0, 1) := by decide +kernel
theorem dX12_isRung_7 : decode cX12_isRung 7 = .ok (.getfield 221, 3) := by decide +kernel
theorem dX12_isRung_10 : decode cX12_isRung 10 = .ok (.iaload, 1) := by decide +kernel
theorem dX12_isRung_11 : decode cX12_isRung 11 = .ok (.iconst 1, 1) := by decide +kernel
theorem dX12_isRung_12 : decode cX12_isRung 12 = .ok (.isub, 1) := by decide +kernel
theorem dX12_isRung_13 : decode cX12_isRung 13 = .ok (.invokestatic 292, 3) := by decide +kernel
theorem dX12_isRung_16 : decode cX12_isRung 16 = .ok (.ireturn, 1) := by decide +kernel
theorem dX12_isPerson_0 : decode cX12_isPerson 0 = .ok (.iload_n 1, 1) := by decide +kernel
theorem dX12_isPerson_1 : decode cX12_isPerson 1 = .ok (.iconst 0, 1) := by decide +kernel
theorem dX12_isPerson_2 : decode cX12_isPerson 2 = .ok (.aload_n 0, 1) := by decide +kernel
theorem dX12_isPerson_3 : decode cX12_isPerson 3 = .ok (.getfield 46, 3) := by decide +kernel
theorem dX12_isPerson_6 : decode cX12_isPerson 6 = .ok (.aload_n 0, 1) := by decide +kernel
theorem dX12_isPerson_7 : decode cX12_isPerson 7 = .ok (.getfield 221, 3) := by decide +kernel
theorem dX12_isPerson_10 : decode cX12_isPerson 10 = .ok (.iaload, 1) := by decide +kernel
theorem dX12_isPerson_11 : decode cX12_isPerson 11 = .ok (.iconst 1, 1) := by decide +kernel
theorem dX12_isPerson_12 : decode cX12_isPerson 12 = .ok (.isub, 1) := by decide +kernel
theorem dX12_isPerson_13 : decode cX12_isPerson 13 = .ok (.invokestatic 292, 3) := by decide +kernel
theorem dX12_isPerson_16 : decode cX12_isPerson 16 = .ok (.ireturn, 1) := by decide +kernel
theorem dX12_copies_0 : decode cX12_copies 0 = .ok (.iconst 0, 1) := by decide +kernel
theorem dX12_copies_1 : decode cX12_copies 1 = .ok (.istore_n 1, 1) := by decide +kernel
theorem dX12_copies_2 : decode cX12_copies 2 = .ok (.iload_n 1, 1) := by decide +kernel
theorem dX12_copies_3 : decode cX12_copies 3 = .ok (.bipush 51, 2) := by decide +kernel
theorem dX12_copies_5 : decode cX12_copies 5 = .ok (.if_icmp .ge 21, 3) := by decide +kernel
theorem dX12_copies_8 : decode cX12_copies 8 = .ok (.aload_n 0, 1) := by decide +kernel
theorem dX12_copies_9 : decode cX12_copies 9 = .ok (.getfield 104, 3) := by decide +kernel
theorem dX12_copies_12 : decode cX12_copies 12 = .ok (.iload_n 1, 1) := by decide +kernel
theorem dX12_copies_13 : decode cX12_copies 13 = .ok (.aload_n 0, 1) := by decide +kernel
theorem dX12_copies_14 : decode cX12_copies 14 = .ok (.getfield 101, 3) := by decide +kernel
theorem dX12_copies_17 : decode cX12_copies 17 = .ok (.iload_n 1, 1) := by decide +kernel
theorem dX12_copies_18 : decode cX12_copies 18 = .ok (.iaload, 1) := by decide +kernel
theorem dX12_copies_19 : decode cX12_copies 19 = .ok (.iastore, 1) := by decide +kernel
theorem dX12_copies_20 : decode cX12_copies 20 = .ok (.iinc 1 1, 3) := by decide +kernel
theorem dX12_copies_23 : decode cX12_copies 23 = .ok (.goto (-21), 3) := by decide +kernel
theorem dX12_copies_26 : decode cX12_copies 26 = .ok (.aload_n 0, 1) := by decide +kernel
theorem dX12_copies_27 : decode cX12_copies 27 = .ok (.aload_n 0, 1) := by decide +kernel
theorem dX12_copies_28 : decode cX12_copies 28 = .ok (.getfield 61, 3) := by decide +kernel
theorem dX12_copies_31 : decode cX12_copies 31 = .ok (.aload_n 0, 1) := by decide +kernel
theorem dX12_copies_32 : decode cX12_copies 32 = .ok (.getfield 221, 3) := by decide +kernel
theorem dX12_copies_35 : decode cX12_copies 35 = .ok (.iaload, 1) := by decide +kernel
theorem dX12_copies_36 : decode cX12_copies 36 = .ok (.putfield 296, 3) := by decide +kernel
theorem dX12_copies_39 : decode cX12_copies 39 = .ok (.aload_n 0, 1) := by decide +kernel
theorem dX12_copies_40 : decode cX12_copies 40 = .ok (.iconst 0, 1) := by decide +kernel
theorem dX12_copies_41 : decode cX12_copies 41 = .ok (.putfield 299, 3) := by decide +kernel
theorem dX12_copies_44 : decode cX12_copies 44 = .ok (.return_, 1) := by decide +kernel
theorem dX12_keepsRow_0 : decode cX12_keepsRow 0 = .ok (.iconst 0, 1) := by decide +kernel
theorem dX12_keepsRow_1 : decode cX12_keepsRow 1 = .ok (.istore_n 1, 1) := by decide +kernel
theorem dX12_keepsRow_2 : decode cX12_keepsRow 2 = .ok (.iload_n 1, 1) := by decide +kernel
theorem dX12_keepsRow_3 : decode cX12_keepsRow 3 = .ok (.bipush 51, 2) := by decide +kernel
theorem dX12_keepsRow_5 : decode cX12_keepsRow 5 = .ok (.if_icmp .ge 21, 3) := by decide +kernel
theorem dX12_keepsRow_8 : decode cX12_keepsRow 8 = .ok (.aload_n 0, 1) := by decide +kernel
theorem dX12_keepsRow_9 : decode cX12_keepsRow 9 = .ok (.getfield 101, 3) := by decide +kernel
theorem dX12_keepsRow_12 : decode cX12_keepsRow 12 = .ok (.iload_n 1, 1) := by decide +kernel
theorem dX12_keepsRow_13 : decode cX12_keepsRow 13 = .ok (.aload_n 0, 1) := by decide +kernel
theorem dX12_keepsRow_14 : decode cX12_keepsRow 14 = .ok (.getfield 104, 3) := by decide +kernel
theorem dX12_keepsRow_17 : decode cX12_keepsRow 17 = .ok (.iload_n 1, 1) := by decide +kernel
theorem dX12_keepsRow_18 : decode cX12_keepsRow 18 = .ok (.iaload, 1) := by decide +kernel
theorem dX12_keepsRow_19 : decode cX12_keepsRow 19 = .ok (.iastore, 1) := by decide +kernel
theorem dX12_keepsRow_20 : decode cX12_keepsRow 20 = .ok (.iinc 1 1, 3) := by decide +kernel
theorem dX12_keepsRow_23 : decode cX12_keepsRow 23 = .ok (.goto (-21), 3) := by decide +kernel
theorem dX12_keepsRow_26 : decode cX12_keepsRow 26 = .ok (.return_, 1) := by decide +kernel
theorem dX12_begins_0 : decode cX12_begins 0 = .ok (.iconst 0, 1) := by decide +kernel
theorem dX12_begins_1 : decode cX12_begins 1 = .ok (.istore_n 1, 1) := by decide +kernel
theorem dX12_begins_2 : decode cX12_begins 2 = .ok (.iload_n 1, 1) := by decide +kernel
theorem dX12_begins_3 : decode cX12_begins 3 = .ok (.bipush 51, 2) := by decide +kernel
theorem dX12_begins_5 : decode cX12_begins 5 = .ok (.if_icmp .ge 16, 3) := by decide +kernel
theorem dX12_begins_8 : decode cX12_begins 8 = .ok (.aload_n 0, 1) := by decide +kernel
theorem dX12_begins_9 : decode cX12_begins 9 = .ok (.getfield 104, 3) := by decide +kernel
theorem dX12_begins_12 : decode cX12_begins 12 = .ok (.iload_n 1, 1) := by decide +kernel
theorem dX12_begins_13 : decode cX12_begins 13 = .ok (.iconst 0, 1) := by decide +kernel
theorem dX12_begins_14 : decode cX12_begins 14 = .ok (.iastore, 1) := by decide +kernel
theorem dX12_begins_15 : decode cX12_begins 15 = .ok (.iinc 1 1, 3) := by decide +kernel
theorem dX12_begins_18 : decode cX12_begins 18 = .ok (.goto (-16), 3) := by decide +kernel
theorem dX12_begins_21 : decode cX12_begins 21 = .ok (.iconst 0, 1) := by decide +kernel
theorem dX12_begins_22 : decode cX12_begins 22 = .ok (.istore_n 1, 1) := by decide +kernel
theorem dX12_begins_23 : decode cX12_begins 23 = .ok (.iload_n 1, 1) := by decide +kernel
theorem dX12_begins_24 : decode cX12_begins 24 = .ok (.iconst 5, 1) := by decide +kernel
theorem dX12_begins_25 : decode cX12_begins 25 = .ok (.if_icmp .ge 55, 3) := by decide +kernel
theorem dX12_begins_28 : decode cX12_begins 28 = .ok (.aload_n 0, 1) := by decide +kernel
theorem dX12_begins_29 : decode cX12_begins 29 = .ok (.getfield 104, 3) := by decide +kernel
theorem dX12_begins_32 : decode cX12_begins 32 = .ok (.iload_n 1, 1) := by decide +kernel
theorem dX12_begins_33 : decode cX12_begins 33 = .ok (.iload_n 1, 1) := by decide +kernel
theorem dX12_begins_34 : decode cX12_begins 34 = .ok (.aload_n 0, 1) := by decide +kernel
theorem dX12_begins_35 : decode cX12_begins 35 = .ok (.getfield 46, 3) := by decide +kernel
theorem dX12_begins_38 : decode cX12_begins 38 = .ok (.aload_n 0, 1) := by decide +kernel
theorem dX12_begins_39 : decode cX12_begins 39 = .ok (.getfield 221, 3) := by decide +kernel
theorem dX12_begins_42 : decode cX12_begins 42 = .ok (.iaload, 1) := by decide +kernel
theorem dX12_begins_43 : decode cX12_begins 43 = .ok (.if_icmp .ge 19, 3) := by decide +kernel
theorem dX12_begins_46 : decode cX12_begins 46 = .ok (.aload_n 0, 1) := by decide +kernel
theorem dX12_begins_47 : decode cX12_begins 47 = .ok (.getfield 49, 3) := by decide +kernel
theorem dX12_begins_50 : decode cX12_begins 50 = .ok (.iconst 5, 1) := by decide +kernel
theorem dX12_begins_51 : decode cX12_begins 51 = .ok (.aload_n 0, 1) := by decide +kernel
theorem dX12_begins_52 : decode cX12_begins 52 = .ok (.getfield 221, 3) := by decide +kernel
theorem dX12_begins_55 : decode cX12_begins 55 = .ok (.imul, 1) := by decide +kernel
theorem dX12_begins_56 : decode cX12_begins 56 = .ok (.iload_n 1, 1) := by decide +kernel
theorem dX12_begins_57 : decode cX12_begins 57 = .ok (.iadd, 1) := by decide +kernel
theorem dX12_begins_58 : decode cX12_begins 58 = .ok (.iaload, 1) := by decide +kernel
theorem dX12_begins_59 : decode cX12_begins 59 = .ok (.goto 4, 3) := by decide +kernel
theorem dX12_begins_62 : decode cX12_begins 62 = .ok (.iconst (-1), 1) := by decide +kernel
theorem dX12_begins_63 : decode cX12_begins 63 = .ok (.iastore, 1) := by decide +kernel
theorem dX12_begins_64 : decode cX12_begins 64 = .ok (.aload_n 0, 1) := by decide +kernel
theorem dX12_begins_65 : decode cX12_begins 65 = .ok (.getfield 104, 3) := by decide +kernel
theorem dX12_begins_68 : decode cX12_begins 68 = .ok (.iconst 5, 1) := by decide +kernel
theorem dX12_begins_69 : decode cX12_begins 69 = .ok (.iload_n 1, 1) := by decide +kernel
theorem dX12_begins_70 : decode cX12_begins 70 = .ok (.iadd, 1) := by decide +kernel
theorem dX12_begins_71 : decode cX12_begins 71 = .ok (.bipush (-2), 2) := by decide +kernel
theorem dX12_begins_73 : decode cX12_begins 73 = .ok (.iastore, 1) := by decide +kernel
theorem dX12_begins_74 : decode cX12_begins 74 = .ok (.iinc 1 1, 3) := by decide +kernel
theorem dX12_begins_77 : decode cX12_begins 77 = .ok (.goto (-54), 3) := by decide +kernel
theorem dX12_begins_80 : decode cX12_begins 80 = .ok (.aload_n 0, 1) := by decide +kernel
theorem dX12_begins_81 : decode cX12_begins 81 = .ok (.aload_n 0, 1) := by decide +kernel
theorem dX12_begins_82 : decode cX12_begins 82 = .ok (.getfield 61, 3) := by decide +kernel
theorem dX12_begins_85 : decode cX12_begins 85 = .ok (.aload_n 0, 1) := by decide +kernel
theorem dX12_begins_86 : decode cX12_begins 86 = .ok (.getfield 221, 3) := by decide +kernel
theorem dX12_begins_89 : decode cX12_begins 89 = .ok (.iaload, 1) := by decide +kernel
theorem dX12_begins_90 : decode cX12_begins 90 = .ok (.putfield 296, 3) := by decide +kernel
theorem dX12_begins_93 : decode cX12_begins 93 = .ok (.aload_n 0, 1) := by decide +kernel
theorem dX12_begins_94 : decode cX12_begins 94 = .ok (.iconst 0, 1) := by decide +kernel
theorem dX12_begins_95 : decode cX12_begins 95 = .ok (.putfield 299, 3) := by decide +kernel
theorem dX12_begins_98 : decode cX12_begins 98 = .ok (.return_, 1) := by decide +kernel
theorem dX12_mixed_0 : decode cX12_mixed 0 = .ok (.iload_n 0, 1) := by decide +kernel
theorem dX12_mixed_1 : decode cX12_mixed 1 = .ok (.iload_n 1, 1) := by decide +kernel
theorem dX12_mixed_2 : decode cX12_mixed 2 = .ok (.ixor, 1) := by decide +kernel
theorem dX12_mixed_3 : decode cX12_mixed 3 = .ok (.ldc_w 302, 3) := by decide +kernel
theorem dX12_mixed_6 : decode cX12_mixed 6 = .ok (.imul, 1) := by decide +kernel
theorem dX12_mixed_7 : decode cX12_mixed 7 = .ok (.sipush 12345, 3) := by decide +kernel
theorem dX12_mixed_10 : decode cX12_mixed 10 = .ok (.iadd, 1) := by decide +kernel
theorem dX12_mixed_11 : decode cX12_mixed 11 = .ok (.istore_n 2, 1) := by decide +kernel
theorem dX12_mixed_12 : decode cX12_mixed 12 = .ok (.iload_n 2, 1) := by decide +kernel
theorem dX12_mixed_13 : decode cX12_mixed 13 = .ok (.iload_n 2, 1) := by decide +kernel
theorem dX12_mixed_14 : decode cX12_mixed 14 = .ok (.bipush 15, 2) := by decide +kernel
theorem dX12_mixed_16 : decode cX12_mixed 16 = .ok (.iushr, 1) := by decide +kernel
theorem dX12_mixed_17 : decode cX12_mixed 17 = .ok (.ixor, 1) := by decide +kernel
theorem dX12_mixed_18 : decode cX12_mixed 18 = .ok (.ireturn, 1) := by decide +kernel
theorem dX12_lotOf_0 : decode cX12_lotOf 0 = .ok (.aload_n 0, 1) := by decide +kernel
theorem dX12_lotOf_1 : decode cX12_lotOf 1 = .ok (.getfield 296, 3) := by decide +kernel
theorem dX12_lotOf_4 : decode cX12_lotOf 4 = .ok (.sipush 131, 3) := by decide +kernel
theorem dX12_lotOf_7 : decode cX12_lotOf 7 = .ok (.invokestatic 303, 3) := by decide +kernel
theorem dX12_lotOf_10 : decode cX12_lotOf 10 = .ok (.iload_n 1, 1) := by decide +kernel
theorem dX12_lotOf_11 : decode cX12_lotOf 11 = .ok (.invokestatic 303, 3) := by decide +kernel
theorem dX12_lotOf_14 : decode cX12_lotOf 14 = .ok (.iconst 1, 1) := by decide +kernel
theorem dX12_lotOf_15 : decode cX12_lotOf 15 = .ok (.iushr, 1) := by decide +kernel
theorem dX12_lotOf_16 : decode cX12_lotOf 16 = .ok (.bipush 100, 2) := by decide +kernel
theorem dX12_lotOf_18 : decode cX12_lotOf 18 = .ok (.irem, 1) := by decide +kernel
theorem dX12_lotOf_19 : decode cX12_lotOf 19 = .ok (.ireturn, 1) := by decide +kernel
theorem dX12_isWhole_0 : decode cX12_isWhole 0 = .ok (.aload_n 0, 1) := by decide +kernel
theorem dX12_isWhole_1 : decode cX12_isWhole 1 = .ok (.iload_n 1, 1) := by decide +kernel
theorem dX12_isWhole_2 : decode cX12_isWhole 2 = .ok (.invokevirtual 306, 3) := by decide +kernel
theorem dX12_isWhole_5 : decode cX12_isWhole 5 = .ok (.ifCond .eq 19, 3) := by decide +kernel
theorem dX12_isWhole_8 : decode cX12_isWhole 8 = .ok (.aload_n 0, 1) := by decide +kernel
theorem dX12_isWhole_9 : decode cX12_isWhole 9 = .ok (.getfield 104, 3) := by decide +kernel
theorem dX12_isWhole_12 : decode cX12_isWhole 12 = .ok (.bipush 25, 2) := by decide +kernel
theorem dX12_isWhole_14 : decode cX12_isWhole 14 = .ok (.iload_n 1, 1) := by decide +kernel
theorem dX12_isWhole_15 : decode cX12_isWhole 15 = .ok (.iadd, 1) := by decide +kernel
theorem dX12_isWhole_16 : decode cX12_isWhole 16 = .ok (.iaload, 1) := by decide +kernel
theorem dX12_isWhole_17 : decode cX12_isWhole 17 = .ok (.ifCond .ne 7, 3) := by decide +kernel
theorem dX12_isWhole_20 : decode cX12_isWhole 20 = .ok (.iconst 1, 1) := by decide +kernel
theorem dX12_isWhole_21 : decode cX12_isWhole 21 = .ok (.goto 4, 3) := by decide +kernel
theorem dX12_isWhole_24 : decode cX12_isWhole 24 = .ok (.iconst 0, 1) := by decide +kernel
theorem dX12_isWhole_25 : decode cX12_isWhole 25 = .ok (.ireturn, 1) := by decide +kernel
theorem dX12_widthAt_0 : decode cX12_widthAt 0 = .ok (.aload_n 0, 1) := by decide +kernel
theorem dX12_widthAt_1 : decode cX12_widthAt 1 = .ok (.getfield 52, 3) := by decide +kernel
theorem dX12_widthAt_4 : decode cX12_widthAt 4 = .ok (.iconst 5, 1) := by decide +kernel
theorem dX12_widthAt_5 : decode cX12_widthAt 5 = .ok (.aload_n 0, 1) := by decide +kernel
theorem dX12_widthAt_6 : decode cX12_widthAt 6 = .ok (.getfield 221, 3) := by decide +kernel
theorem dX12_widthAt_9 : decode cX12_widthAt 9 = .ok (.imul, 1) := by decide +kernel
theorem dX12_widthAt_10 : decode cX12_widthAt 10 = .ok (.iload_n 1, 1) := by decide +kernel
theorem dX12_widthAt_11 : decode cX12_widthAt 11 = .ok (.iadd, 1) := by decide +kernel
theorem dX12_widthAt_12 : decode cX12_widthAt 12 = .ok (.iaload, 1) := by decide +kernel
theorem dX12_widthAt_13 : decode cX12_widthAt 13 = .ok (.ireturn, 1) := by decide +kernel
theorem dX12_onRung_0 : decode cX12_onRung 0 = .ok (.iconst 0, 1) := by decide +kernel
theorem dX12_onRung_1 : decode cX12_onRung 1 = .ok (.istore_n 2, 1) := by decide +kernel
theorem dX12_onRung_2 : decode cX12_onRung 2 = .ok (.iconst 0, 1) := by decide +kernel
theorem dX12_onRung_3 : decode cX12_onRung 3 = .ok (.istore_n 3, 1) := by decide +kernel
theorem dX12_onRung_4 : decode cX12_onRung 4 = .ok (.iload_n 3, 1) := by decide +kernel
theorem dX12_onRung_5 : decode cX12_onRung 5 = .ok (.aload_n 0, 1) := by decide +kernel
theorem dX12_onRung_6 : decode cX12_onRung 6 = .ok (.getfield 46, 3) := by decide +kernel
theorem dX12_onRung_9 : decode cX12_onRung 9 = .ok (.aload_n 0, 1) := by decide +kernel
theorem dX12_onRung_10 : decode cX12_onRung 10 = .ok (.getfield 221, 3) := by decide +kernel
theorem dX12_onRung_13 : decode cX12_onRung 13 = .ok (.iaload, 1) := by decide +kernel
theorem dX12_onRung_14 : decode cX12_onRung 14 = .ok (.if_icmp .ge 25, 3) := by decide +kernel
theorem dX12_onRung_17 : decode cX12_onRung 17 = .ok (.aload_n 0, 1) := by decide +kernel
theorem dX12_onRung_18 : decode cX12_onRung 18 = .ok (.getfield 104, 3) := by decide +kernel
theorem dX12_onRung_21 : decode cX12_onRung 21 = .ok (.iload_n 3, 1) := by decide +kernel
theorem dX12_onRung_22 : decode cX12_onRung 22 = .ok (.iaload, 1) := by decide +kernel
theorem dX12_onRung_23 : decode cX12_onRung 23 = .ok (.iload_n 1, 1) := by decide +kernel
theorem dX12_onRung_24 : decode cX12_onRung 24 = .ok (.if_icmp .ne 9, 3) := by decide +kernel
theorem dX12_onRung_27 : decode cX12_onRung 27 = .ok (.iload_n 2, 1) := by decide +kernel
theorem dX12_onRung_28 : decode cX12_onRung 28 = .ok (.iconst 1, 1) := by decide +kernel
theorem dX12_onRung_29 : decode cX12_onRung 29 = .ok (.iload_n 3, 1) := by decide +kernel
theorem dX12_onRung_30 : decode cX12_onRung 30 = .ok (.ishl, 1) := by decide +kernel
theorem dX12_onRung_31 : decode cX12_onRung 31 = .ok (.ior, 1) := by decide +kernel
theorem dX12_onRung_32 : decode cX12_onRung 32 = .ok (.istore_n 2, 1) := by decide +kernel
theorem dX12_onRung_33 : decode cX12_onRung 33 = .ok (.iinc 3 1, 3) := by decide +kernel
theorem dX12_onRung_36 : decode cX12_onRung 36 = .ok (.goto (-32), 3) := by decide +kernel
theorem dX12_onRung_39 : decode cX12_onRung 39 = .ok (.iload_n 2, 1) := by decide +kernel
theorem dX12_onRung_40 : decode cX12_onRung 40 = .ok (.ireturn, 1) := by decide +kernel
theorem dX12_widthsOf_0 : decode cX12_widthsOf 0 = .ok (.iconst 0, 1) := by decide +kernel
theorem dX12_widthsOf_1 : decode cX12_widthsOf 1 = .ok (.istore_n 2, 1) := by decide +kernel
theorem dX12_widthsOf_2 : decode cX12_widthsOf 2 = .ok (.iconst 0, 1) := by decide +kernel
theorem dX12_widthsOf_3 : decode cX12_widthsOf 3 = .ok (.istore_n 3, 1) := by decide +kernel
theorem dX12_widthsOf_4 : decode cX12_widthsOf 4 = .ok (.iload_n 3, 1) := by decide +kernel
theorem dX12_widthsOf_5 : decode cX12_widthsOf 5 = .ok (.aload_n 0, 1) := by decide +kernel
theorem dX12_widthsOf_6 : decode cX12_widthsOf 6 = .ok (.getfield 46, 3) := by decide +kernel
theorem dX12_widthsOf_9 : decode cX12_widthsOf 9 = .ok (.aload_n 0, 1) := by decide +kernel
theorem dX12_widthsOf_10 : decode cX12_widthsOf 10 = .ok (.getfield 221, 3) := by decide +kernel
theorem dX12_widthsOf_13 : decode cX12_widthsOf 13 = .ok (.iaload, 1) := by decide +kernel
theorem dX12_widthsOf_14 : decode cX12_widthsOf 14 = .ok (.if_icmp .ge 26, 3) := by decide +kernel
theorem dX12_widthsOf_17 : decode cX12_widthsOf 17 = .ok (.iload_n 1, 1) := by decide +kernel
theorem dX12_widthsOf_18 : decode cX12_widthsOf 18 = .ok (.iload_n 3, 1) := by decide +kernel
theorem dX12_widthsOf_19 : decode cX12_widthsOf 19 = .ok (.ishr, 1) := by decide +kernel
theorem dX12_widthsOf_20 : decode cX12_widthsOf 20 = .ok (.iconst 1, 1) := by decide +kernel
theorem dX12_widthsOf_21 : decode cX12_widthsOf 21 = .ok (.iand, 1) := by decide +kernel
theorem dX12_widthsOf_22 : decode cX12_widthsOf 22 = .ok (.iconst 1, 1) := by decide +kernel
theorem dX12_widthsOf_23 : decode cX12_widthsOf 23 = .ok (.if_icmp .ne 11, 3) := by decide +kernel
theorem dX12_widthsOf_26 : decode cX12_widthsOf 26 = .ok (.iload_n 2, 1) := by decide +kernel
theorem dX12_widthsOf_27 : decode cX12_widthsOf 27 = .ok (.aload_n 0, 1) := by decide +kernel
theorem dX12_widthsOf_28 : decode cX12_widthsOf 28 = .ok (.iload_n 3, 1) := by decide +kernel
theorem dX12_widthsOf_29 : decode cX12_widthsOf 29 = .ok (.invokevirtual 309, 3) := by decide +kernel
theorem dX12_widthsOf_32 : decode cX12_widthsOf 32 = .ok (.iadd, 1) := by decide +kernel
theorem dX12_widthsOf_33 : decode cX12_widthsOf 33 = .ok (.istore_n 2, 1) := by decide +kernel
theorem dX12_widthsOf_34 : decode cX12_widthsOf 34 = .ok (.iinc 3 1, 3) := by decide +kernel
theorem dX12_widthsOf_37 : decode cX12_widthsOf 37 = .ok (.goto (-33), 3) := by decide +kernel
theorem dX12_widthsOf_40 : decode cX12_widthsOf 40 = .ok (.iload_n 2, 1) := by decide +kernel
theorem dX12_widthsOf_41 : decode cX12_widthsOf 41 = .ok (.ireturn, 1) := by decide +kernel
theorem dX12_widthsOn_0 : decode cX12_widthsOn 0 = .ok (.aload_n 0, 1) := by decide +kernel
theorem dX12_widthsOn_1 : decode cX12_widthsOn 1 = .ok (.aload_n 0, 1) := by decide +kernel
theorem dX12_widthsOn_2 : decode cX12_widthsOn 2 = .ok (.iload_n 1, 1) := by decide +kernel
theorem dX12_widthsOn_3 : decode cX12_widthsOn 3 = .ok (.invokevirtual 312, 3) := by decide +kernel
theorem dX12_widthsOn_6 : decode cX12_widthsOn 6 = .ok (.invokevirtual 315, 3) := by decide +kernel
theorem dX12_widthsOn_9 : decode cX12_widthsOn 9 = .ok (.ireturn, 1) := by decide +kernel
theorem dX12_looks_0 : decode cX12_looks 0 = .ok (.iconst 0, 1) := by decide +kernel
theorem dX12_looks_1 : decode cX12_looks 1 = .ok (.istore_n 2, 1) := by decide +kernel
theorem dX12_looks_2 : decode cX12_looks 2 = .ok (.iload_n 2, 1) := by decide +kernel
theorem dX12_looks_3 : decode cX12_looks 3 = .ok (.bipush 9, 2) := by decide +kernel
theorem dX12_looks_5 : decode cX12_looks 5 = .ok (.if_icmp .ge 16, 3) := by decide +kernel
theorem dX12_looks_8 : decode cX12_looks 8 = .ok (.aload_n 0, 1) := by decide +kernel
theorem dX12_looks_9 : decode cX12_looks 9 = .ok (.getfield 95, 3) := by decide +kernel
theorem dX12_looks_12 : decode cX12_looks 12 = .ok (.iload_n 2, 1) := by decide +kernel
theorem dX12_looks_13 : decode cX12_looks 13 = .ok (.iconst 0, 1) := by decide +kernel
theorem dX12_looks_14 : decode cX12_looks 14 = .ok (.iastore, 1) := by decide +kernel
theorem dX12_looks_15 : decode cX12_looks 15 = .ok (.iinc 2 1, 3) := by decide +kernel
theorem dX12_looks_18 : decode cX12_looks 18 = .ok (.goto (-16), 3) := by decide +kernel
theorem dX12_looks_21 : decode cX12_looks 21 = .ok (.aload_n 0, 1) := by decide +kernel
theorem dX12_looks_22 : decode cX12_looks 22 = .ok (.getfield 95, 3) := by decide +kernel
theorem dX12_looks_25 : decode cX12_looks 25 = .ok (.iconst 0, 1) := by decide +kernel
theorem dX12_looks_26 : decode cX12_looks 26 = .ok (.iload_n 1, 1) := by decide +kernel
theorem dX12_looks_27 : decode cX12_looks 27 = .ok (.iastore, 1) := by decide +kernel
theorem dX12_looks_28 : decode cX12_looks 28 = .ok (.aload_n 0, 1) := by decide +kernel
theorem dX12_looks_29 : decode cX12_looks 29 = .ok (.getfield 95, 3) := by decide +kernel
theorem dX12_looks_32 : decode cX12_looks 32 = .ok (.iconst 1, 1) := by decide +kernel
theorem dX12_looks_33 : decode cX12_looks 33 = .ok (.aload_n 0, 1) := by decide +kernel
theorem dX12_looks_34 : decode cX12_looks 34 = .ok (.getfield 43, 3) := by decide +kernel
theorem dX12_looks_37 : decode cX12_looks 37 = .ok (.aload_n 0, 1) := by decide +kernel
theorem dX12_looks_38 : decode cX12_looks 38 = .ok (.getfield 221, 3) := by decide +kernel
theorem dX12_looks_41 : decode cX12_looks 41 = .ok (.iaload, 1) := by decide +kernel
theorem dX12_looks_42 : decode cX12_looks 42 = .ok (.iastore, 1) := by decide +kernel
theorem dX12_looks_43 : decode cX12_looks 43 = .ok (.aload_n 0, 1) := by decide +kernel
theorem dX12_looks_44 : decode cX12_looks 44 = .ok (.getfield 95, 3) := by decide +kernel
theorem dX12_looks_47 : decode cX12_looks 47 = .ok (.iconst 2, 1) := by decide +kernel
theorem dX12_looks_48 : decode cX12_looks 48 = .ok (.aload_n 0, 1) := by decide +kernel
theorem dX12_looks_49 : decode cX12_looks 49 = .ok (.getfield 104, 3) := by decide +kernel
theorem dX12_looks_52 : decode cX12_looks 52 = .ok (.bipush 49, 2) := by decide +kernel
theorem dX12_looks_54 : decode cX12_looks 54 = .ok (.iaload, 1) := by decide +kernel
theorem dX12_looks_55 : decode cX12_looks 55 = .ok (.iastore, 1) := by decide +kernel
theorem dX12_looks_56 : decode cX12_looks 56 = .ok (.return_, 1) := by decide +kernel
theorem dX12_lawTells_0 : decode cX12_lawTells 0 = .ok (.iconst 4, 1) := by decide +kernel
theorem dX12_lawTells_1 : decode cX12_lawTells 1 = .ok (.aload_n 0, 1) := by decide +kernel
theorem dX12_lawTells_2 : decode cX12_lawTells 2 = .ok (.getfield 221, 3) := by decide +kernel
theorem dX12_lawTells_5 : decode cX12_lawTells 5 = .ok (.imul, 1) := by decide +kernel
theorem dX12_lawTells_6 : decode cX12_lawTells 6 = .ok (.iload_n 1, 1) := by decide +kernel
theorem dX12_lawTells_7 : decode cX12_lawTells 7 = .ok (.iadd, 1) := by decide +kernel
theorem dX12_lawTells_8 : decode cX12_lawTells 8 = .ok (.istore_n 3, 1) := by decide +kernel
theorem dX12_lawTells_9 : decode cX12_lawTells 9 = .ok (.aload_n 0, 1) := by decide +kernel
theorem dX12_lawTells_10 : decode cX12_lawTells 10 = .ok (.getfield 64, 3) := by decide +kernel
theorem dX12_lawTells_13 : decode cX12_lawTells 13 = .ok (.iload_n 3, 1) := by decide +kernel
theorem dX12_lawTells_14 : decode cX12_lawTells 14 = .ok (.iaload, 1) := by decide +kernel
theorem dX12_lawTells_15 : decode cX12_lawTells 15 = .ok (.aload_n 0, 1) := by decide +kernel
theorem dX12_lawTells_16 : decode cX12_lawTells 16 = .ok (.getfield 67, 3) := by decide +kernel
theorem dX12_lawTells_19 : decode cX12_lawTells 19 = .ok (.iload_n 3, 1) := by decide +kernel
theorem dX12_lawTells_20 : decode cX12_lawTells 20 = .ok (.iaload, 1) := by decide +kernel
theorem dX12_lawTells_21 : decode cX12_lawTells 21 = .ok (.if_icmp .ne 5, 3) := by decide +kernel
theorem dX12_lawTells_24 : decode cX12_lawTells 24 = .ok (.iload_n 2, 1) := by decide +kernel
theorem dX12_lawTells_25 : decode cX12_lawTells 25 = .ok (.ireturn, 1) := by decide +kernel
theorem dX12_lawTells_26 : decode cX12_lawTells 26 = .ok (.aload_n 0, 1) := by decide +kernel
theorem dX12_lawTells_27 : decode cX12_lawTells 27 = .ok (.iconst 0, 1) := by decide +kernel
theorem dX12_lawTells_28 : decode cX12_lawTells 28 = .ok (.putfield 288, 3) := by decide +kernel
theorem dX12_lawTells_31 : decode cX12_lawTells 31 = .ok (.aload_n 0, 1) := by decide +kernel
theorem dX12_lawTells_32 : decode cX12_lawTells 32 = .ok (.getfield 64, 3) := by decide +kernel
theorem dX12_lawTells_35 : decode cX12_lawTells 35 = .ok (.iload_n 3, 1) := by decide +kernel
theorem dX12_lawTells_36 : decode cX12_lawTells 36 = .ok (.iaload, 1) := by decide +kernel
theorem dX12_lawTells_37 : decode cX12_lawTells 37 = .ok (.istore 4, 2) := by decide +kernel
theorem dX12_lawTells_39 : decode cX12_lawTells 39 = .ok (.iload 4, 2) := by decide +kernel
theorem dX12_lawTells_41 : decode cX12_lawTells 41 = .ok (.aload_n 0, 1) := by decide +kernel
theorem dX12_lawTells_42 : decode cX12_lawTells 42 = .ok (.getfield 67, 3) := by decide +kernel
theorem dX12_lawTells_45 : decode cX12_lawTells 45 = .ok (.iload_n 3, 1) := by decide +kernel
theorem dX12_lawTells_46 : decode cX12_lawTells 46 = .ok (.iaload, 1) := by decide +kernel
theorem dX12_lawTells_47 : decode cX12_lawTells 47 = .ok (.if_icmp .ge 112, 3) := by decide +kernel
theorem dX12_lawTells_50 : decode cX12_lawTells 50 = .ok (.aload_n 0, 1) := by decide +kernel
theorem dX12_lawTells_51 : decode cX12_lawTells 51 = .ok (.getfield 70, 3) := by decide +kernel
theorem dX12_lawTells_54 : decode cX12_lawTells 54 = .ok (.iload 4, 2) := by decide +kernel
theorem dX12_lawTells_56 : decode cX12_lawTells 56 = .ok (.baload, 1) := by decide +kernel
theorem dX12_lawTells_57 : decode cX12_lawTells 57 = .ok (.ifCond .eq 62, 3) := by decide +kernel
theorem dX12_lawTells_60 : decode cX12_lawTells 60 = .ok (.aload_n 0, 1) := by decide +kernel
theorem dX12_lawTells_61 : decode cX12_lawTells 61 = .ok (.aload_n 0, 1) := by decide +kernel
theorem dX12_lawTells_62 : decode cX12_lawTells 62 = .ok (.getfield 74, 3) := by decide +kernel
theorem dX12_lawTells_65 : decode cX12_lawTells 65 = .ok (.iload 4, 2) := by decide +kernel
theorem dX12_lawTells_67 : decode cX12_lawTells 67 = .ok (.iaload, 1) := by decide +kernel
theorem dX12_lawTells_68 : decode cX12_lawTells 68 = .ok (.aload_n 0, 1) := by decide +kernel
theorem dX12_lawTells_69 : decode cX12_lawTells 69 = .ok (.getfield 77, 3) := by decide +kernel
theorem dX12_lawTells_72 : decode cX12_lawTells 72 = .ok (.iload 4, 2) := by decide +kernel
theorem dX12_lawTells_74 : decode cX12_lawTells 74 = .ok (.iaload, 1) := by decide +kernel
theorem dX12_lawTells_75 : decode cX12_lawTells 75 = .ok (.invokevirtual 321, 3) := by decide +kernel
theorem dX12_lawTells_78 : decode cX12_lawTells 78 = .ok (.istore 5, 2) := by decide +kernel
theorem dX12_lawTells_80 : decode cX12_lawTells 80 = .ok (.aload_n 0, 1) := by decide +kernel
theorem dX12_lawTells_81 : decode cX12_lawTells 81 = .ok (.aload_n 0, 1) := by decide +kernel
theorem dX12_lawTells_82 : decode cX12_lawTells 82 = .ok (.getfield 77, 3) := by decide +kernel
theorem dX12_lawTells_85 : decode cX12_lawTells 85 = .ok (.iload 4, 2) := by decide +kernel
theorem dX12_lawTells_87 : decode cX12_lawTells 87 = .ok (.iaload, 1) := by decide +kernel
theorem dX12_lawTells_88 : decode cX12_lawTells 88 = .ok (.aload_n 0, 1) := by decide +kernel
theorem dX12_lawTells_89 : decode cX12_lawTells 89 = .ok (.getfield 80, 3) := by decide +kernel
theorem dX12_lawTells_92 : decode cX12_lawTells 92 = .ok (.iload 4, 2) := by decide +kernel
theorem dX12_lawTells_94 : decode cX12_lawTells 94 = .ok (.iaload, 1) := by decide +kernel
theorem dX12_lawTells_95 : decode cX12_lawTells 95 = .ok (.invokevirtual 321, 3) := by decide +kernel
theorem dX12_lawTells_98 : decode cX12_lawTells 98 = .ok (.istore 6, 2) := by decide +kernel
theorem dX12_lawTells_100 : decode cX12_lawTells 100 = .ok (.aload_n 0, 1) := by decide +kernel
theorem dX12_lawTells_101 : decode cX12_lawTells 101 = .ok (.getfield 288, 3) := by decide +kernel
theorem dX12_lawTells_104 : decode cX12_lawTells 104 = .ok (.ifCond .eq 5, 3) := by decide +kernel
theorem dX12_lawTells_107 : decode cX12_lawTells 107 = .ok (.iconst 0, 1) := by decide +kernel
theorem dX12_lawTells_108 : decode cX12_lawTells 108 = .ok (.ireturn, 1) := by decide +kernel
theorem dX12_lawTells_109 : decode cX12_lawTells 109 = .ok (.iload 5, 2) := by decide +kernel
theorem dX12_lawTells_111 : decode cX12_lawTells 111 = .ok (.iload 6, 2) := by decide +kernel
theorem dX12_lawTells_113 : decode cX12_lawTells 113 = .ok (.if_icmp .lt 6, 3) := by decide +kernel
theorem dX12_lawTells_116 : decode cX12_lawTells 116 = .ok (.goto 37, 3) := by decide +kernel
theorem dX12_lawTells_119 : decode cX12_lawTells 119 = .ok (.aload_n 0, 1) := by decide +kernel
theorem dX12_lawTells_120 : decode cX12_lawTells 120 = .ok (.aload_n 0, 1) := by decide +kernel
theorem dX12_lawTells_121 : decode cX12_lawTells 121 = .ok (.getfield 80, 3) := by decide +kernel
theorem dX12_lawTells_124 : decode cX12_lawTells 124 = .ok (.iload 4, 2) := by decide +kernel
theorem dX12_lawTells_126 : decode cX12_lawTells 126 = .ok (.iaload, 1) := by decide +kernel
theorem dX12_lawTells_127 : decode cX12_lawTells 127 = .ok (.aload_n 0, 1) := by decide +kernel
theorem dX12_lawTells_128 : decode cX12_lawTells 128 = .ok (.getfield 83, 3) := by decide +kernel
theorem dX12_lawTells_131 : decode cX12_lawTells 131 = .ok (.iload 4, 2) := by decide +kernel
theorem dX12_lawTells_133 : decode cX12_lawTells 133 = .ok (.iaload, 1) := by decide +kernel
theorem dX12_lawTells_134 : decode cX12_lawTells 134 = .ok (.invokevirtual 321, 3) := by decide +kernel
theorem dX12_lawTells_137 : decode cX12_lawTells 137 = .ok (.istore 5, 2) := by decide +kernel
theorem dX12_lawTells_139 : decode cX12_lawTells 139 = .ok (.aload_n 0, 1) := by decide +kernel
theorem dX12_lawTells_140 : decode cX12_lawTells 140 = .ok (.getfield 288, 3) := by decide +kernel
theorem dX12_lawTells_143 : decode cX12_lawTells 143 = .ok (.ifCond .eq 7, 3) := by decide +kernel
theorem dX12_lawTells_146 : decode cX12_lawTells 146 = .ok (.iconst 0, 1) := by decide +kernel
theorem dX12_lawTells_147 : decode cX12_lawTells 147 = .ok (.goto 5, 3) := by decide +kernel
theorem dX12_lawTells_150 : decode cX12_lawTells 150 = .ok (.iload 5, 2) := by decide +kernel
theorem dX12_lawTells_152 : decode cX12_lawTells 152 = .ok (.ireturn, 1) := by decide +kernel
theorem dX12_lawTells_153 : decode cX12_lawTells 153 = .ok (.iinc 4 1, 3) := by decide +kernel
theorem dX12_lawTells_156 : decode cX12_lawTells 156 = .ok (.goto (-117), 3) := by decide +kernel
theorem dX12_lawTells_159 : decode cX12_lawTells 159 = .ok (.iconst 0, 1) := by decide +kernel
theorem dX12_lawTells_160 : decode cX12_lawTells 160 = .ok (.ireturn, 1) := by decide +kernel
theorem dX12_roomOf_0 : decode cX12_roomOf 0 = .ok (.aload_n 0, 1) := by decide +kernel
theorem dX12_roomOf_1 : decode cX12_roomOf 1 = .ok (.iload_n 1, 1) := by decide +kernel
theorem dX12_roomOf_2 : decode cX12_roomOf 2 = .ok (.invokevirtual 318, 3) := by decide +kernel
theorem dX12_roomOf_5 : decode cX12_roomOf 5 = .ok (.aload_n 0, 1) := by decide +kernel
theorem dX12_roomOf_6 : decode cX12_roomOf 6 = .ok (.iconst 0, 1) := by decide +kernel
theorem dX12_roomOf_7 : decode cX12_roomOf 7 = .ok (.bipush 9, 2) := by decide +kernel
theorem dX12_roomOf_9 : decode cX12_roomOf 9 = .ok (.invokevirtual 324, 3) := by decide +kernel
theorem dX12_roomOf_12 : decode cX12_roomOf 12 = .ok (.iconst 0, 1) := by decide +kernel
theorem dX12_roomOf_13 : decode cX12_roomOf 13 = .ok (.bipush 99, 2) := by decide +kernel
theorem dX12_roomOf_15 : decode cX12_roomOf 15 = .ok (.invokestatic 327, 3) := by decide +kernel
theorem dX12_roomOf_18 : decode cX12_roomOf 18 = .ok (.ireturn, 1) := by decide +kernel
theorem dX12_breaksOf_0 : decode cX12_breaksOf 0 = .ok (.aload_n 0, 1) := by decide +kernel
theorem dX12_breaksOf_1 : decode cX12_breaksOf 1 = .ok (.iload_n 1, 1) := by decide +kernel
theorem dX12_breaksOf_2 : decode cX12_breaksOf 2 = .ok (.invokevirtual 318, 3) := by decide +kernel
theorem dX12_breaksOf_5 : decode cX12_breaksOf 5 = .ok (.aload_n 0, 1) := by decide +kernel
theorem dX12_breaksOf_6 : decode cX12_breaksOf 6 = .ok (.getfield 95, 3) := by decide +kernel
theorem dX12_breaksOf_9 : decode cX12_breaksOf 9 = .ok (.bipush 7, 2) := by decide +kernel
theorem dX12_breaksOf_11 : decode cX12_breaksOf 11 = .ok (.aload_n 0, 1) := by decide +kernel
theorem dX12_breaksOf_12 : decode cX12_breaksOf 12 = .ok (.iload_n 1, 1) := by decide +kernel
theorem dX12_breaksOf_13 : decode cX12_breaksOf 13 = .ok (.invokevirtual 333, 3) := by decide +kernel
theorem dX12_breaksOf_16 : decode cX12_breaksOf 16 = .ok (.iastore, 1) := by decide +kernel
theorem dX12_breaksOf_17 : decode cX12_breaksOf 17 = .ok (.aload_n 0, 1) := by decide +kernel
theorem dX12_breaksOf_18 : decode cX12_breaksOf 18 = .ok (.iconst 3, 1) := by decide +kernel
theorem dX12_breaksOf_19 : decode cX12_breaksOf 19 = .ok (.iconst 0, 1) := by decide +kernel
theorem dX12_breaksOf_20 : decode cX12_breaksOf 20 = .ok (.invokevirtual 324, 3) := by decide +kernel
theorem dX12_breaksOf_23 : decode cX12_breaksOf 23 = .ok (.iconst 0, 1) := by decide +kernel
theorem dX12_breaksOf_24 : decode cX12_breaksOf 24 = .ok (.bipush 100, 2) := by decide +kernel
theorem dX12_breaksOf_26 : decode cX12_breaksOf 26 = .ok (.invokestatic 327, 3) := by decide +kernel
theorem dX12_breaksOf_29 : decode cX12_breaksOf 29 = .ok (.ireturn, 1) := by decide +kernel
theorem dX12_hasRoom_0 : decode cX12_hasRoom 0 = .ok (.aload_n 0, 1) := by decide +kernel
theorem dX12_hasRoom_1 : decode cX12_hasRoom 1 = .ok (.iload_n 1, 1) := by decide +kernel
theorem dX12_hasRoom_2 : decode cX12_hasRoom 2 = .ok (.invokevirtual 336, 3) := by decide +kernel
theorem dX12_hasRoom_5 : decode cX12_hasRoom 5 = .ok (.ifCond .eq 30, 3) := by decide +kernel
theorem dX12_hasRoom_8 : decode cX12_hasRoom 8 = .ok (.aload_n 0, 1) := by decide +kernel
theorem dX12_hasRoom_9 : decode cX12_hasRoom 9 = .ok (.aload_n 0, 1) := by decide +kernel
theorem dX12_hasRoom_10 : decode cX12_hasRoom 10 = .ok (.iload_n 1, 1) := by decide +kernel
theorem dX12_hasRoom_11 : decode cX12_hasRoom 11 = .ok (.invokevirtual 312, 3) := by decide +kernel
theorem dX12_hasRoom_14 : decode cX12_hasRoom 14 = .ok (.iload_n 3, 1) := by decide +kernel
theorem dX12_hasRoom_15 : decode cX12_hasRoom 15 = .ok (.iconst (-1), 1) := by decide +kernel
theorem dX12_hasRoom_16 : decode cX12_hasRoom 16 = .ok (.ixor, 1) := by decide +kernel
theorem dX12_hasRoom_17 : decode cX12_hasRoom 17 = .ok (.iand, 1) := by decide +kernel
theorem dX12_hasRoom_18 : decode cX12_hasRoom 18 = .ok (.invokevirtual 315, 3) := by decide +kernel
theorem dX12_hasRoom_21 : decode cX12_hasRoom 21 = .ok (.iload_n 2, 1) := by decide +kernel
theorem dX12_hasRoom_22 : decode cX12_hasRoom 22 = .ok (.iadd, 1) := by decide +kernel
theorem dX12_hasRoom_23 : decode cX12_hasRoom 23 = .ok (.aload_n 0, 1) := by decide +kernel
theorem dX12_hasRoom_24 : decode cX12_hasRoom 24 = .ok (.iload_n 1, 1) := by decide +kernel
theorem dX12_hasRoom_25 : decode cX12_hasRoom 25 = .ok (.invokevirtual 339, 3) := by decide +kernel
theorem dX12_hasRoom_28 : decode cX12_hasRoom 28 = .ok (.if_icmp .gt 7, 3) := by decide +kernel
theorem dX12_hasRoom_31 : decode cX12_hasRoom 31 = .ok (.iconst 1, 1) := by decide +kernel
theorem dX12_hasRoom_32 : decode cX12_hasRoom 32 = .ok (.goto 4, 3) := by decide +kernel
theorem dX12_hasRoom_35 : decode cX12_hasRoom 35 = .ok (.iconst 0, 1) := by decide +kernel
theorem dX12_hasRoom_36 : decode cX12_hasRoom 36 = .ok (.ireturn, 1) := by decide +kernel
theorem dX12_breakingBits_0 : decode cX12_breakingBits 0 = .ok (.iconst 0, 1) := by decide +kernel
theorem dX12_breakingBits_1 : decode cX12_breakingBits 1 = .ok (.istore_n 1, 1) := by decide +kernel
theorem dX12_breakingBits_2 : decode cX12_breakingBits 2 = .ok (.iconst 0, 1) := by decide +kernel
theorem dX12_breakingBits_3 : decode cX12_breakingBits 3 = .ok (.istore_n 2, 1) := by decide +kernel
theorem dX12_breakingBits_4 : decode cX12_breakingBits 4 = .ok (.iload_n 2, 1) := by decide +kernel
theorem dX12_breakingBits_5 : decode cX12_breakingBits 5 = .ok (.aload_n 0, 1) := by decide +kernel
theorem dX12_breakingBits_6 : decode cX12_breakingBits 6 = .ok (.getfield 43, 3) := by decide +kernel
theorem dX12_breakingBits_9 : decode cX12_breakingBits 9 = .ok (.aload_n 0, 1) := by decide +kernel
theorem dX12_breakingBits_10 : decode cX12_breakingBits 10 = .ok (.getfield 221, 3) := by decide +kernel
theorem dX12_breakingBits_13 : decode cX12_breakingBits 13 = .ok (.iaload, 1) := by decide +kernel
theorem dX12_breakingBits_14 : decode cX12_breakingBits 14 = .ok (.if_icmp .ge 47, 3) := by decide +kernel
theorem dX12_breakingBits_17 : decode cX12_breakingBits 17 = .ok (.aload_n 0, 1) := by decide +kernel
theorem dX12_breakingBits_18 : decode cX12_breakingBits 18 = .ok (.iload_n 2, 1) := by decide +kernel
theorem dX12_breakingBits_19 : decode cX12_breakingBits 19 = .ok (.invokevirtual 336, 3) := by decide +kernel
theorem dX12_breakingBits_22 : decode cX12_breakingBits 22 = .ok (.ifCond .eq 33, 3) := by decide +kernel
theorem dX12_breakingBits_25 : decode cX12_breakingBits 25 = .ok (.aload_n 0, 1) := by decide +kernel
theorem dX12_breakingBits_26 : decode cX12_breakingBits 26 = .ok (.bipush 16, 2) := by decide +kernel
theorem dX12_breakingBits_28 : decode cX12_breakingBits 28 = .ok (.aload_n 0, 1) := by decide +kernel
theorem dX12_breakingBits_29 : decode cX12_breakingBits 29 = .ok (.getfield 104, 3) := by decide +kernel
theorem dX12_breakingBits_32 : decode cX12_breakingBits 32 = .ok (.bipush 49, 2) := by decide +kernel
theorem dX12_breakingBits_34 : decode cX12_breakingBits 34 = .ok (.iaload, 1) := by decide +kernel
theorem dX12_breakingBits_35 : decode cX12_breakingBits 35 = .ok (.imul, 1) := by decide +kernel
theorem dX12_breakingBits_36 : decode cX12_breakingBits 36 = .ok (.iload_n 2, 1) := by decide +kernel
theorem dX12_breakingBits_37 : decode cX12_breakingBits 37 = .ok (.iadd, 1) := by decide +kernel
theorem dX12_breakingBits_38 : decode cX12_breakingBits 38 = .ok (.invokevirtual 356, 3) := by decide +kernel
theorem dX12_breakingBits_41 : decode cX12_breakingBits 41 = .ok (.aload_n 0, 1) := by decide +kernel
theorem dX12_breakingBits_42 : decode cX12_breakingBits 42 = .ok (.iload_n 2, 1) := by decide +kernel
theorem dX12_breakingBits_43 : decode cX12_breakingBits 43 = .ok (.invokevirtual 359, 3) := by decide +kernel
theorem dX12_breakingBits_46 : decode cX12_breakingBits 46 = .ok (.if_icmp .ge 9, 3) := by decide +kernel
theorem dX12_breakingBits_49 : decode cX12_breakingBits 49 = .ok (.iload_n 1, 1) := by decide +kernel
theorem dX12_breakingBits_50 : decode cX12_breakingBits 50 = .ok (.iconst 1, 1) := by decide +kernel
theorem dX12_breakingBits_51 : decode cX12_breakingBits 51 = .ok (.iload_n 2, 1) := by decide +kernel
theorem dX12_breakingBits_52 : decode cX12_breakingBits 52 = .ok (.ishl, 1) := by decide +kernel
theorem dX12_breakingBits_53 : decode cX12_breakingBits 53 = .ok (.ior, 1) := by decide +kernel
theorem dX12_breakingBits_54 : decode cX12_breakingBits 54 = .ok (.istore_n 1, 1) := by decide +kernel
theorem dX12_breakingBits_55 : decode cX12_breakingBits 55 = .ok (.iinc 2 1, 3) := by decide +kernel
theorem dX12_breakingBits_58 : decode cX12_breakingBits 58 = .ok (.goto (-54), 3) := by decide +kernel
theorem dX12_breakingBits_61 : decode cX12_breakingBits 61 = .ok (.iload_n 1, 1) := by decide +kernel
theorem dX12_breakingBits_62 : decode cX12_breakingBits 62 = .ok (.ireturn, 1) := by decide +kernel
theorem dX12_theyBreak_0 : decode cX12_theyBreak 0 = .ok (.iconst 0, 1) := by decide +kernel
theorem dX12_theyBreak_1 : decode cX12_theyBreak 1 = .ok (.istore_n 2, 1) := by decide +kernel
theorem dX12_theyBreak_2 : decode cX12_theyBreak 2 = .ok (.iload_n 2, 1) := by decide +kernel
theorem dX12_theyBreak_3 : decode cX12_theyBreak 3 = .ok (.aload_n 0, 1) := by decide +kernel
theorem dX12_theyBreak_4 : decode cX12_theyBreak 4 = .ok (.getfield 43, 3) := by decide +kernel
theorem dX12_theyBreak_7 : decode cX12_theyBreak 7 = .ok (.aload_n 0, 1) := by decide +kernel
theorem dX12_theyBreak_8 : decode cX12_theyBreak 8 = .ok (.getfield 221, 3) := by decide +kernel
theorem dX12_theyBreak_11 : decode cX12_theyBreak 11 = .ok (.iaload, 1) := by decide +kernel
theorem dX12_theyBreak_12 : decode cX12_theyBreak 12 = .ok (.if_icmp .ge 43, 3) := by decide +kernel
theorem dX12_theyBreak_15 : decode cX12_theyBreak 15 = .ok (.iload_n 1, 1) := by decide +kernel
theorem dX12_theyBreak_16 : decode cX12_theyBreak 16 = .ok (.iload_n 2, 1) := by decide +kernel
theorem dX12_theyBreak_17 : decode cX12_theyBreak 17 = .ok (.ishr, 1) := by decide +kernel
theorem dX12_theyBreak_18 : decode cX12_theyBreak 18 = .ok (.iconst 1, 1) := by decide +kernel
theorem dX12_theyBreak_19 : decode cX12_theyBreak 19 = .ok (.iand, 1) := by decide +kernel
theorem dX12_theyBreak_20 : decode cX12_theyBreak 20 = .ok (.ifCond .ne 6, 3) := by decide +kernel
theorem dX12_theyBreak_23 : decode cX12_theyBreak 23 = .ok (.goto 26, 3) := by decide +kernel
theorem dX12_theyBreak_26 : decode cX12_theyBreak 26 = .ok (.aload_n 0, 1) := by decide +kernel
theorem dX12_theyBreak_27 : decode cX12_theyBreak 27 = .ok (.getfield 104, 3) := by decide +kernel
theorem dX12_theyBreak_30 : decode cX12_theyBreak 30 = .ok (.bipush 25, 2) := by decide +kernel
theorem dX12_theyBreak_32 : decode cX12_theyBreak 32 = .ok (.iload_n 2, 1) := by decide +kernel
theorem dX12_theyBreak_33 : decode cX12_theyBreak 33 = .ok (.iadd, 1) := by decide +kernel
theorem dX12_theyBreak_34 : decode cX12_theyBreak 34 = .ok (.iconst 1, 1) := by decide +kernel
theorem dX12_theyBreak_35 : decode cX12_theyBreak 35 = .ok (.iastore, 1) := by decide +kernel
theorem dX12_theyBreak_36 : decode cX12_theyBreak 36 = .ok (.aload_n 0, 1) := by decide +kernel
theorem dX12_theyBreak_37 : decode cX12_theyBreak 37 = .ok (.getfield 104, 3) := by decide +kernel
theorem dX12_theyBreak_40 : decode cX12_theyBreak 40 = .ok (.bipush 37, 2) := by decide +kernel
theorem dX12_theyBreak_42 : decode cX12_theyBreak 42 = .ok (.iload_n 2, 1) := by decide +kernel
theorem dX12_theyBreak_43 : decode cX12_theyBreak 43 = .ok (.iadd, 1) := by decide +kernel
theorem dX12_theyBreak_44 : decode cX12_theyBreak 44 = .ok (.dup2, 1) := by decide +kernel
theorem dX12_theyBreak_45 : decode cX12_theyBreak 45 = .ok (.iaload, 1) := by decide +kernel
theorem dX12_theyBreak_46 : decode cX12_theyBreak 46 = .ok (.iconst 1, 1) := by decide +kernel
theorem dX12_theyBreak_47 : decode cX12_theyBreak 47 = .ok (.iadd, 1) := by decide +kernel
theorem dX12_theyBreak_48 : decode cX12_theyBreak 48 = .ok (.iastore, 1) := by decide +kernel
theorem dX12_theyBreak_49 : decode cX12_theyBreak 49 = .ok (.iinc 2 1, 3) := by decide +kernel
theorem dX12_theyBreak_52 : decode cX12_theyBreak 52 = .ok (.goto (-50), 3) := by decide +kernel
theorem dX12_theyBreak_55 : decode cX12_theyBreak 55 = .ok (.iconst 0, 1) := by decide +kernel
theorem dX12_theyBreak_56 : decode cX12_theyBreak 56 = .ok (.istore_n 2, 1) := by decide +kernel
theorem dX12_theyBreak_57 : decode cX12_theyBreak 57 = .ok (.iload_n 2, 1) := by decide +kernel
theorem dX12_theyBreak_58 : decode cX12_theyBreak 58 = .ok (.aload_n 0, 1) := by decide +kernel
theorem dX12_theyBreak_59 : decode cX12_theyBreak 59 = .ok (.getfield 46, 3) := by decide +kernel
theorem dX12_theyBreak_62 : decode cX12_theyBreak 62 = .ok (.aload_n 0, 1) := by decide +kernel
theorem dX12_theyBreak_63 : decode cX12_theyBreak 63 = .ok (.getfield 221, 3) := by decide +kernel
theorem dX12_theyBreak_66 : decode cX12_theyBreak 66 = .ok (.iaload, 1) := by decide +kernel
theorem dX12_theyBreak_67 : decode cX12_theyBreak 67 = .ok (.if_icmp .ge 28, 3) := by decide +kernel
theorem dX12_theyBreak_70 : decode cX12_theyBreak 70 = .ok (.iload_n 1, 1) := by decide +kernel
theorem dX12_theyBreak_71 : decode cX12_theyBreak 71 = .ok (.aload_n 0, 1) := by decide +kernel
theorem dX12_theyBreak_72 : decode cX12_theyBreak 72 = .ok (.getfield 104, 3) := by decide +kernel
theorem dX12_theyBreak_75 : decode cX12_theyBreak 75 = .ok (.iload_n 2, 1) := by decide +kernel
theorem dX12_theyBreak_76 : decode cX12_theyBreak 76 = .ok (.iaload, 1) := by decide +kernel
theorem dX12_theyBreak_77 : decode cX12_theyBreak 77 = .ok (.ishr, 1) := by decide +kernel
theorem dX12_theyBreak_78 : decode cX12_theyBreak 78 = .ok (.iconst 1, 1) := by decide +kernel
theorem dX12_theyBreak_79 : decode cX12_theyBreak 79 = .ok (.iand, 1) := by decide +kernel
theorem dX12_theyBreak_80 : decode cX12_theyBreak 80 = .ok (.iconst 1, 1) := by decide +kernel
theorem dX12_theyBreak_81 : decode cX12_theyBreak 81 = .ok (.if_icmp .ne 8, 3) := by decide +kernel
theorem dX12_theyBreak_84 : decode cX12_theyBreak 84 = .ok (.aload_n 0, 1) := by decide +kernel
theorem dX12_theyBreak_85 : decode cX12_theyBreak 85 = .ok (.iload_n 2, 1) := by decide +kernel
theorem dX12_theyBreak_86 : decode cX12_theyBreak 86 = .ok (.invokevirtual 362, 3) := by decide +kernel
theorem dX12_theyBreak_89 : decode cX12_theyBreak 89 = .ok (.iinc 2 1, 3) := by decide +kernel
theorem dX12_theyBreak_92 : decode cX12_theyBreak 92 = .ok (.goto (-35), 3) := by decide +kernel
theorem dX12_theyBreak_95 : decode cX12_theyBreak 95 = .ok (.return_, 1) := by decide +kernel
theorem dX12_minuteGoes_0 : decode cX12_minuteGoes 0 = .ok (.iconst 0, 1) := by decide +kernel
theorem dX12_minuteGoes_1 : decode cX12_minuteGoes 1 = .ok (.istore_n 1, 1) := by decide +kernel
theorem dX12_minuteGoes_2 : decode cX12_minuteGoes 2 = .ok (.iload_n 1, 1) := by decide +kernel
theorem dX12_minuteGoes_3 : decode cX12_minuteGoes 3 = .ok (.aload_n 0, 1) := by decide +kernel
theorem dX12_minuteGoes_4 : decode cX12_minuteGoes 4 = .ok (.getfield 46, 3) := by decide +kernel
theorem dX12_minuteGoes_7 : decode cX12_minuteGoes 7 = .ok (.aload_n 0, 1) := by decide +kernel
theorem dX12_minuteGoes_8 : decode cX12_minuteGoes 8 = .ok (.getfield 221, 3) := by decide +kernel
theorem dX12_minuteGoes_11 : decode cX12_minuteGoes 11 = .ok (.iaload, 1) := by decide +kernel
theorem dX12_minuteGoes_12 : decode cX12_minuteGoes 12 = .ok (.if_icmp .ge 14, 3) := by decide +kernel
theorem dX12_minuteGoes_15 : decode cX12_minuteGoes 15 = .ok (.aload_n 0, 1) := by decide +kernel
theorem dX12_minuteGoes_16 : decode cX12_minuteGoes 16 = .ok (.iload_n 1, 1) := by decide +kernel
theorem dX12_minuteGoes_17 : decode cX12_minuteGoes 17 = .ok (.invokevirtual 365, 3) := by decide +kernel
theorem dX12_minuteGoes_20 : decode cX12_minuteGoes 20 = .ok (.iinc 1 1, 3) := by decide +kernel
theorem dX12_minuteGoes_23 : decode cX12_minuteGoes 23 = .ok (.goto (-21), 3) := by decide +kernel
theorem dX12_minuteGoes_26 : decode cX12_minuteGoes 26 = .ok (.aload_n 0, 1) := by decide +kernel
theorem dX12_minuteGoes_27 : decode cX12_minuteGoes 27 = .ok (.getfield 299, 3) := by decide +kernel
theorem dX12_minuteGoes_30 : decode cX12_minuteGoes 30 = .ok (.ifCond .ne 11, 3) := by decide +kernel
theorem dX12_minuteGoes_33 : decode cX12_minuteGoes 33 = .ok (.aload_n 0, 1) := by decide +kernel
theorem dX12_minuteGoes_34 : decode cX12_minuteGoes 34 = .ok (.aload_n 0, 1) := by decide +kernel
theorem dX12_minuteGoes_35 : decode cX12_minuteGoes 35 = .ok (.invokevirtual 368, 3) := by decide +kernel
theorem dX12_minuteGoes_38 : decode cX12_minuteGoes 38 = .ok (.invokevirtual 372, 3) := by decide +kernel
theorem dX12_minuteGoes_41 : decode cX12_minuteGoes 41 = .ok (.aload_n 0, 1) := by decide +kernel
theorem dX12_minuteGoes_42 : decode cX12_minuteGoes 42 = .ok (.getfield 104, 3) := by decide +kernel
theorem dX12_minuteGoes_45 : decode cX12_minuteGoes 45 = .ok (.bipush 49, 2) := by decide +kernel
theorem dX12_minuteGoes_47 : decode cX12_minuteGoes 47 = .ok (.dup2, 1) := by decide +kernel
theorem dX12_minuteGoes_48 : decode cX12_minuteGoes 48 = .ok (.iaload, 1) := by decide +kernel
theorem dX12_minuteGoes_49 : decode cX12_minuteGoes 49 = .ok (.iconst 1, 1) := by decide +kernel
theorem dX12_minuteGoes_50 : decode cX12_minuteGoes 50 = .ok (.iadd, 1) := by decide +kernel
theorem dX12_minuteGoes_51 : decode cX12_minuteGoes 51 = .ok (.iastore, 1) := by decide +kernel
theorem dX12_minuteGoes_52 : decode cX12_minuteGoes 52 = .ok (.return_, 1) := by decide +kernel
theorem dX12_goes_0 : decode cX12_goes 0 = .ok (.iconst 0, 1) := by decide +kernel
theorem dX12_goes_1 : decode cX12_goes 1 = .ok (.istore_n 2, 1) := by decide +kernel
theorem dX12_goes_2 : decode cX12_goes 2 = .ok (.iload_n 2, 1) := by decide +kernel
theorem dX12_goes_3 : decode cX12_goes 3 = .ok (.iload_n 1, 1) := by decide +kernel
theorem dX12_goes_4 : decode cX12_goes 4 = .ok (.if_icmp .ge 13, 3) := by decide +kernel
theorem dX12_goes_7 : decode cX12_goes 7 = .ok (.aload_n 0, 1) := by decide +kernel
theorem dX12_goes_8 : decode cX12_goes 8 = .ok (.invokevirtual 375, 3) := by decide +kernel
theorem dX12_goes_11 : decode cX12_goes 11 = .ok (.iinc 2 1, 3) := by decide +kernel
theorem dX12_goes_14 : decode cX12_goes 14 = .ok (.goto (-12), 3) := by decide +kernel
theorem dX12_goes_17 : decode cX12_goes 17 = .ok (.return_, 1) := by decide +kernel
theorem dX12_person_0 : decode cX12_person 0 = .ok (.aload_n 0, 1) := by decide +kernel
theorem dX12_person_1 : decode cX12_person 1 = .ok (.iload_n 1, 1) := by decide +kernel
theorem dX12_person_2 : decode cX12_person 2 = .ok (.invokevirtual 378, 3) := by decide +kernel
theorem dX12_person_5 : decode cX12_person 5 = .ok (.ifCond .ne 5, 3) := by decide +kernel
theorem dX12_person_8 : decode cX12_person 8 = .ok (.iconst (-1), 1) := by decide +kernel
theorem dX12_person_9 : decode cX12_person 9 = .ok (.ireturn, 1) := by decide +kernel
theorem dX12_person_10 : decode cX12_person 10 = .ok (.iload_n 2, 1) := by decide +kernel
theorem dX12_person_11 : decode cX12_person 11 = .ok (.tableswitch 125 0 7 #[45, 52, 58, 72, 86, 95, 105, 115], 45) := by decide +kernel
theorem dX12_person_56 : decode cX12_person 56 = .ok (.aload_n 0, 1) := by decide +kernel
theorem dX12_person_57 : decode cX12_person 57 = .ok (.getfield 101, 3) := by decide +kernel
theorem dX12_person_60 : decode cX12_person 60 = .ok (.iload_n 1, 1) := by decide +kernel
theorem dX12_person_61 : decode cX12_person 61 = .ok (.iaload, 1) := by decide +kernel
theorem dX12_person_62 : decode cX12_person 62 = .ok (.ireturn, 1) := by decide +kernel
theorem dX12_person_63 : decode cX12_person 63 = .ok (.aload_n 0, 1) := by decide +kernel
theorem dX12_person_64 : decode cX12_person 64 = .ok (.iload_n 1, 1) := by decide +kernel
theorem dX12_person_65 : decode cX12_person 65 = .ok (.invokevirtual 309, 3) := by decide +kernel
theorem dX12_person_68 : decode cX12_person 68 = .ok (.ireturn, 1) := by decide +kernel
theorem dX12_person_69 : decode cX12_person 69 = .ok (.aload_n 0, 1) := by decide +kernel
theorem dX12_person_70 : decode cX12_person 70 = .ok (.getfield 55, 3) := by decide +kernel
theorem dX12_person_73 : decode cX12_person 73 = .ok (.iconst 5, 1) := by decide +kernel
theorem dX12_person_74 : decode cX12_person 74 = .ok (.aload_n 0, 1) := by decide +kernel
theorem dX12_person_75 : decode cX12_person 75 = .ok (.getfield 221, 3) := by decide +kernel
theorem dX12_person_78 : decode cX12_person 78 = .ok (.imul, 1) := by decide +kernel
theorem dX12_person_79 : decode cX12_person 79 = .ok (.iload_n 1, 1) := by decide +kernel
theorem dX12_person_80 : decode cX12_person 80 = .ok (.iadd, 1) := by decide +kernel
theorem dX12_person_81 : decode cX12_person 81 = .ok (.iaload, 1) := by decide +kernel
theorem dX12_person_82 : decode cX12_person 82 = .ok (.ireturn, 1) := by decide +kernel
theorem dX12_person_83 : decode cX12_person 83 = .ok (.aload_n 0, 1) := by decide +kernel
theorem dX12_person_84 : decode cX12_person 84 = .ok (.getfield 58, 3) := by decide +kernel
theorem dX12_person_87 : decode cX12_person 87 = .ok (.iconst 5, 1) := by decide +kernel
theorem dX12_person_88 : decode cX12_person 88 = .ok (.aload_n 0, 1) := by decide +kernel
theorem dX12_person_89 : decode cX12_person 89 = .ok (.getfield 221, 3) := by decide +kernel
theorem dX12_person_92 : decode cX12_person 92 = .ok (.imul, 1) := by decide +kernel
theorem dX12_person_93 : decode cX12_person 93 = .ok (.iload_n 1, 1) := by decide +kernel
theorem dX12_person_94 : decode cX12_person 94 = .ok (.iadd, 1) := by decide +kernel
theorem dX12_person_95 : decode cX12_person 95 = .ok (.iaload, 1) := by decide +kernel
theorem dX12_person_96 : decode cX12_person 96 = .ok (.ireturn, 1) := by decide +kernel
theorem dX12_person_97 : decode cX12_person 97 = .ok (.aload_n 0, 1) := by decide +kernel
theorem dX12_person_98 : decode cX12_person 98 = .ok (.getfield 101, 3) := by decide +kernel
theorem dX12_person_101 : decode cX12_person 101 = .ok (.iconst 5, 1) := by decide +kernel
theorem dX12_person_102 : decode cX12_person 102 = .ok (.iload_n 1, 1) := by decide +kernel
theorem dX12_person_103 : decode cX12_person 103 = .ok (.iadd, 1) := by decide +kernel
theorem dX12_person_104 : decode cX12_person 104 = .ok (.iaload, 1) := by decide +kernel
theorem dX12_person_105 : decode cX12_person 105 = .ok (.ireturn, 1) := by decide +kernel
theorem dX12_person_106 : decode cX12_person 106 = .ok (.aload_n 0, 1) := by decide +kernel
theorem dX12_person_107 : decode cX12_person 107 = .ok (.getfield 101, 3) := by decide +kernel
theorem dX12_person_110 : decode cX12_person 110 = .ok (.bipush 10, 2) := by decide +kernel
theorem dX12_person_112 : decode cX12_person 112 = .ok (.iload_n 1, 1) := by decide +kernel
theorem dX12_person_113 : decode cX12_person 113 = .ok (.iadd, 1) := by decide +kernel
theorem dX12_person_114 : decode cX12_person 114 = .ok (.iaload, 1) := by decide +kernel
theorem dX12_person_115 : decode cX12_person 115 = .ok (.ireturn, 1) := by decide +kernel
theorem dX12_person_116 : decode cX12_person 116 = .ok (.aload_n 0, 1) := by decide +kernel
theorem dX12_person_117 : decode cX12_person 117 = .ok (.getfield 101, 3) := by decide +kernel
theorem dX12_person_120 : decode cX12_person 120 = .ok (.bipush 15, 2) := by decide +kernel
theorem dX12_person_122 : decode cX12_person 122 = .ok (.iload_n 1, 1) := by decide +kernel
theorem dX12_person_123 : decode cX12_person 123 = .ok (.iadd, 1) := by decide +kernel
theorem dX12_person_124 : decode cX12_person 124 = .ok (.iaload, 1) := by decide +kernel
theorem dX12_person_125 : decode cX12_person 125 = .ok (.ireturn, 1) := by decide +kernel
theorem dX12_person_126 : decode cX12_person 126 = .ok (.aload_n 0, 1) := by decide +kernel
theorem dX12_person_127 : decode cX12_person 127 = .ok (.getfield 101, 3) := by decide +kernel
theorem dX12_person_130 : decode cX12_person 130 = .ok (.bipush 20, 2) := by decide +kernel
theorem dX12_person_132 : decode cX12_person 132 = .ok (.iload_n 1, 1) := by decide +kernel
theorem dX12_person_133 : decode cX12_person 133 = .ok (.iadd, 1) := by decide +kernel
theorem dX12_person_134 : decode cX12_person 134 = .ok (.iaload, 1) := by decide +kernel
theorem dX12_person_135 : decode cX12_person 135 = .ok (.ireturn, 1) := by decide +kernel
theorem dX12_person_136 : decode cX12_person 136 = .ok (.iconst (-1), 1) := by decide +kernel
theorem dX12_person_137 : decode cX12_person 137 = .ok (.ireturn, 1) := by decide +kernel
theorem dX12_records_0 : decode cX12_records 0 = .ok (.aload_n 0, 1) := by decide +kernel
theorem dX12_records_1 : decode cX12_records 1 = .ok (.getfield 247, 3) := by decide +kernel
theorem dX12_records_4 : decode cX12_records 4 = .ok (.bipush 40, 2) := by decide +kernel
theorem dX12_records_6 : decode cX12_records 6 = .ok (.if_icmp .ne 43, 3) := by decide +kernel
theorem dX12_records_9 : decode cX12_records 9 = .ok (.iconst 0, 1) := by decide +kernel
theorem dX12_records_10 : decode cX12_records 10 = .ok (.istore_n 1, 1) := by decide +kernel
theorem dX12_records_11 : decode cX12_records 11 = .ok (.iload_n 1, 1) := by decide +kernel
theorem dX12_records_12 : decode cX12_records 12 = .ok (.sipush 1989, 3) := by decide +kernel
theorem dX12_records_15 : decode cX12_records 15 = .ok (.if_icmp .ge 24, 3) := by decide +kernel
theorem dX12_records_18 : decode cX12_records 18 = .ok (.aload_n 0, 1) := by decide +kernel
theorem dX12_records_19 : decode cX12_records 19 = .ok (.getfield 107, 3) := by decide +kernel
theorem dX12_records_22 : decode cX12_records 22 = .ok (.iload_n 1, 1) := by decide +kernel
theorem dX12_records_23 : decode cX12_records 23 = .ok (.aload_n 0, 1) := by decide +kernel
theorem dX12_records_24 : decode cX12_records 24 = .ok (.getfield 107, 3) := by decide +kernel
theorem dX12_records_27 : decode cX12_records 27 = .ok (.iload_n 1, 1) := by decide +kernel
theorem dX12_records_28 : decode cX12_records 28 = .ok (.bipush 51, 2) := by decide +kernel
theorem dX12_records_30 : decode cX12_records 30 = .ok (.iadd, 1) := by decide +kernel
theorem dX12_records_31 : decode cX12_records 31 = .ok (.iaload, 1) := by decide +kernel
theorem dX12_records_32 : decode cX12_records 32 = .ok (.iastore, 1) := by decide +kernel
theorem dX12_records_33 : decode cX12_records 33 = .ok (.iinc 1 1, 3) := by decide +kernel
theorem dX12_records_36 : decode cX12_records 36 = .ok (.goto (-25), 3) := by decide +kernel
theorem dX12_records_39 : decode cX12_records 39 = .ok (.aload_n 0, 1) := by decide +kernel
theorem dX12_records_40 : decode cX12_records 40 = .ok (.dup, 1) := by decide +kernel
theorem dX12_records_41 : decode cX12_records 41 = .ok (.getfield 247, 3) := by decide +kernel
theorem dX12_records_44 : decode cX12_records 44 = .ok (.iconst 1, 1) := by decide +kernel
theorem dX12_records_45 : decode cX12_records 45 = .ok (.isub, 1) := by decide +kernel
theorem dX12_records_46 : decode cX12_records 46 = .ok (.putfield 247, 3) := by decide +kernel
theorem dX12_records_49 : decode cX12_records 49 = .ok (.iconst 0, 1) := by decide +kernel
theorem dX12_records_50 : decode cX12_records 50 = .ok (.istore_n 1, 1) := by decide +kernel
theorem dX12_records_51 : decode cX12_records 51 = .ok (.iload_n 1, 1) := by decide +kernel
theorem dX12_records_52 : decode cX12_records 52 = .ok (.bipush 51, 2) := by decide +kernel
theorem dX12_records_54 : decode cX12_records 54 = .ok (.if_icmp .ge 29, 3) := by decide +kernel
theorem dX12_records_57 : decode cX12_records 57 = .ok (.aload_n 0, 1) := by decide +kernel
theorem dX12_records_58 : decode cX12_records 58 = .ok (.getfield 107, 3) := by decide +kernel
theorem dX12_records_61 : decode cX12_records 61 = .ok (.bipush 51, 2) := by decide +kernel
theorem dX12_records_63 : decode cX12_records 63 = .ok (.aload_n 0, 1) := by decide +kernel
theorem dX12_records_64 : decode cX12_records 64 = .ok (.getfield 247, 3) := by decide +kernel
theorem dX12_records_67 : decode cX12_records 67 = .ok (.imul, 1) := by decide +kernel
theorem dX12_records_68 : decode cX12_records 68 = .ok (.iload_n 1, 1) := by decide +kernel
theorem dX12_records_69 : decode cX12_records 69 = .ok (.iadd, 1) := by decide +kernel
theorem dX12_records_70 : decode cX12_records 70 = .ok (.aload_n 0, 1) := by decide +kernel
theorem dX12_records_71 : decode cX12_records 71 = .ok (.getfield 101, 3) := by decide +kernel
theorem dX12_records_74 : decode cX12_records 74 = .ok (.iload_n 1, 1) := by decide +kernel
theorem dX12_records_75 : decode cX12_records 75 = .ok (.iaload, 1) := by decide +kernel
theorem dX12_records_76 : decode cX12_records 76 = .ok (.iastore, 1) := by decide +kernel
theorem dX12_records_77 : decode cX12_records 77 = .ok (.iinc 1 1, 3) := by decide +kernel
theorem dX12_records_80 : decode cX12_records 80 = .ok (.goto (-29), 3) := by decide +kernel
theorem dX12_records_83 : decode cX12_records 83 = .ok (.aload_n 0, 1) := by decide +kernel
theorem dX12_records_84 : decode cX12_records 84 = .ok (.dup, 1) := by decide +kernel
theorem dX12_records_85 : decode cX12_records 85 = .ok (.getfield 247, 3) := by decide +kernel
theorem dX12_records_88 : decode cX12_records 88 = .ok (.iconst 1, 1) := by decide +kernel
theorem dX12_records_89 : decode cX12_records 89 = .ok (.iadd, 1) := by decide +kernel
theorem dX12_records_90 : decode cX12_records 90 = .ok (.putfield 247, 3) := by decide +kernel
theorem dX12_records_93 : decode cX12_records 93 = .ok (.aload_n 0, 1) := by decide +kernel
theorem dX12_records_94 : decode cX12_records 94 = .ok (.invokevirtual 151, 3) := by decide +kernel
theorem dX12_records_97 : decode cX12_records 97 = .ok (.return_, 1) := by decide +kernel
theorem dX12_send_0 : decode cX12_send 0 = .ok (.aload_n 0, 1) := by decide +kernel
theorem dX12_send_1 : decode cX12_send 1 = .ok (.iload_n 1, 1) := by decide +kernel
theorem dX12_send_2 : decode cX12_send 2 = .ok (.invokevirtual 378, 3) := by decide +kernel
theorem dX12_send_5 : decode cX12_send 5 = .ok (.ifCond .eq 16, 3) := by decide +kernel
theorem dX12_send_8 : decode cX12_send 8 = .ok (.iload_n 2, 1) := by decide +kernel
theorem dX12_send_9 : decode cX12_send 9 = .ok (.iconst (-1), 1) := by decide +kernel
theorem dX12_send_10 : decode cX12_send 10 = .ok (.if_icmp .eq 13, 3) := by decide +kernel
theorem dX12_send_13 : decode cX12_send 13 = .ok (.aload_n 0, 1) := by decide +kernel
theorem dX12_send_14 : decode cX12_send 14 = .ok (.iload_n 2, 1) := by decide +kernel
theorem dX12_send_15 : decode cX12_send 15 = .ok (.invokevirtual 306, 3) := by decide +kernel
theorem dX12_send_18 : decode cX12_send 18 = .ok (.ifCond .ne 5, 3) := by decide +kernel
theorem dX12_send_21 : decode cX12_send 21 = .ok (.iconst 0, 1) := by decide +kernel
theorem dX12_send_22 : decode cX12_send 22 = .ok (.ireturn, 1) := by decide +kernel
theorem dX12_send_23 : decode cX12_send 23 = .ok (.iload_n 2, 1) := by decide +kernel
theorem dX12_send_24 : decode cX12_send 24 = .ok (.iconst (-1), 1) := by decide +kernel
theorem dX12_send_25 : decode cX12_send 25 = .ok (.if_icmp .eq 13, 3) := by decide +kernel
theorem dX12_send_28 : decode cX12_send 28 = .ok (.iload_n 2, 1) := by decide +kernel
theorem dX12_send_29 : decode cX12_send 29 = .ok (.aload_n 0, 1) := by decide +kernel
theorem dX12_send_30 : decode cX12_send 30 = .ok (.getfield 101, 3) := by decide +kernel
theorem dX12_send_33 : decode cX12_send 33 = .ok (.iload_n 1, 1) := by decide +kernel
theorem dX12_send_34 : decode cX12_send 34 = .ok (.iaload, 1) := by decide +kernel
theorem dX12_send_35 : decode cX12_send 35 = .ok (.if_icmp .ne 8, 3) := by decide +kernel
theorem dX12_send_38 : decode cX12_send 38 = .ok (.bipush (-2), 2) := by decide +kernel
theorem dX12_send_40 : decode cX12_send 40 = .ok (.goto 4, 3) := by decide +kernel
theorem dX12_send_43 : decode cX12_send 43 = .ok (.iload_n 2, 1) := by decide +kernel
theorem dX12_send_44 : decode cX12_send 44 = .ok (.istore_n 3, 1) := by decide +kernel
theorem dX12_send_45 : decode cX12_send 45 = .ok (.aload_n 0, 1) := by decide +kernel
theorem dX12_send_46 : decode cX12_send 46 = .ok (.getfield 101, 3) := by decide +kernel
theorem dX12_send_49 : decode cX12_send 49 = .ok (.iconst 5, 1) := by decide +kernel
theorem dX12_send_50 : decode cX12_send 50 = .ok (.iload_n 1, 1) := by decide +kernel
theorem dX12_send_51 : decode cX12_send 51 = .ok (.iadd, 1) := by decide +kernel
theorem dX12_send_52 : decode cX12_send 52 = .ok (.iaload, 1) := by decide +kernel
theorem dX12_send_53 : decode cX12_send 53 = .ok (.iload_n 3, 1) := by decide +kernel
theorem dX12_send_54 : decode cX12_send 54 = .ok (.if_icmp .ne 5, 3) := by decide +kernel
theorem dX12_send_57 : decode cX12_send 57 = .ok (.iconst 0, 1) := by decide +kernel
theorem dX12_send_58 : decode cX12_send 58 = .ok (.ireturn, 1) := by decide +kernel
theorem dX12_send_59 : decode cX12_send 59 = .ok (.aload_n 0, 1) := by decide +kernel
theorem dX12_send_60 : decode cX12_send 60 = .ok (.invokevirtual 381, 3) := by decide +kernel
theorem dX12_send_63 : decode cX12_send 63 = .ok (.aload_n 0, 1) := by decide +kernel
theorem dX12_send_64 : decode cX12_send 64 = .ok (.getfield 104, 3) := by decide +kernel
theorem dX12_send_67 : decode cX12_send 67 = .ok (.iconst 5, 1) := by decide +kernel
theorem dX12_send_68 : decode cX12_send 68 = .ok (.iload_n 1, 1) := by decide +kernel
theorem dX12_send_69 : decode cX12_send 69 = .ok (.iadd, 1) := by decide +kernel
theorem dX12_send_70 : decode cX12_send 70 = .ok (.iload_n 3, 1) := by decide +kernel
theorem dX12_send_71 : decode cX12_send 71 = .ok (.iastore, 1) := by decide +kernel
theorem dX12_send_72 : decode cX12_send 72 = .ok (.iload_n 3, 1) := by decide +kernel
theorem dX12_send_73 : decode cX12_send 73 = .ok (.ifCond .ge 13, 3) := by decide +kernel
theorem dX12_send_76 : decode cX12_send 76 = .ok (.aload_n 0, 1) := by decide +kernel
theorem dX12_send_77 : decode cX12_send 77 = .ok (.getfield 104, 3) := by decide +kernel
theorem dX12_send_80 : decode cX12_send 80 = .ok (.bipush 10, 2) := by decide +kernel
theorem dX12_send_82 : decode cX12_send 82 = .ok (.iload_n 1, 1) := by decide +kernel
theorem dX12_send_83 : decode cX12_send 83 = .ok (.iadd, 1) := by decide +kernel
theorem dX12_send_84 : decode cX12_send 84 = .ok (.iconst 0, 1) := by decide +kernel
theorem dX12_send_85 : decode cX12_send 85 = .ok (.iastore, 1) := by decide +kernel
theorem dX12_send_86 : decode cX12_send 86 = .ok (.aload_n 0, 1) := by decide +kernel
theorem dX12_send_87 : decode cX12_send 87 = .ok (.invokevirtual 387, 3) := by decide +kernel
theorem dX12_send_90 : decode cX12_send 90 = .ok (.iconst 1, 1) := by decide +kernel
theorem dX12_send_91 : decode cX12_send 91 = .ok (.ireturn, 1) := by decide +kernel
theorem dX12_mend_0 : decode cX12_mend 0 = .ok (.aload_n 0, 1) := by decide +kernel
theorem dX12_mend_1 : decode cX12_mend 1 = .ok (.iload_n 1, 1) := by decide +kernel
theorem dX12_mend_2 : decode cX12_mend 2 = .ok (.invokevirtual 306, 3) := by decide +kernel
theorem dX12_mend_5 : decode cX12_mend 5 = .ok (.ifCond .eq 15, 3) := by decide +kernel
theorem dX12_mend_8 : decode cX12_mend 8 = .ok (.aload_n 0, 1) := by decide +kernel
theorem dX12_mend_9 : decode cX12_mend 9 = .ok (.getfield 101, 3) := by decide +kernel
theorem dX12_mend_12 : decode cX12_mend 12 = .ok (.bipush 25, 2) := by decide +kernel
theorem dX12_mend_14 : decode cX12_mend 14 = .ok (.iload_n 1, 1) := by decide +kernel
theorem dX12_mend_15 : decode cX12_mend 15 = .ok (.iadd, 1) := by decide +kernel
theorem dX12_mend_16 : decode cX12_mend 16 = .ok (.iaload, 1) := by decide +kernel
theorem dX12_mend_17 : decode cX12_mend 17 = .ok (.ifCond .ne 5, 3) := by decide +kernel
theorem dX12_mend_20 : decode cX12_mend 20 = .ok (.iconst 0, 1) := by decide +kernel
theorem dX12_mend_21 : decode cX12_mend 21 = .ok (.ireturn, 1) := by decide +kernel
theorem dX12_mend_22 : decode cX12_mend 22 = .ok (.aload_n 0, 1) := by decide +kernel
theorem dX12_mend_23 : decode cX12_mend 23 = .ok (.invokevirtual 381, 3) := by decide +kernel
theorem dX12_mend_26 : decode cX12_mend 26 = .ok (.aload_n 0, 1) := by decide +kernel
theorem dX12_mend_27 : decode cX12_mend 27 = .ok (.getfield 104, 3) := by decide +kernel
theorem dX12_mend_30 : decode cX12_mend 30 = .ok (.bipush 25, 2) := by decide +kernel
theorem dX12_mend_32 : decode cX12_mend 32 = .ok (.iload_n 1, 1) := by decide +kernel
theorem dX12_mend_33 : decode cX12_mend 33 = .ok (.iadd, 1) := by decide +kernel
theorem dX12_mend_34 : decode cX12_mend 34 = .ok (.iconst 0, 1) := by decide +kernel
theorem dX12_mend_35 : decode cX12_mend 35 = .ok (.iastore, 1) := by decide +kernel
theorem dX12_mend_36 : decode cX12_mend 36 = .ok (.aload_n 0, 1) := by decide +kernel
theorem dX12_mend_37 : decode cX12_mend 37 = .ok (.invokevirtual 387, 3) := by decide +kernel
theorem dX12_mend_40 : decode cX12_mend 40 = .ok (.iconst 1, 1) := by decide +kernel
theorem dX12_mend_41 : decode cX12_mend 41 = .ok (.ireturn, 1) := by decide +kernel
theorem dX12_pours_0 : decode cX12_pours 0 = .ok (.iload_n 1, 1) := by decide +kernel
theorem dX12_pours_1 : decode cX12_pours 1 = .ok (.istore_n 2, 1) := by decide +kernel
theorem dX12_pours_2 : decode cX12_pours 2 = .ok (.iconst 0, 1) := by decide +kernel
theorem dX12_pours_3 : decode cX12_pours 3 = .ok (.istore_n 3, 1) := by decide +kernel
theorem dX12_pours_4 : decode cX12_pours 4 = .ok (.iload_n 3, 1) := by decide +kernel
theorem dX12_pours_5 : decode cX12_pours 5 = .ok (.aload_n 0, 1) := by decide +kernel
theorem dX12_pours_6 : decode cX12_pours 6 = .ok (.getfield 43, 3) := by decide +kernel
theorem dX12_pours_9 : decode cX12_pours 9 = .ok (.aload_n 0, 1) := by decide +kernel
theorem dX12_pours_10 : decode cX12_pours 10 = .ok (.getfield 221, 3) := by decide +kernel
theorem dX12_pours_13 : decode cX12_pours 13 = .ok (.iaload, 1) := by decide +kernel
theorem dX12_pours_14 : decode cX12_pours 14 = .ok (.if_icmp .ge 70, 3) := by decide +kernel
theorem dX12_pours_17 : decode cX12_pours 17 = .ok (.iconst 0, 1) := by decide +kernel
theorem dX12_pours_18 : decode cX12_pours 18 = .ok (.istore 4, 2) := by decide +kernel
theorem dX12_pours_20 : decode cX12_pours 20 = .ok (.iload 4, 2) := by decide +kernel
theorem dX12_pours_22 : decode cX12_pours 22 = .ok (.aload_n 0, 1) := by decide +kernel
theorem dX12_pours_23 : decode cX12_pours 23 = .ok (.getfield 46, 3) := by decide +kernel
theorem dX12_pours_26 : decode cX12_pours 26 = .ok (.aload_n 0, 1) := by decide +kernel
theorem dX12_pours_27 : decode cX12_pours 27 = .ok (.getfield 221, 3) := by decide +kernel
theorem dX12_pours_30 : decode cX12_pours 30 = .ok (.iaload, 1) := by decide +kernel
theorem dX12_pours_31 : decode cX12_pours 31 = .ok (.if_icmp .ge 47, 3) := by decide +kernel
theorem dX12_pours_34 : decode cX12_pours 34 = .ok (.aload_n 0, 1) := by decide +kernel
theorem dX12_pours_35 : decode cX12_pours 35 = .ok (.getfield 104, 3) := by decide +kernel
theorem dX12_pours_38 : decode cX12_pours 38 = .ok (.iload 4, 2) := by decide +kernel
theorem dX12_pours_40 : decode cX12_pours 40 = .ok (.iaload, 1) := by decide +kernel
theorem dX12_pours_41 : decode cX12_pours 41 = .ok (.iload_n 3, 1) := by decide +kernel
theorem dX12_pours_42 : decode cX12_pours 42 = .ok (.if_icmp .eq 6, 3) := by decide +kernel
theorem dX12_pours_45 : decode cX12_pours 45 = .ok (.goto 27, 3) := by decide +kernel
theorem dX12_pours_48 : decode cX12_pours 48 = .ok (.aload_n 0, 1) := by decide +kernel
theorem dX12_pours_49 : decode cX12_pours 49 = .ok (.getfield 110, 3) := by decide +kernel
theorem dX12_pours_52 : decode cX12_pours 52 = .ok (.iload 4, 2) := by decide +kernel
theorem dX12_pours_54 : decode cX12_pours 54 = .ok (.aload_n 0, 1) := by decide +kernel
theorem dX12_pours_55 : decode cX12_pours 55 = .ok (.iload 4, 2) := by decide +kernel
theorem dX12_pours_57 : decode cX12_pours 57 = .ok (.iload_n 2, 1) := by decide +kernel
theorem dX12_pours_58 : decode cX12_pours 58 = .ok (.invokevirtual 390, 3) := by decide +kernel
theorem dX12_pours_61 : decode cX12_pours 61 = .ok (.iastore, 1) := by decide +kernel
theorem dX12_pours_62 : decode cX12_pours 62 = .ok (.iload_n 2, 1) := by decide +kernel
theorem dX12_pours_63 : decode cX12_pours 63 = .ok (.aload_n 0, 1) := by decide +kernel
theorem dX12_pours_64 : decode cX12_pours 64 = .ok (.getfield 110, 3) := by decide +kernel
theorem dX12_pours_67 : decode cX12_pours 67 = .ok (.iload 4, 2) := by decide +kernel
theorem dX12_pours_69 : decode cX12_pours 69 = .ok (.iaload, 1) := by decide +kernel
theorem dX12_pours_70 : decode cX12_pours 70 = .ok (.isub, 1) := by decide +kernel
theorem dX12_pours_71 : decode cX12_pours 71 = .ok (.istore_n 2, 1) := by decide +kernel
theorem dX12_pours_72 : decode cX12_pours 72 = .ok (.iinc 4 1, 3) := by decide +kernel
theorem dX12_pours_75 : decode cX12_pours 75 = .ok (.goto (-55), 3) := by decide +kernel
theorem dX12_pours_78 : decode cX12_pours 78 = .ok (.iinc 3 1, 3) := by decide +kernel
theorem dX12_pours_81 : decode cX12_pours 81 = .ok (.goto (-77), 3) := by decide +kernel
theorem dX12_pours_84 : decode cX12_pours 84 = .ok (.iload_n 2, 1) := by decide +kernel
theorem dX12_pours_85 : decode cX12_pours 85 = .ok (.ireturn, 1) := by decide +kernel
theorem dX12_isWater_0 : decode cX12_isWater 0 = .ok (.iload_n 0, 1) := by decide +kernel
theorem dX12_isWater_1 : decode cX12_isWater 1 = .ok (.iconst 0, 1) := by decide +kernel
theorem dX12_isWater_2 : decode cX12_isWater 2 = .ok (.bipush 99, 2) := by decide +kernel
theorem dX12_isWater_4 : decode cX12_isWater 4 = .ok (.invokestatic 292, 3) := by decide +kernel
theorem dX12_isWater_7 : decode cX12_isWater 7 = .ok (.ireturn, 1) := by decide +kernel
theorem dX12_bucket_0 : decode cX12_bucket 0 = .ok (.iload_n 1, 1) := by decide +kernel
theorem dX12_bucket_1 : decode cX12_bucket 1 = .ok (.invokestatic 393, 3) := by decide +kernel
theorem dX12_bucket_4 : decode cX12_bucket 4 = .ok (.ifCond .ne 5, 3) := by decide +kernel
theorem dX12_bucket_7 : decode cX12_bucket 7 = .ok (.iconst (-1), 1) := by decide +kernel
theorem dX12_bucket_8 : decode cX12_bucket 8 = .ok (.ireturn, 1) := by decide +kernel
theorem dX12_bucket_9 : decode cX12_bucket 9 = .ok (.aload_n 0, 1) := by decide +kernel
theorem dX12_bucket_10 : decode cX12_bucket 10 = .ok (.invokevirtual 381, 3) := by decide +kernel
theorem dX12_bucket_13 : decode cX12_bucket 13 = .ok (.aload_n 0, 1) := by decide +kernel
theorem dX12_bucket_14 : decode cX12_bucket 14 = .ok (.iload_n 1, 1) := by decide +kernel
theorem dX12_bucket_15 : decode cX12_bucket 15 = .ok (.invokevirtual 396, 3) := by decide +kernel
theorem dX12_bucket_18 : decode cX12_bucket 18 = .ok (.istore_n 2, 1) := by decide +kernel
theorem dX12_bucket_19 : decode cX12_bucket 19 = .ok (.iconst 0, 1) := by decide +kernel
theorem dX12_bucket_20 : decode cX12_bucket 20 = .ok (.istore_n 3, 1) := by decide +kernel
theorem dX12_bucket_21 : decode cX12_bucket 21 = .ok (.iload_n 3, 1) := by decide +kernel
theorem dX12_bucket_22 : decode cX12_bucket 22 = .ok (.aload_n 0, 1) := by decide +kernel
theorem dX12_bucket_23 : decode cX12_bucket 23 = .ok (.getfield 46, 3) := by decide +kernel
theorem dX12_bucket_26 : decode cX12_bucket 26 = .ok (.aload_n 0, 1) := by decide +kernel
theorem dX12_bucket_27 : decode cX12_bucket 27 = .ok (.getfield 221, 3) := by decide +kernel
theorem dX12_bucket_30 : decode cX12_bucket 30 = .ok (.iaload, 1) := by decide +kernel
theorem dX12_bucket_31 : decode cX12_bucket 31 = .ok (.if_icmp .ge 27, 3) := by decide +kernel
theorem dX12_bucket_34 : decode cX12_bucket 34 = .ok (.aload_n 0, 1) := by decide +kernel
theorem dX12_bucket_35 : decode cX12_bucket 35 = .ok (.getfield 104, 3) := by decide +kernel
theorem dX12_bucket_38 : decode cX12_bucket 38 = .ok (.bipush 15, 2) := by decide +kernel
theorem dX12_bucket_40 : decode cX12_bucket 40 = .ok (.iload_n 3, 1) := by decide +kernel
theorem dX12_bucket_41 : decode cX12_bucket 41 = .ok (.iadd, 1) := by decide +kernel
theorem dX12_bucket_42 : decode cX12_bucket 42 = .ok (.dup2, 1) := by decide +kernel
theorem dX12_bucket_43 : decode cX12_bucket 43 = .ok (.iaload, 1) := by decide +kernel
theorem dX12_bucket_44 : decode cX12_bucket 44 = .ok (.aload_n 0, 1) := by decide +kernel
theorem dX12_bucket_45 : decode cX12_bucket 45 = .ok (.getfield 110, 3) := by decide +kernel
theorem dX12_bucket_48 : decode cX12_bucket 48 = .ok (.iload_n 3, 1) := by decide +kernel
theorem dX12_bucket_49 : decode cX12_bucket 49 = .ok (.iaload, 1) := by decide +kernel
theorem dX12_bucket_50 : decode cX12_bucket 50 = .ok (.iadd, 1) := by decide +kernel
theorem dX12_bucket_51 : decode cX12_bucket 51 = .ok (.iastore, 1) := by decide +kernel
theorem dX12_bucket_52 : decode cX12_bucket 52 = .ok (.iinc 3 1, 3) := by decide +kernel
theorem dX12_bucket_55 : decode cX12_bucket 55 = .ok (.goto (-34), 3) := by decide +kernel
theorem dX12_bucket_58 : decode cX12_bucket 58 = .ok (.aload_n 0, 1) := by decide +kernel
theorem dX12_bucket_59 : decode cX12_bucket 59 = .ok (.invokevirtual 387, 3) := by decide +kernel
theorem dX12_bucket_62 : decode cX12_bucket 62 = .ok (.iload_n 2, 1) := by decide +kernel
theorem dX12_bucket_63 : decode cX12_bucket 63 = .ok (.ireturn, 1) := by decide +kernel
theorem dX12_isLong_0 : decode cX12_isLong 0 = .ok (.iload_n 0, 1) := by decide +kernel
theorem dX12_isLong_1 : decode cX12_isLong 1 = .ok (.iconst 0, 1) := by decide +kernel
theorem dX12_isLong_2 : decode cX12_isLong 2 = .ok (.bipush 60, 2) := by decide +kernel
theorem dX12_isLong_4 : decode cX12_isLong 4 = .ok (.invokestatic 292, 3) := by decide +kernel
theorem dX12_isLong_7 : decode cX12_isLong 7 = .ok (.ireturn, 1) := by decide +kernel
theorem dX12_minutes_0 : decode cX12_minutes 0 = .ok (.iload_n 1, 1) := by decide +kernel
theorem dX12_minutes_1 : decode cX12_minutes 1 = .ok (.invokestatic 399, 3) := by decide +kernel
theorem dX12_minutes_4 : decode cX12_minutes 4 = .ok (.ifCond .ne 5, 3) := by decide +kernel
theorem dX12_minutes_7 : decode cX12_minutes 7 = .ok (.iconst (-1), 1) := by decide +kernel
theorem dX12_minutes_8 : decode cX12_minutes 8 = .ok (.ireturn, 1) := by decide +kernel
theorem dX12_minutes_9 : decode cX12_minutes 9 = .ok (.iload_n 1, 1) := by decide +kernel
theorem dX12_minutes_10 : decode cX12_minutes 10 = .ok (.ifCond .ne 11, 3) := by decide +kernel
theorem dX12_minutes_13 : decode cX12_minutes 13 = .ok (.aload_n 0, 1) := by decide +kernel
theorem dX12_minutes_14 : decode cX12_minutes 14 = .ok (.getfield 101, 3) := by decide +kernel
theorem dX12_minutes_17 : decode cX12_minutes 17 = .ok (.bipush 49, 2) := by decide +kernel
theorem dX12_minutes_19 : decode cX12_minutes 19 = .ok (.iaload, 1) := by decide +kernel
theorem dX12_minutes_20 : decode cX12_minutes 20 = .ok (.ireturn, 1) := by decide +kernel
theorem dX12_minutes_21 : decode cX12_minutes 21 = .ok (.aload_n 0, 1) := by decide +kernel
theorem dX12_minutes_22 : decode cX12_minutes 22 = .ok (.invokevirtual 381, 3) := by decide +kernel
theorem dX12_minutes_25 : decode cX12_minutes 25 = .ok (.aload_n 0, 1) := by decide +kernel
theorem dX12_minutes_26 : decode cX12_minutes 26 = .ok (.iload_n 1, 1) := by decide +kernel
theorem dX12_minutes_27 : decode cX12_minutes 27 = .ok (.invokevirtual 402, 3) := by decide +kernel
theorem dX12_minutes_30 : decode cX12_minutes 30 = .ok (.aload_n 0, 1) := by decide +kernel
theorem dX12_minutes_31 : decode cX12_minutes 31 = .ok (.invokevirtual 387, 3) := by decide +kernel
theorem dX12_minutes_34 : decode cX12_minutes 34 = .ok (.aload_n 0, 1) := by decide +kernel
theorem dX12_minutes_35 : decode cX12_minutes 35 = .ok (.getfield 101, 3) := by decide +kernel
theorem dX12_minutes_38 : decode cX12_minutes 38 = .ok (.bipush 49, 2) := by decide +kernel
theorem dX12_minutes_40 : decode cX12_minutes 40 = .ok (.iaload, 1) := by decide +kernel
theorem dX12_minutes_41 : decode cX12_minutes 41 = .ok (.ireturn, 1) := by decide +kernel
theorem dX12_undo_0 : decode cX12_undo 0 = .ok (.aload_n 0, 1) := by decide +kernel
theorem dX12_undo_1 : decode cX12_undo 1 = .ok (.getfield 247, 3) := by decide +kernel
theorem dX12_undo_4 : decode cX12_undo 4 = .ok (.ifCond .ne 5, 3) := by decide +kernel
theorem dX12_undo_7 : decode cX12_undo 7 = .ok (.iconst 0, 1) := by decide +kernel
theorem dX12_undo_8 : decode cX12_undo 8 = .ok (.ireturn, 1) := by decide +kernel
theorem dX12_undo_9 : decode cX12_undo 9 = .ok (.aload_n 0, 1) := by decide +kernel
theorem dX12_undo_10 : decode cX12_undo 10 = .ok (.dup, 1) := by decide +kernel
theorem dX12_undo_11 : decode cX12_undo 11 = .ok (.getfield 247, 3) := by decide +kernel
theorem dX12_undo_14 : decode cX12_undo 14 = .ok (.iconst 1, 1) := by decide +kernel
theorem dX12_undo_15 : decode cX12_undo 15 = .ok (.isub, 1) := by decide +kernel
theorem dX12_undo_16 : decode cX12_undo 16 = .ok (.putfield 247, 3) := by decide +kernel
theorem dX12_undo_19 : decode cX12_undo 19 = .ok (.iconst 0, 1) := by decide +kernel
theorem dX12_undo_20 : decode cX12_undo 20 = .ok (.istore_n 1, 1) := by decide +kernel
theorem dX12_undo_21 : decode cX12_undo 21 = .ok (.iload_n 1, 1) := by decide +kernel
theorem dX12_undo_22 : decode cX12_undo 22 = .ok (.bipush 51, 2) := by decide +kernel
theorem dX12_undo_24 : decode cX12_undo 24 = .ok (.if_icmp .ge 29, 3) := by decide +kernel
theorem dX12_undo_27 : decode cX12_undo 27 = .ok (.aload_n 0, 1) := by decide +kernel
theorem dX12_undo_28 : decode cX12_undo 28 = .ok (.getfield 101, 3) := by decide +kernel
theorem dX12_undo_31 : decode cX12_undo 31 = .ok (.iload_n 1, 1) := by decide +kernel
theorem dX12_undo_32 : decode cX12_undo 32 = .ok (.aload_n 0, 1) := by decide +kernel
theorem dX12_undo_33 : decode cX12_undo 33 = .ok (.getfield 107, 3) := by decide +kernel
theorem dX12_undo_36 : decode cX12_undo 36 = .ok (.bipush 51, 2) := by decide +kernel
theorem dX12_undo_38 : decode cX12_undo 38 = .ok (.aload_n 0, 1) := by decide +kernel
theorem dX12_undo_39 : decode cX12_undo 39 = .ok (.getfield 247, 3) := by decide +kernel
theorem dX12_undo_42 : decode cX12_undo 42 = .ok (.imul, 1) := by decide +kernel
theorem dX12_undo_43 : decode cX12_undo 43 = .ok (.iload_n 1, 1) := by decide +kernel
theorem dX12_undo_44 : decode cX12_undo 44 = .ok (.iadd, 1) := by decide +kernel
theorem dX12_undo_45 : decode cX12_undo 45 = .ok (.iaload, 1) := by decide +kernel
theorem dX12_undo_46 : decode cX12_undo 46 = .ok (.iastore, 1) := by decide +kernel
theorem dX12_undo_47 : decode cX12_undo 47 = .ok (.iinc 1 1, 3) := by decide +kernel
theorem dX12_undo_50 : decode cX12_undo 50 = .ok (.goto (-29), 3) := by decide +kernel
theorem dX12_undo_53 : decode cX12_undo 53 = .ok (.iconst 1, 1) := by decide +kernel
theorem dX12_undo_54 : decode cX12_undo 54 = .ok (.ireturn, 1) := by decide +kernel
theorem dX12_inTheWay_0 : decode cX12_inTheWay 0 = .ok (.aload_n 0, 1) := by decide +kernel
theorem dX12_inTheWay_1 : decode cX12_inTheWay 1 = .ok (.iload_n 1, 1) := by decide +kernel
theorem dX12_inTheWay_2 : decode cX12_inTheWay 2 = .ok (.invokevirtual 378, 3) := by decide +kernel
theorem dX12_inTheWay_5 : decode cX12_inTheWay 5 = .ok (.ifCond .eq 11, 3) := by decide +kernel
theorem dX12_inTheWay_8 : decode cX12_inTheWay 8 = .ok (.aload_n 0, 1) := by decide +kernel
theorem dX12_inTheWay_9 : decode cX12_inTheWay 9 = .ok (.iload_n 2, 1) := by decide +kernel
theorem dX12_inTheWay_10 : decode cX12_inTheWay 10 = .ok (.invokevirtual 306, 3) := by decide +kernel
theorem dX12_inTheWay_13 : decode cX12_inTheWay 13 = .ok (.ifCond .ne 5, 3) := by decide +kernel
theorem dX12_inTheWay_16 : decode cX12_inTheWay 16 = .ok (.iconst (-1), 1) := by decide +kernel
theorem dX12_inTheWay_17 : decode cX12_inTheWay 17 = .ok (.ireturn, 1) := by decide +kernel
theorem dX12_inTheWay_18 : decode cX12_inTheWay 18 = .ok (.aload_n 0, 1) := by decide +kernel
theorem dX12_inTheWay_19 : decode cX12_inTheWay 19 = .ok (.invokevirtual 381, 3) := by decide +kernel
theorem dX12_inTheWay_22 : decode cX12_inTheWay 22 = .ok (.aload_n 0, 1) := by decide +kernel
theorem dX12_inTheWay_23 : decode cX12_inTheWay 23 = .ok (.iload_n 1, 1) := by decide +kernel
theorem dX12_inTheWay_24 : decode cX12_inTheWay 24 = .ok (.iload_n 2, 1) := by decide +kernel
theorem dX12_inTheWay_25 : decode cX12_inTheWay 25 = .ok (.invokevirtual 405, 3) := by decide +kernel
theorem dX12_inTheWay_28 : decode cX12_inTheWay 28 = .ok (.ireturn, 1) := by decide +kernel
theorem dX12_above_0 : decode cX12_above 0 = .ok (.aload_n 0, 1) := by decide +kernel
theorem dX12_above_1 : decode cX12_above 1 = .ok (.iload_n 1, 1) := by decide +kernel
theorem dX12_above_2 : decode cX12_above 2 = .ok (.invokevirtual 378, 3) := by decide +kernel
theorem dX12_above_5 : decode cX12_above 5 = .ok (.ifCond .ne 5, 3) := by decide +kernel
theorem dX12_above_8 : decode cX12_above 8 = .ok (.iconst (-1), 1) := by decide +kernel
theorem dX12_above_9 : decode cX12_above 9 = .ok (.ireturn, 1) := by decide +kernel
theorem dX12_above_10 : decode cX12_above 10 = .ok (.iconst 0, 1) := by decide +kernel
theorem dX12_above_11 : decode cX12_above 11 = .ok (.istore_n 2, 1) := by decide +kernel
theorem dX12_above_12 : decode cX12_above 12 = .ok (.iconst 0, 1) := by decide +kernel
theorem dX12_above_13 : decode cX12_above 13 = .ok (.istore_n 3, 1) := by decide +kernel
theorem dX12_above_14 : decode cX12_above 14 = .ok (.iload_n 3, 1) := by decide +kernel
theorem dX12_above_15 : decode cX12_above 15 = .ok (.aload_n 0, 1) := by decide +kernel
theorem dX12_above_16 : decode cX12_above 16 = .ok (.getfield 46, 3) := by decide +kernel
theorem dX12_above_19 : decode cX12_above 19 = .ok (.aload_n 0, 1) := by decide +kernel
theorem dX12_above_20 : decode cX12_above 20 = .ok (.getfield 221, 3) := by decide +kernel
theorem dX12_above_23 : decode cX12_above 23 = .ok (.iaload, 1) := by decide +kernel
theorem dX12_above_24 : decode cX12_above 24 = .ok (.if_icmp .ge 30, 3) := by decide +kernel
theorem dX12_above_27 : decode cX12_above 27 = .ok (.aload_n 0, 1) := by decide +kernel
theorem dX12_above_28 : decode cX12_above 28 = .ok (.getfield 101, 3) := by decide +kernel
theorem dX12_above_31 : decode cX12_above 31 = .ok (.iload_n 3, 1) := by decide +kernel
theorem dX12_above_32 : decode cX12_above 32 = .ok (.iaload, 1) := by decide +kernel
theorem dX12_above_33 : decode cX12_above 33 = .ok (.aload_n 0, 1) := by decide +kernel
theorem dX12_above_34 : decode cX12_above 34 = .ok (.getfield 101, 3) := by decide +kernel
theorem dX12_above_37 : decode cX12_above 37 = .ok (.iload_n 1, 1) := by decide +kernel
theorem dX12_above_38 : decode cX12_above 38 = .ok (.iaload, 1) := by decide +kernel
theorem dX12_above_39 : decode cX12_above 39 = .ok (.if_icmp .ge 9, 3) := by decide +kernel
theorem dX12_above_42 : decode cX12_above 42 = .ok (.iload_n 2, 1) := by decide +kernel
theorem dX12_above_43 : decode cX12_above 43 = .ok (.iconst 1, 1) := by decide +kernel
theorem dX12_above_44 : decode cX12_above 44 = .ok (.iload_n 3, 1) := by decide +kernel
theorem dX12_above_45 : decode cX12_above 45 = .ok (.ishl, 1) := by decide +kernel
theorem dX12_above_46 : decode cX12_above 46 = .ok (.ior, 1) := by decide +kernel
theorem dX12_above_47 : decode cX12_above 47 = .ok (.istore_n 2, 1) := by decide +kernel
theorem dX12_above_48 : decode cX12_above 48 = .ok (.iinc 3 1, 3) := by decide +kernel
theorem dX12_above_51 : decode cX12_above 51 = .ok (.goto (-37), 3) := by decide +kernel
theorem dX12_above_54 : decode cX12_above 54 = .ok (.iload_n 2, 1) := by decide +kernel
theorem dX12_above_55 : decode cX12_above 55 = .ok (.ireturn, 1) := by decide +kernel
theorem dX12_isWidth_0 : decode cX12_isWidth 0 = .ok (.iload_n 0, 1) := by decide +kernel
theorem dX12_isWidth_1 : decode cX12_isWidth 1 = .ok (.iconst 1, 1) := by decide +kernel
theorem dX12_isWidth_2 : decode cX12_isWidth 2 = .ok (.bipush 9, 2) := by decide +kernel
theorem dX12_isWidth_4 : decode cX12_isWidth 4 = .ok (.invokestatic 292, 3) := by decide +kernel
theorem dX12_isWidth_7 : decode cX12_isWidth 7 = .ok (.ireturn, 1) := by decide +kernel
theorem dX12_free_0 : decode cX12_free 0 = .ok (.iload_n 1, 1) := by decide +kernel
theorem dX12_free_1 : decode cX12_free 1 = .ok (.invokestatic 430, 3) := by decide +kernel
theorem dX12_free_4 : decode cX12_free 4 = .ok (.ifCond .ne 5, 3) := by decide +kernel
theorem dX12_free_7 : decode cX12_free 7 = .ok (.iconst (-1), 1) := by decide +kernel
theorem dX12_free_8 : decode cX12_free 8 = .ok (.ireturn, 1) := by decide +kernel
theorem dX12_free_9 : decode cX12_free 9 = .ok (.aload_n 0, 1) := by decide +kernel
theorem dX12_free_10 : decode cX12_free 10 = .ok (.invokevirtual 381, 3) := by decide +kernel
theorem dX12_free_13 : decode cX12_free 13 = .ok (.iconst 0, 1) := by decide +kernel
theorem dX12_free_14 : decode cX12_free 14 = .ok (.istore_n 2, 1) := by decide +kernel
theorem dX12_free_15 : decode cX12_free 15 = .ok (.iconst 0, 1) := by decide +kernel
theorem dX12_free_16 : decode cX12_free 16 = .ok (.istore_n 3, 1) := by decide +kernel
theorem dX12_free_17 : decode cX12_free 17 = .ok (.iload_n 3, 1) := by decide +kernel
theorem dX12_free_18 : decode cX12_free 18 = .ok (.aload_n 0, 1) := by decide +kernel
theorem dX12_free_19 : decode cX12_free 19 = .ok (.getfield 43, 3) := by decide +kernel
theorem dX12_free_22 : decode cX12_free 22 = .ok (.aload_n 0, 1) := by decide +kernel
theorem dX12_free_23 : decode cX12_free 23 = .ok (.getfield 221, 3) := by decide +kernel
theorem dX12_free_26 : decode cX12_free 26 = .ok (.iaload, 1) := by decide +kernel
theorem dX12_free_27 : decode cX12_free 27 = .ok (.if_icmp .ge 25, 3) := by decide +kernel
theorem dX12_free_30 : decode cX12_free 30 = .ok (.aload_n 0, 1) := by decide +kernel
theorem dX12_free_31 : decode cX12_free 31 = .ok (.iload_n 3, 1) := by decide +kernel
theorem dX12_free_32 : decode cX12_free 32 = .ok (.iload_n 1, 1) := by decide +kernel
theorem dX12_free_33 : decode cX12_free 33 = .ok (.iconst 0, 1) := by decide +kernel
theorem dX12_free_34 : decode cX12_free 34 = .ok (.invokevirtual 342, 3) := by decide +kernel
theorem dX12_free_37 : decode cX12_free 37 = .ok (.ifCond .eq 9, 3) := by decide +kernel
theorem dX12_free_40 : decode cX12_free 40 = .ok (.iload_n 2, 1) := by decide +kernel
theorem dX12_free_41 : decode cX12_free 41 = .ok (.iconst 1, 1) := by decide +kernel
theorem dX12_free_42 : decode cX12_free 42 = .ok (.iload_n 3, 1) := by decide +kernel
theorem dX12_free_43 : decode cX12_free 43 = .ok (.ishl, 1) := by decide +kernel
theorem dX12_free_44 : decode cX12_free 44 = .ok (.ior, 1) := by decide +kernel
theorem dX12_free_45 : decode cX12_free 45 = .ok (.istore_n 2, 1) := by decide +kernel
theorem dX12_free_46 : decode cX12_free 46 = .ok (.iinc 3 1, 3) := by decide +kernel
theorem dX12_free_49 : decode cX12_free 49 = .ok (.goto (-32), 3) := by decide +kernel
theorem dX12_free_52 : decode cX12_free 52 = .ok (.iload_n 2, 1) := by decide +kernel
theorem dX12_free_53 : decode cX12_free 53 = .ok (.ireturn, 1) := by decide +kernel
theorem dX12_tell_0 : decode cX12_tell 0 = .ok (.aload_n 0, 1) := by decide +kernel
theorem dX12_tell_1 : decode cX12_tell 1 = .ok (.getfield 250, 3) := by decide +kernel
theorem dX12_tell_4 : decode cX12_tell 4 = .ok (.bipush 20, 2) := by decide +kernel
theorem dX12_tell_6 : decode cX12_tell 6 = .ok (.if_icmp .eq 11, 3) := by decide +kernel
theorem dX12_tell_9 : decode cX12_tell 9 = .ok (.aload_n 0, 1) := by decide +kernel
theorem dX12_tell_10 : decode cX12_tell 10 = .ok (.iload_n 1, 1) := by decide +kernel
theorem dX12_tell_11 : decode cX12_tell 11 = .ok (.invokevirtual 306, 3) := by decide +kernel
theorem dX12_tell_14 : decode cX12_tell 14 = .ok (.ifCond .ne 5, 3) := by decide +kernel
theorem dX12_tell_17 : decode cX12_tell 17 = .ok (.iconst (-1), 1) := by decide +kernel
theorem dX12_tell_18 : decode cX12_tell 18 = .ok (.ireturn, 1) := by decide +kernel
theorem dX12_tell_19 : decode cX12_tell 19 = .ok (.aload_n 0, 1) := by decide +kernel
theorem dX12_tell_20 : decode cX12_tell 20 = .ok (.getfield 128, 3) := by decide +kernel
theorem dX12_tell_23 : decode cX12_tell 23 = .ok (.aload_n 0, 1) := by decide +kernel
theorem dX12_tell_24 : decode cX12_tell 24 = .ok (.getfield 250, 3) := by decide +kernel
theorem dX12_tell_27 : decode cX12_tell 27 = .ok (.iload_n 1, 1) := by decide +kernel
theorem dX12_tell_28 : decode cX12_tell 28 = .ok (.iastore, 1) := by decide +kernel
theorem dX12_tell_29 : decode cX12_tell 29 = .ok (.aload_n 0, 1) := by decide +kernel
theorem dX12_tell_30 : decode cX12_tell 30 = .ok (.getfield 131, 3) := by decide +kernel
theorem dX12_tell_33 : decode cX12_tell 33 = .ok (.aload_n 0, 1) := by decide +kernel
theorem dX12_tell_34 : decode cX12_tell 34 = .ok (.getfield 250, 3) := by decide +kernel
theorem dX12_tell_37 : decode cX12_tell 37 = .ok (.iload_n 2, 1) := by decide +kernel
theorem dX12_tell_38 : decode cX12_tell 38 = .ok (.bastore, 1) := by decide +kernel
theorem dX12_tell_39 : decode cX12_tell 39 = .ok (.aload_n 0, 1) := by decide +kernel
theorem dX12_tell_40 : decode cX12_tell 40 = .ok (.dup, 1) := by decide +kernel
theorem dX12_tell_41 : decode cX12_tell 41 = .ok (.getfield 250, 3) := by decide +kernel
theorem dX12_tell_44 : decode cX12_tell 44 = .ok (.iconst 1, 1) := by decide +kernel
theorem dX12_tell_45 : decode cX12_tell 45 = .ok (.iadd, 1) := by decide +kernel
theorem dX12_tell_46 : decode cX12_tell 46 = .ok (.putfield 250, 3) := by decide +kernel
theorem dX12_tell_49 : decode cX12_tell 49 = .ok (.aload_n 0, 1) := by decide +kernel
theorem dX12_tell_50 : decode cX12_tell 50 = .ok (.getfield 250, 3) := by decide +kernel
theorem dX12_tell_53 : decode cX12_tell 53 = .ok (.iconst 1, 1) := by decide +kernel
theorem dX12_tell_54 : decode cX12_tell 54 = .ok (.isub, 1) := by decide +kernel
theorem dX12_tell_55 : decode cX12_tell 55 = .ok (.ireturn, 1) := by decide +kernel
theorem dX12_forget_0 : decode cX12_forget 0 = .ok (.aload_n 0, 1) := by decide +kernel
theorem dX12_forget_1 : decode cX12_forget 1 = .ok (.getfield 250, 3) := by decide +kernel
theorem dX12_forget_4 : decode cX12_forget 4 = .ok (.istore_n 1, 1) := by decide +kernel
theorem dX12_forget_5 : decode cX12_forget 5 = .ok (.aload_n 0, 1) := by decide +kernel
theorem dX12_forget_6 : decode cX12_forget 6 = .ok (.iconst 0, 1) := by decide +kernel
theorem dX12_forget_7 : decode cX12_forget 7 = .ok (.putfield 250, 3) := by decide +kernel
theorem dX12_forget_10 : decode cX12_forget 10 = .ok (.iload_n 1, 1) := by decide +kernel
theorem dX12_forget_11 : decode cX12_forget 11 = .ok (.ireturn, 1) := by decide +kernel
theorem dX12_hold_0 : decode cX12_hold 0 = .ok (.iload_n 1, 1) := by decide +kernel
theorem dX12_hold_1 : decode cX12_hold 1 = .ok (.iconst 0, 1) := by decide +kernel
theorem dX12_hold_2 : decode cX12_hold 2 = .ok (.iconst 2, 1) := by decide +kernel
theorem dX12_hold_3 : decode cX12_hold 3 = .ok (.invokestatic 292, 3) := by decide +kernel
theorem dX12_hold_6 : decode cX12_hold 6 = .ok (.ifCond .ne 5, 3) := by decide +kernel
theorem dX12_hold_9 : decode cX12_hold 9 = .ok (.iconst 0, 1) := by decide +kernel
theorem dX12_hold_10 : decode cX12_hold 10 = .ok (.ireturn, 1) := by decide +kernel
theorem dX12_hold_11 : decode cX12_hold 11 = .ok (.aload_n 0, 1) := by decide +kernel
theorem dX12_hold_12 : decode cX12_hold 12 = .ok (.getfield 134, 3) := by decide +kernel
theorem dX12_hold_15 : decode cX12_hold 15 = .ok (.iload_n 1, 1) := by decide +kernel
theorem dX12_hold_16 : decode cX12_hold 16 = .ok (.iconst 1, 1) := by decide +kernel
theorem dX12_hold_17 : decode cX12_hold 17 = .ok (.bastore, 1) := by decide +kernel
theorem dX12_hold_18 : decode cX12_hold 18 = .ok (.iconst 0, 1) := by decide +kernel
theorem dX12_hold_19 : decode cX12_hold 19 = .ok (.istore_n 2, 1) := by decide +kernel
theorem dX12_hold_20 : decode cX12_hold 20 = .ok (.iload_n 2, 1) := by decide +kernel
theorem dX12_hold_21 : decode cX12_hold 21 = .ok (.bipush 51, 2) := by decide +kernel
theorem dX12_hold_23 : decode cX12_hold 23 = .ok (.if_icmp .ge 26, 3) := by decide +kernel
theorem dX12_hold_26 : decode cX12_hold 26 = .ok (.aload_n 0, 1) := by decide +kernel
theorem dX12_hold_27 : decode cX12_hold 27 = .ok (.getfield 137, 3) := by decide +kernel
theorem dX12_hold_30 : decode cX12_hold 30 = .ok (.bipush 51, 2) := by decide +kernel
theorem dX12_hold_32 : decode cX12_hold 32 = .ok (.iload_n 1, 1) := by decide +kernel
theorem dX12_hold_33 : decode cX12_hold 33 = .ok (.imul, 1) := by decide +kernel
theorem dX12_hold_34 : decode cX12_hold 34 = .ok (.iload_n 2, 1) := by decide +kernel
theorem dX12_hold_35 : decode cX12_hold 35 = .ok (.iadd, 1) := by decide +kernel
theorem dX12_hold_36 : decode cX12_hold 36 = .ok (.aload_n 0, 1) := by decide +kernel
theorem dX12_hold_37 : decode cX12_hold 37 = .ok (.getfield 101, 3) := by decide +kernel
theorem dX12_hold_40 : decode cX12_hold 40 = .ok (.iload_n 2, 1) := by decide +kernel
theorem dX12_hold_41 : decode cX12_hold 41 = .ok (.iaload, 1) := by decide +kernel
theorem dX12_hold_42 : decode cX12_hold 42 = .ok (.iastore, 1) := by decide +kernel
theorem dX12_hold_43 : decode cX12_hold 43 = .ok (.iinc 2 1, 3) := by decide +kernel
theorem dX12_hold_46 : decode cX12_hold 46 = .ok (.goto (-26), 3) := by decide +kernel
theorem dX12_hold_49 : decode cX12_hold 49 = .ok (.iconst 1, 1) := by decide +kernel
theorem dX12_hold_50 : decode cX12_hold 50 = .ok (.ireturn, 1) := by decide +kernel
theorem dX12_restore_0 : decode cX12_restore 0 = .ok (.iload_n 1, 1) := by decide +kernel
theorem dX12_restore_1 : decode cX12_restore 1 = .ok (.iconst 0, 1) := by decide +kernel
theorem dX12_restore_2 : decode cX12_restore 2 = .ok (.iconst 2, 1) := by decide +kernel
theorem dX12_restore_3 : decode cX12_restore 3 = .ok (.invokestatic 292, 3) := by decide +kernel
theorem dX12_restore_6 : decode cX12_restore 6 = .ok (.ifCond .eq 12, 3) := by decide +kernel
theorem dX12_restore_9 : decode cX12_restore 9 = .ok (.aload_n 0, 1) := by decide +kernel
theorem dX12_restore_10 : decode cX12_restore 10 = .ok (.getfield 134, 3) := by decide +kernel
theorem dX12_restore_13 : decode cX12_restore 13 = .ok (.iload_n 1, 1) := by decide +kernel
theorem dX12_restore_14 : decode cX12_restore 14 = .ok (.baload, 1) := by decide +kernel
theorem dX12_restore_15 : decode cX12_restore 15 = .ok (.ifCond .ne 5, 3) := by decide +kernel
theorem dX12_restore_18 : decode cX12_restore 18 = .ok (.iconst 0, 1) := by decide +kernel
theorem dX12_restore_19 : decode cX12_restore 19 = .ok (.ireturn, 1) := by decide +kernel
theorem dX12_restore_20 : decode cX12_restore 20 = .ok (.iconst 0, 1) := by decide +kernel
theorem dX12_restore_21 : decode cX12_restore 21 = .ok (.istore_n 2, 1) := by decide +kernel
theorem dX12_restore_22 : decode cX12_restore 22 = .ok (.iload_n 2, 1) := by decide +kernel
theorem dX12_restore_23 : decode cX12_restore 23 = .ok (.bipush 51, 2) := by decide +kernel
theorem dX12_restore_25 : decode cX12_restore 25 = .ok (.if_icmp .ge 26, 3) := by decide +kernel
theorem dX12_restore_28 : decode cX12_restore 28 = .ok (.aload_n 0, 1) := by decide +kernel
theorem dX12_restore_29 : decode cX12_restore 29 = .ok (.getfield 101, 3) := by decide +kernel
theorem dX12_restore_32 : decode cX12_restore 32 = .ok (.iload_n 2, 1) := by decide +kernel
theorem dX12_restore_33 : decode cX12_restore 33 = .ok (.aload_n 0, 1) := by decide +kernel
theorem dX12_restore_34 : decode cX12_restore 34 = .ok (.getfield 137, 3) := by decide +kernel
theorem dX12_restore_37 : decode cX12_restore 37 = .ok (.bipush 51, 2) := by decide +kernel
theorem dX12_restore_39 : decode cX12_restore 39 = .ok (.iload_n 1, 1) := by decide +kernel
theorem dX12_restore_40 : decode cX12_restore 40 = .ok (.imul, 1) := by decide +kernel
theorem dX12_restore_41 : decode cX12_restore 41 = .ok (.iload_n 2, 1) := by decide +kernel
theorem dX12_restore_42 : decode cX12_restore 42 = .ok (.iadd, 1) := by decide +kernel
theorem dX12_restore_43 : decode cX12_restore 43 = .ok (.iaload, 1) := by decide +kernel
theorem dX12_restore_44 : decode cX12_restore 44 = .ok (.iastore, 1) := by decide +kernel
theorem dX12_restore_45 : decode cX12_restore 45 = .ok (.iinc 2 1, 3) := by decide +kernel
theorem dX12_restore_48 : decode cX12_restore 48 = .ok (.goto (-26), 3) := by decide +kernel
theorem dX12_restore_51 : decode cX12_restore 51 = .ok (.aload_n 0, 1) := by decide +kernel
theorem dX12_restore_52 : decode cX12_restore 52 = .ok (.iconst 0, 1) := by decide +kernel
theorem dX12_restore_53 : decode cX12_restore 53 = .ok (.putfield 247, 3) := by decide +kernel
theorem dX12_restore_56 : decode cX12_restore 56 = .ok (.iconst 1, 1) := by decide +kernel
theorem dX12_restore_57 : decode cX12_restore 57 = .ok (.ireturn, 1) := by decide +kernel
theorem dX12_plain_0 : decode cX12_plain 0 = .ok (.aload_n 0, 1) := by decide +kernel
theorem dX12_plain_1 : decode cX12_plain 1 = .ok (.getfield 43, 3) := by decide +kernel
theorem dX12_plain_4 : decode cX12_plain 4 = .ok (.iload_n 1, 1) := by decide +kernel
theorem dX12_plain_5 : decode cX12_plain 5 = .ok (.bipush 8, 2) := by decide +kernel
theorem dX12_plain_7 : decode cX12_plain 7 = .ok (.iastore, 1) := by decide +kernel
theorem dX12_plain_8 : decode cX12_plain 8 = .ok (.aload_n 0, 1) := by decide +kernel
theorem dX12_plain_9 : decode cX12_plain 9 = .ok (.getfield 46, 3) := by decide +kernel
theorem dX12_plain_12 : decode cX12_plain 12 = .ok (.iload_n 1, 1) := by decide +kernel
theorem dX12_plain_13 : decode cX12_plain 13 = .ok (.iconst 0, 1) := by decide +kernel
theorem dX12_plain_14 : decode cX12_plain 14 = .ok (.iastore, 1) := by decide +kernel
theorem dX12_plain_15 : decode cX12_plain 15 = .ok (.aload_n 0, 1) := by decide +kernel
theorem dX12_plain_16 : decode cX12_plain 16 = .ok (.getfield 61, 3) := by decide +kernel
theorem dX12_plain_19 : decode cX12_plain 19 = .ok (.iload_n 1, 1) := by decide +kernel
theorem dX12_plain_20 : decode cX12_plain 20 = .ok (.iconst 0, 1) := by decide +kernel
theorem dX12_plain_21 : decode cX12_plain 21 = .ok (.iastore, 1) := by decide +kernel
theorem dX12_plain_22 : decode cX12_plain 22 = .ok (.iconst 0, 1) := by decide +kernel
theorem dX12_plain_23 : decode cX12_plain 23 = .ok (.istore_n 2, 1) := by decide +kernel
theorem dX12_plain_24 : decode cX12_plain 24 = .ok (.iload_n 2, 1) := by decide +kernel
theorem dX12_plain_25 : decode cX12_plain 25 = .ok (.iconst 4, 1) := by decide +kernel
theorem dX12_plain_26 : decode cX12_plain 26 = .ok (.if_icmp .ge 31, 3) := by decide +kernel
theorem dX12_plain_29 : decode cX12_plain 29 = .ok (.aload_n 0, 1) := by decide +kernel
theorem dX12_plain_30 : decode cX12_plain 30 = .ok (.getfield 64, 3) := by decide +kernel
theorem dX12_plain_33 : decode cX12_plain 33 = .ok (.iconst 4, 1) := by decide +kernel
theorem dX12_plain_34 : decode cX12_plain 34 = .ok (.iload_n 1, 1) := by decide +kernel
theorem dX12_plain_35 : decode cX12_plain 35 = .ok (.imul, 1) := by decide +kernel
theorem dX12_plain_36 : decode cX12_plain 36 = .ok (.iload_n 2, 1) := by decide +kernel
theorem dX12_plain_37 : decode cX12_plain 37 = .ok (.iadd, 1) := by decide +kernel
theorem dX12_plain_38 : decode cX12_plain 38 = .ok (.iconst 0, 1) := by decide +kernel
theorem dX12_plain_39 : decode cX12_plain 39 = .ok (.iastore, 1) := by decide +kernel
theorem dX12_plain_40 : decode cX12_plain 40 = .ok (.aload_n 0, 1) := by decide +kernel
theorem dX12_plain_41 : decode cX12_plain 41 = .ok (.getfield 67, 3) := by decide +kernel
theorem dX12_plain_44 : decode cX12_plain 44 = .ok (.iconst 4, 1) := by decide +kernel
theorem dX12_plain_45 : decode cX12_plain 45 = .ok (.iload_n 1, 1) := by decide +kernel
theorem dX12_plain_46 : decode cX12_plain 46 = .ok (.imul, 1) := by decide +kernel
theorem dX12_plain_47 : decode cX12_plain 47 = .ok (.iload_n 2, 1) := by decide +kernel
theorem dX12_plain_48 : decode cX12_plain 48 = .ok (.iadd, 1) := by decide +kernel
theorem dX12_plain_49 : decode cX12_plain 49 = .ok (.iconst 0, 1) := by decide +kernel
theorem dX12_plain_50 : decode cX12_plain 50 = .ok (.iastore, 1) := by decide +kernel
theorem dX12_plain_51 : decode cX12_plain 51 = .ok (.iinc 2 1, 3) := by decide +kernel
theorem dX12_plain_54 : decode cX12_plain 54 = .ok (.goto (-30), 3) := by decide +kernel
theorem dX12_plain_57 : decode cX12_plain 57 = .ok (.return_, 1) := by decide +kernel
theorem dX12_word_0 : decode cX12_word 0 = .ok (.lconst 0, 1) := by decide +kernel
theorem dX12_word_1 : decode cX12_word 1 = .ok (.iload_n 0, 1) := by decide +kernel
theorem dX12_word_2 : decode cX12_word 2 = .ok (.invokestatic 165, 3) := by decide +kernel
theorem dX12_word_5 : decode cX12_word 5 = .ok (.iload_n 1, 1) := by decide +kernel
theorem dX12_word_6 : decode cX12_word 6 = .ok (.invokestatic 165, 3) := by decide +kernel
theorem dX12_word_9 : decode cX12_word 9 = .ok (.iload_n 2, 1) := by decide +kernel
theorem dX12_word_10 : decode cX12_word 10 = .ok (.invokestatic 165, 3) := by decide +kernel
theorem dX12_word_13 : decode cX12_word 13 = .ok (.iload_n 3, 1) := by decide +kernel
theorem dX12_word_14 : decode cX12_word 14 = .ok (.invokestatic 165, 3) := by decide +kernel
theorem dX12_word_17 : decode cX12_word 17 = .ok (.iload 4, 2) := by decide +kernel
theorem dX12_word_19 : decode cX12_word 19 = .ok (.invokestatic 165, 3) := by decide +kernel
theorem dX12_word_22 : decode cX12_word 22 = .ok (.iload 5, 2) := by decide +kernel
theorem dX12_word_24 : decode cX12_word 24 = .ok (.invokestatic 165, 3) := by decide +kernel
theorem dX12_word_27 : decode cX12_word 27 = .ok (.iload 6, 2) := by decide +kernel
theorem dX12_word_29 : decode cX12_word 29 = .ok (.invokestatic 165, 3) := by decide +kernel
theorem dX12_word_32 : decode cX12_word 32 = .ok (.lreturn, 1) := by decide +kernel
theorem dX12_appends_0 : decode cX12_appends 0 = .ok (.iload_n 2, 1) := by decide +kernel
theorem dX12_appends_1 : decode cX12_appends 1 = .ok (.ifCond .ne 7, 3) := by decide +kernel
theorem dX12_appends_4 : decode cX12_appends 4 = .ok (.lload_n 0, 1) := by decide +kernel
theorem dX12_appends_5 : decode cX12_appends 5 = .ok (.goto 16, 3) := by decide +kernel
theorem dX12_appends_8 : decode cX12_appends 8 = .ok (.ldc2_w 163, 3) := by decide +kernel
theorem dX12_appends_11 : decode cX12_appends 11 = .ok (.lload_n 0, 1) := by decide +kernel
theorem dX12_appends_12 : decode cX12_appends 12 = .ok (.lmul, 1) := by decide +kernel
theorem dX12_appends_13 : decode cX12_appends 13 = .ok (.iload_n 2, 1) := by decide +kernel
theorem dX12_appends_14 : decode cX12_appends 14 = .ok (.bipush 97, 2) := by decide +kernel
theorem dX12_appends_16 : decode cX12_appends 16 = .ok (.isub, 1) := by decide +kernel
theorem dX12_appends_17 : decode cX12_appends 17 = .ok (.iconst 1, 1) := by decide +kernel
theorem dX12_appends_18 : decode cX12_appends 18 = .ok (.iadd, 1) := by decide +kernel
theorem dX12_appends_19 : decode cX12_appends 19 = .ok (.i2l, 1) := by decide +kernel
theorem dX12_appends_20 : decode cX12_appends 20 = .ok (.ladd, 1) := by decide +kernel
theorem dX12_appends_21 : decode cX12_appends 21 = .ok (.lreturn, 1) := by decide +kernel
theorem dX12_token_0 : decode cX12_token 0 = .ok (.aload_n 0, 1) := by decide +kernel
theorem dX12_token_1 : decode cX12_token 1 = .ok (.getfield 20, 3) := by decide +kernel
theorem dX12_token_4 : decode cX12_token 4 = .ok (.aload_n 0, 1) := by decide +kernel
theorem dX12_token_5 : decode cX12_token 5 = .ok (.getfield 169, 3) := by decide +kernel
theorem dX12_token_8 : decode cX12_token 8 = .ok (.iload_n 1, 1) := by decide +kernel
theorem dX12_token_9 : decode cX12_token 9 = .ok (.iastore, 1) := by decide +kernel
theorem dX12_token_10 : decode cX12_token 10 = .ok (.aload_n 0, 1) := by decide +kernel
theorem dX12_token_11 : decode cX12_token 11 = .ok (.getfield 24, 3) := by decide +kernel
theorem dX12_token_14 : decode cX12_token 14 = .ok (.aload_n 0, 1) := by decide +kernel
theorem dX12_token_15 : decode cX12_token 15 = .ok (.getfield 169, 3) := by decide +kernel
theorem dX12_token_18 : decode cX12_token 18 = .ok (.iload_n 2, 1) := by decide +kernel
theorem dX12_token_19 : decode cX12_token 19 = .ok (.iastore, 1) := by decide +kernel
theorem dX12_token_20 : decode cX12_token 20 = .ok (.aload_n 0, 1) := by decide +kernel
theorem dX12_token_21 : decode cX12_token 21 = .ok (.getfield 27, 3) := by decide +kernel
theorem dX12_token_24 : decode cX12_token 24 = .ok (.aload_n 0, 1) := by decide +kernel
theorem dX12_token_25 : decode cX12_token 25 = .ok (.getfield 169, 3) := by decide +kernel
theorem dX12_token_28 : decode cX12_token 28 = .ok (.iload_n 3, 1) := by decide +kernel
theorem dX12_token_29 : decode cX12_token 29 = .ok (.iastore, 1) := by decide +kernel
theorem dX12_token_30 : decode cX12_token 30 = .ok (.aload_n 0, 1) := by decide +kernel
theorem dX12_token_31 : decode cX12_token 31 = .ok (.getfield 30, 3) := by decide +kernel
theorem dX12_token_34 : decode cX12_token 34 = .ok (.aload_n 0, 1) := by decide +kernel
theorem dX12_token_35 : decode cX12_token 35 = .ok (.getfield 169, 3) := by decide +kernel
theorem dX12_token_38 : decode cX12_token 38 = .ok (.lload 4, 2) := by decide +kernel
theorem dX12_token_40 : decode cX12_token 40 = .ok (.lastore, 1) := by decide +kernel
theorem dX12_token_41 : decode cX12_token 41 = .ok (.aload_n 0, 1) := by decide +kernel
theorem dX12_token_42 : decode cX12_token 42 = .ok (.dup, 1) := by decide +kernel
theorem dX12_token_43 : decode cX12_token 43 = .ok (.getfield 169, 3) := by decide +kernel
theorem dX12_token_46 : decode cX12_token 46 = .ok (.iconst 1, 1) := by decide +kernel
theorem dX12_token_47 : decode cX12_token 47 = .ok (.iadd, 1) := by decide +kernel
theorem dX12_token_48 : decode cX12_token 48 = .ok (.putfield 169, 3) := by decide +kernel
theorem dX12_token_51 : decode cX12_token 51 = .ok (.return_, 1) := by decide +kernel
theorem dX12_cut_0 : decode cX12_cut 0 = .ok (.aload_n 0, 1) := by decide +kernel
theorem dX12_cut_1 : decode cX12_cut 1 = .ok (.iconst 0, 1) := by decide +kernel
theorem dX12_cut_2 : decode cX12_cut 2 = .ok (.putfield 169, 3) := by decide +kernel
theorem dX12_cut_5 : decode cX12_cut 5 = .ok (.iconst 0, 1) := by decide +kernel
theorem dX12_cut_6 : decode cX12_cut 6 = .ok (.istore_n 1, 1) := by decide +kernel
theorem dX12_cut_7 : decode cX12_cut 7 = .ok (.aload_n 0, 1) := by decide +kernel
theorem dX12_cut_8 : decode cX12_cut 8 = .ok (.getfield 169, 3) := by decide +kernel
theorem dX12_cut_11 : decode cX12_cut 11 = .ok (.sipush 400, 3) := by decide +kernel
theorem dX12_cut_14 : decode cX12_cut 14 = .ok (.if_icmp .gt 280, 3) := by decide +kernel
theorem dX12_cut_17 : decode cX12_cut 17 = .ok (.aload_n 0, 1) := by decide +kernel
theorem dX12_cut_18 : decode cX12_cut 18 = .ok (.iload_n 1, 1) := by decide +kernel
theorem dX12_cut_19 : decode cX12_cut 19 = .ok (.invokevirtual 172, 3) := by decide +kernel
theorem dX12_cut_22 : decode cX12_cut 22 = .ok (.istore_n 2, 1) := by decide +kernel
theorem dX12_cut_23 : decode cX12_cut 23 = .ok (.iload_n 1, 1) := by decide +kernel
theorem dX12_cut_24 : decode cX12_cut 24 = .ok (.aload_n 0, 1) := by decide +kernel
theorem dX12_cut_25 : decode cX12_cut 25 = .ok (.getfield 160, 3) := by decide +kernel
theorem dX12_cut_28 : decode cX12_cut 28 = .ok (.if_icmp .lt 15, 3) := by decide +kernel
theorem dX12_cut_31 : decode cX12_cut 31 = .ok (.aload_n 0, 1) := by decide +kernel
theorem dX12_cut_32 : decode cX12_cut 32 = .ok (.iconst 0, 1) := by decide +kernel
theorem dX12_cut_33 : decode cX12_cut 33 = .ok (.aload_n 0, 1) := by decide +kernel
theorem dX12_cut_34 : decode cX12_cut 34 = .ok (.getfield 160, 3) := by decide +kernel
theorem dX12_cut_37 : decode cX12_cut 37 = .ok (.iconst 0, 1) := by decide +kernel
theorem dX12_cut_38 : decode cX12_cut 38 = .ok (.lconst 0, 1) := by decide +kernel
theorem dX12_cut_39 : decode cX12_cut 39 = .ok (.invokevirtual 176, 3) := by decide +kernel
theorem dX12_cut_42 : decode cX12_cut 42 = .ok (.return_, 1) := by decide +kernel
theorem dX12_cut_43 : decode cX12_cut 43 = .ok (.iload_n 2, 1) := by decide +kernel
theorem dX12_cut_44 : decode cX12_cut 44 = .ok (.bipush 9, 2) := by decide +kernel
theorem dX12_cut_46 : decode cX12_cut 46 = .ok (.if_icmp .eq 21, 3) := by decide +kernel
theorem dX12_cut_49 : decode cX12_cut 49 = .ok (.iload_n 2, 1) := by decide +kernel
theorem dX12_cut_50 : decode cX12_cut 50 = .ok (.bipush 10, 2) := by decide +kernel
theorem dX12_cut_52 : decode cX12_cut 52 = .ok (.if_icmp .eq 15, 3) := by decide +kernel
theorem dX12_cut_55 : decode cX12_cut 55 = .ok (.iload_n 2, 1) := by decide +kernel
theorem dX12_cut_56 : decode cX12_cut 56 = .ok (.bipush 13, 2) := by decide +kernel
theorem dX12_cut_58 : decode cX12_cut 58 = .ok (.if_icmp .eq 9, 3) := by decide +kernel
theorem dX12_cut_61 : decode cX12_cut 61 = .ok (.iload_n 2, 1) := by decide +kernel
theorem dX12_cut_62 : decode cX12_cut 62 = .ok (.bipush 32, 2) := by decide +kernel
theorem dX12_cut_64 : decode cX12_cut 64 = .ok (.if_icmp .ne 9, 3) := by decide +kernel
theorem dX12_cut_67 : decode cX12_cut 67 = .ok (.iinc 1 1, 3) := by decide +kernel
theorem dX12_cut_70 : decode cX12_cut 70 = .ok (.goto 221, 3) := by decide +kernel
theorem dX12_cut_73 : decode cX12_cut 73 = .ok (.iload_n 2, 1) := by decide +kernel
theorem dX12_cut_74 : decode cX12_cut 74 = .ok (.invokestatic 180, 3) := by decide +kernel
theorem dX12_cut_77 : decode cX12_cut 77 = .ok (.ifCond .eq 119, 3) := by decide +kernel
theorem dX12_cut_80 : decode cX12_cut 80 = .ok (.iconst 0, 1) := by decide +kernel
theorem dX12_cut_81 : decode cX12_cut 81 = .ok (.istore_n 3, 1) := by decide +kernel
theorem dX12_cut_82 : decode cX12_cut 82 = .ok (.lconst 0, 1) := by decide +kernel
theorem dX12_cut_83 : decode cX12_cut 83 = .ok (.lstore 4, 2) := by decide +kernel
theorem dX12_cut_85 : decode cX12_cut 85 = .ok (.aload_n 0, 1) := by decide +kernel
theorem dX12_cut_86 : decode cX12_cut 86 = .ok (.iload_n 1, 1) := by decide +kernel
theorem dX12_cut_87 : decode cX12_cut 87 = .ok (.iload_n 3, 1) := by decide +kernel
theorem dX12_cut_88 : decode cX12_cut 88 = .ok (.iadd, 1) := by decide +kernel
theorem dX12_cut_89 : decode cX12_cut 89 = .ok (.invokevirtual 172, 3) := by decide +kernel
theorem dX12_cut_92 : decode cX12_cut 92 = .ok (.invokestatic 180, 3) := by decide +kernel
theorem dX12_cut_95 : decode cX12_cut 95 = .ok (.ifCond .eq 29, 3) := by decide +kernel
theorem dX12_cut_98 : decode cX12_cut 98 = .ok (.iload_n 3, 1) := by decide +kernel
theorem dX12_cut_99 : decode cX12_cut 99 = .ok (.bipush 8, 2) := by decide +kernel
theorem dX12_cut_101 : decode cX12_cut 101 = .ok (.if_icmp .ge 17, 3) := by decide +kernel
theorem dX12_cut_104 : decode cX12_cut 104 = .ok (.lload 4, 2) := by decide +kernel
theorem dX12_cut_106 : decode cX12_cut 106 = .ok (.aload_n 0, 1) := by decide +kernel
theorem dX12_cut_107 : decode cX12_cut 107 = .ok (.iload_n 1, 1) := by decide +kernel
theorem dX12_cut_108 : decode cX12_cut 108 = .ok (.iload_n 3, 1) := by decide +kernel
theorem dX12_cut_109 : decode cX12_cut 109 = .ok (.iadd, 1) := by decide +kernel
theorem dX12_cut_110 : decode cX12_cut 110 = .ok (.invokevirtual 172, 3) := by decide +kernel
theorem dX12_cut_113 : decode cX12_cut 113 = .ok (.invokestatic 165, 3) := by decide +kernel
theorem dX12_cut_116 : decode cX12_cut 116 = .ok (.lstore 4, 2) := by decide +kernel
theorem dX12_cut_118 : decode cX12_cut 118 = .ok (.iinc 3 1, 3) := by decide +kernel
theorem dX12_cut_121 : decode cX12_cut 121 = .ok (.goto (-36), 3) := by decide +kernel
theorem dX12_cut_124 : decode cX12_cut 124 = .ok (.iload_n 3, 1) := by decide +kernel
theorem dX12_cut_125 : decode cX12_cut 125 = .ok (.bipush 8, 2) := by decide +kernel
theorem dX12_cut_127 : decode cX12_cut 127 = .ok (.if_icmp .le 7, 3) := by decide +kernel
theorem dX12_cut_130 : decode cX12_cut 130 = .ok (.iconst 3, 1) := by decide +kernel
theorem dX12_cut_131 : decode cX12_cut 131 = .ok (.goto 4, 3) := by decide +kernel
theorem dX12_cut_134 : decode cX12_cut 134 = .ok (.iconst 1, 1) := by decide +kernel
theorem dX12_cut_135 : decode cX12_cut 135 = .ok (.istore 6, 2) := by decide +kernel
theorem dX12_cut_137 : decode cX12_cut 137 = .ok (.iload_n 3, 1) := by decide +kernel
theorem dX12_cut_138 : decode cX12_cut 138 = .ok (.bipush 8, 2) := by decide +kernel
theorem dX12_cut_140 : decode cX12_cut 140 = .ok (.if_icmp .gt 39, 3) := by decide +kernel
theorem dX12_cut_143 : decode cX12_cut 143 = .ok (.iconst 0, 1) := by decide +kernel
theorem dX12_cut_144 : decode cX12_cut 144 = .ok (.istore 7, 2) := by decide +kernel
theorem dX12_cut_146 : decode cX12_cut 146 = .ok (.iload 7, 2) := by decide +kernel
theorem dX12_cut_148 : decode cX12_cut 148 = .ok (.bipush 19, 2) := by decide +kernel
theorem dX12_cut_150 : decode cX12_cut 150 = .ok (.if_icmp .ge 29, 3) := by decide +kernel
theorem dX12_cut_153 : decode cX12_cut 153 = .ok (.aload_n 0, 1) := by decide +kernel
theorem dX12_cut_154 : decode cX12_cut 154 = .ok (.getfield 34, 3) := by decide +kernel
theorem dX12_cut_157 : decode cX12_cut 157 = .ok (.iload 7, 2) := by decide +kernel
theorem dX12_cut_159 : decode cX12_cut 159 = .ok (.laload, 1) := by decide +kernel
theorem dX12_cut_160 : decode cX12_cut 160 = .ok (.lload 4, 2) := by decide +kernel
theorem dX12_cut_162 : decode cX12_cut 162 = .ok (.lcmp, 1) := by decide +kernel
theorem dX12_cut_163 : decode cX12_cut 163 = .ok (.ifCond .ne 10, 3) := by decide +kernel
theorem dX12_cut_166 : decode cX12_cut 166 = .ok (.bipush 20, 2) := by decide +kernel
theorem dX12_cut_168 : decode cX12_cut 168 = .ok (.iload 7, 2) := by decide +kernel
theorem dX12_cut_170 : decode cX12_cut 170 = .ok (.iadd, 1) := by decide +kernel
theorem dX12_cut_171 : decode cX12_cut 171 = .ok (.istore 6, 2) := by decide +kernel
theorem dX12_cut_173 : decode cX12_cut 173 = .ok (.iinc 7 1, 3) := by decide +kernel
theorem dX12_cut_176 : decode cX12_cut 176 = .ok (.goto (-30), 3) := by decide +kernel
theorem dX12_cut_179 : decode cX12_cut 179 = .ok (.aload_n 0, 1) := by decide +kernel
theorem dX12_cut_180 : decode cX12_cut 180 = .ok (.iload 6, 2) := by decide +kernel
theorem dX12_cut_182 : decode cX12_cut 182 = .ok (.iload_n 1, 1) := by decide +kernel
theorem dX12_cut_183 : decode cX12_cut 183 = .ok (.iconst 0, 1) := by decide +kernel
theorem dX12_cut_184 : decode cX12_cut 184 = .ok (.lload 4, 2) := by decide +kernel
theorem dX12_cut_186 : decode cX12_cut 186 = .ok (.invokevirtual 176, 3) := by decide +kernel
theorem dX12_cut_189 : decode cX12_cut 189 = .ok (.iload_n 1, 1) := by decide +kernel
theorem dX12_cut_190 : decode cX12_cut 190 = .ok (.iload_n 3, 1) := by decide +kernel
theorem dX12_cut_191 : decode cX12_cut 191 = .ok (.iadd, 1) := by decide +kernel
theorem dX12_cut_192 : decode cX12_cut 192 = .ok (.istore_n 1, 1) := by decide +kernel
theorem dX12_cut_193 : decode cX12_cut 193 = .ok (.goto 98, 3) := by decide +kernel
theorem dX12_cut_196 : decode cX12_cut 196 = .ok (.iload_n 2, 1) := by decide +kernel
theorem dX12_cut_197 : decode cX12_cut 197 = .ok (.invokestatic 184, 3) := by decide +kernel
theorem dX12_cut_200 : decode cX12_cut 200 = .ok (.ifCond .eq 75, 3) := by decide +kernel
theorem dX12_cut_203 : decode cX12_cut 203 = .ok (.iconst 0, 1) := by decide +kernel
theorem dX12_cut_204 : decode cX12_cut 204 = .ok (.istore_n 3, 1) := by decide +kernel
theorem dX12_cut_205 : decode cX12_cut 205 = .ok (.iconst 0, 1) := by decide +kernel
theorem dX12_cut_206 : decode cX12_cut 206 = .ok (.istore 4, 2) := by decide +kernel
theorem dX12_cut_208 : decode cX12_cut 208 = .ok (.aload_n 0, 1) := by decide +kernel
theorem dX12_cut_209 : decode cX12_cut 209 = .ok (.iload_n 1, 1) := by decide +kernel
theorem dX12_cut_210 : decode cX12_cut 210 = .ok (.iload_n 3, 1) := by decide +kernel
theorem dX12_cut_211 : decode cX12_cut 211 = .ok (.iadd, 1) := by decide +kernel
theorem dX12_cut_212 : decode cX12_cut 212 = .ok (.invokevirtual 172, 3) := by decide +kernel
theorem dX12_cut_215 : decode cX12_cut 215 = .ok (.invokestatic 184, 3) := by decide +kernel
theorem dX12_cut_218 : decode cX12_cut 218 = .ok (.ifCond .eq 32, 3) := by decide +kernel
theorem dX12_cut_221 : decode cX12_cut 221 = .ok (.iload_n 3, 1) := by decide +kernel
theorem dX12_cut_222 : decode cX12_cut 222 = .ok (.iconst 4, 1) := by decide +kernel
theorem dX12_cut_223 : decode cX12_cut 223 = .ok (.if_icmp .ge 21, 3) := by decide +kernel
theorem dX12_cut_226 : decode cX12_cut 226 = .ok (.bipush 10, 2) := by decide +kernel
theorem dX12_cut_228 : decode cX12_cut 228 = .ok (.iload 4, 2) := by decide +kernel
theorem dX12_cut_230 : decode cX12_cut 230 = .ok (.imul, 1) := by decide +kernel
theorem dX12_cut_231 : decode cX12_cut 231 = .ok (.aload_n 0, 1) := by decide +kernel
theorem dX12_cut_232 : decode cX12_cut 232 = .ok (.iload_n 1, 1) := by decide +kernel
theorem dX12_cut_233 : decode cX12_cut 233 = .ok (.iload_n 3, 1) := by decide +kernel
theorem dX12_cut_234 : decode cX12_cut 234 = .ok (.iadd, 1) := by decide +kernel
theorem dX12_cut_235 : decode cX12_cut 235 = .ok (.invokevirtual 172, 3) := by decide +kernel
theorem dX12_cut_238 : decode cX12_cut 238 = .ok (.iadd, 1) := by decide +kernel
theorem dX12_cut_239 : decode cX12_cut 239 = .ok (.bipush 48, 2) := by decide +kernel
theorem dX12_cut_241 : decode cX12_cut 241 = .ok (.isub, 1) := by decide +kernel
theorem dX12_cut_242 : decode cX12_cut 242 = .ok (.istore 4, 2) := by decide +kernel
theorem dX12_cut_244 : decode cX12_cut 244 = .ok (.iinc 3 1, 3) := by decide +kernel
theorem dX12_cut_247 : decode cX12_cut 247 = .ok (.goto (-39), 3) := by decide +kernel
theorem dX12_cut_250 : decode cX12_cut 250 = .ok (.aload_n 0, 1) := by decide +kernel
theorem dX12_cut_251 : decode cX12_cut 251 = .ok (.iload_n 3, 1) := by decide +kernel
theorem dX12_cut_252 : decode cX12_cut 252 = .ok (.iconst 4, 1) := by decide +kernel
theorem dX12_cut_253 : decode cX12_cut 253 = .ok (.if_icmp .le 7, 3) := by decide +kernel
theorem dX12_cut_256 : decode cX12_cut 256 = .ok (.iconst 3, 1) := by decide +kernel
theorem dX12_cut_257 : decode cX12_cut 257 = .ok (.goto 4, 3) := by decide +kernel
theorem dX12_cut_260 : decode cX12_cut 260 = .ok (.iconst 2, 1) := by decide +kernel
theorem dX12_cut_261 : decode cX12_cut 261 = .ok (.iload_n 1, 1) := by decide +kernel
theorem dX12_cut_262 : decode cX12_cut 262 = .ok (.iload 4, 2) := by decide +kernel
theorem dX12_cut_264 : decode cX12_cut 264 = .ok (.lconst 0, 1) := by decide +kernel
theorem dX12_cut_265 : decode cX12_cut 265 = .ok (.invokevirtual 176, 3) := by decide +kernel
theorem dX12_cut_268 : decode cX12_cut 268 = .ok (.iload_n 1, 1) := by decide +kernel
theorem dX12_cut_269 : decode cX12_cut 269 = .ok (.iload_n 3, 1) := by decide +kernel
theorem dX12_cut_270 : decode cX12_cut 270 = .ok (.iadd, 1) := by decide +kernel
theorem dX12_cut_271 : decode cX12_cut 271 = .ok (.istore_n 1, 1) := by decide +kernel
theorem dX12_cut_272 : decode cX12_cut 272 = .ok (.goto 19, 3) := by decide +kernel
theorem dX12_cut_275 : decode cX12_cut 275 = .ok (.iload_n 1, 1) := by decide +kernel
theorem dX12_cut_276 : decode cX12_cut 276 = .ok (.aload_n 0, 1) := by decide +kernel
theorem dX12_cut_277 : decode cX12_cut 277 = .ok (.iload_n 1, 1) := by decide +kernel
theorem dX12_cut_278 : decode cX12_cut 278 = .ok (.iload_n 2, 1) := by decide +kernel
theorem dX12_cut_279 : decode cX12_cut 279 = .ok (.aload_n 0, 1) := by decide +kernel
theorem dX12_cut_280 : decode cX12_cut 280 = .ok (.iload_n 1, 1) := by decide +kernel
theorem dX12_cut_281 : decode cX12_cut 281 = .ok (.iconst 1, 1) := by decide +kernel
theorem dX12_cut_282 : decode cX12_cut 282 = .ok (.iadd, 1) := by decide +kernel
theorem dX12_cut_283 : decode cX12_cut 283 = .ok (.invokevirtual 172, 3) := by decide +kernel
theorem dX12_cut_286 : decode cX12_cut 286 = .ok (.invokevirtual 187, 3) := by decide +kernel
theorem dX12_cut_289 : decode cX12_cut 289 = .ok (.iadd, 1) := by decide +kernel
theorem dX12_cut_290 : decode cX12_cut 290 = .ok (.istore_n 1, 1) := by decide +kernel
theorem dX12_cut_291 : decode cX12_cut 291 = .ok (.goto (-284), 3) := by decide +kernel
theorem dX12_cut_294 : decode cX12_cut 294 = .ok (.return_, 1) := by decide +kernel
theorem dX12_is_0 : decode cX12_is 0 = .ok (.aload_n 0, 1) := by decide +kernel
theorem dX12_is_1 : decode cX12_is 1 = .ok (.getfield 191, 3) := by decide +kernel
theorem dX12_is_4 : decode cX12_is 4 = .ok (.ifCond .ne 20, 3) := by decide +kernel
theorem dX12_is_7 : decode cX12_is 7 = .ok (.aload_n 0, 1) := by decide +kernel
theorem dX12_is_8 : decode cX12_is 8 = .ok (.getfield 20, 3) := by decide +kernel
theorem dX12_is_11 : decode cX12_is 11 = .ok (.aload_n 0, 1) := by decide +kernel
theorem dX12_is_12 : decode cX12_is 12 = .ok (.getfield 194, 3) := by decide +kernel
theorem dX12_is_15 : decode cX12_is 15 = .ok (.iaload, 1) := by decide +kernel
theorem dX12_is_16 : decode cX12_is 16 = .ok (.iload_n 1, 1) := by decide +kernel
theorem dX12_is_17 : decode cX12_is 17 = .ok (.if_icmp .ne 7, 3) := by decide +kernel
theorem dX12_is_20 : decode cX12_is 20 = .ok (.iconst 1, 1) := by decide +kernel
theorem dX12_is_21 : decode cX12_is 21 = .ok (.goto 4, 3) := by decide +kernel
theorem dX12_is_24 : decode cX12_is 24 = .ok (.iconst 0, 1) := by decide +kernel
theorem dX12_is_25 : decode cX12_is 25 = .ok (.ireturn, 1) := by decide +kernel
theorem dX12_areOn_0 : decode cX12_areOn 0 = .ok (.iconst 0, 1) := by decide +kernel
theorem dX12_areOn_1 : decode cX12_areOn 1 = .ok (.istore_n 1, 1) := by decide +kernel
theorem dX12_areOn_2 : decode cX12_areOn 2 = .ok (.iload_n 1, 1) := by decide +kernel
theorem dX12_areOn_3 : decode cX12_areOn 3 = .ok (.aload_n 0, 1) := by decide +kernel
theorem dX12_areOn_4 : decode cX12_areOn 4 = .ok (.getfield 46, 3) := by decide +kernel
theorem dX12_areOn_7 : decode cX12_areOn 7 = .ok (.aload_n 0, 1) := by decide +kernel
theorem dX12_areOn_8 : decode cX12_areOn 8 = .ok (.getfield 224, 3) := by decide +kernel
theorem dX12_areOn_11 : decode cX12_areOn 11 = .ok (.iaload, 1) := by decide +kernel
theorem dX12_areOn_12 : decode cX12_areOn 12 = .ok (.if_icmp .ge 36, 3) := by decide +kernel
theorem dX12_areOn_15 : decode cX12_areOn 15 = .ok (.aload_n 0, 1) := by decide +kernel
theorem dX12_areOn_16 : decode cX12_areOn 16 = .ok (.getfield 49, 3) := by decide +kernel
theorem dX12_areOn_19 : decode cX12_areOn 19 = .ok (.iconst 5, 1) := by decide +kernel
theorem dX12_areOn_20 : decode cX12_areOn 20 = .ok (.aload_n 0, 1) := by decide +kernel
theorem dX12_areOn_21 : decode cX12_areOn 21 = .ok (.getfield 224, 3) := by decide +kernel
theorem dX12_areOn_24 : decode cX12_areOn 24 = .ok (.imul, 1) := by decide +kernel
theorem dX12_areOn_25 : decode cX12_areOn 25 = .ok (.iload_n 1, 1) := by decide +kernel
theorem dX12_areOn_26 : decode cX12_areOn 26 = .ok (.iadd, 1) := by decide +kernel
theorem dX12_areOn_27 : decode cX12_areOn 27 = .ok (.iaload, 1) := by decide +kernel
theorem dX12_areOn_28 : decode cX12_areOn 28 = .ok (.aload_n 0, 1) := by decide +kernel
theorem dX12_areOn_29 : decode cX12_areOn 29 = .ok (.getfield 43, 3) := by decide +kernel
theorem dX12_areOn_32 : decode cX12_areOn 32 = .ok (.aload_n 0, 1) := by decide +kernel
theorem dX12_areOn_33 : decode cX12_areOn 33 = .ok (.getfield 224, 3) := by decide +kernel
theorem dX12_areOn_36 : decode cX12_areOn 36 = .ok (.iaload, 1) := by decide +kernel
theorem dX12_areOn_37 : decode cX12_areOn 37 = .ok (.if_icmp .lt 5, 3) := by decide +kernel
theorem dX12_areOn_40 : decode cX12_areOn 40 = .ok (.iconst 0, 1) := by decide +kernel
theorem dX12_areOn_41 : decode cX12_areOn 41 = .ok (.ireturn, 1) := by decide +kernel
theorem dX12_areOn_42 : decode cX12_areOn 42 = .ok (.iinc 1 1, 3) := by decide +kernel
theorem dX12_areOn_45 : decode cX12_areOn 45 = .ok (.goto (-43), 3) := by decide +kernel
theorem dX12_areOn_48 : decode cX12_areOn 48 = .ok (.iconst 1, 1) := by decide +kernel
theorem dX12_areOn_49 : decode cX12_areOn 49 = .ok (.ireturn, 1) := by decide +kernel
theorem dX12_read_0 : decode cX12_read 0 = .ok (.aload_n 0, 1) := by decide +kernel
theorem dX12_read_1 : decode cX12_read 1 = .ok (.aload_n 0, 1) := by decide +kernel
theorem dX12_read_2 : decode cX12_read 2 = .ok (.getfield 154, 3) := by decide +kernel
theorem dX12_read_5 : decode cX12_read 5 = .ok (.putfield 160, 3) := by decide +kernel
theorem dX12_read_8 : decode cX12_read 8 = .ok (.iconst 0, 1) := by decide +kernel
theorem dX12_read_9 : decode cX12_read 9 = .ok (.istore_n 1, 1) := by decide +kernel
theorem dX12_read_10 : decode cX12_read 10 = .ok (.iload_n 1, 1) := by decide +kernel
theorem dX12_read_11 : decode cX12_read 11 = .ok (.aload_n 0, 1) := by decide +kernel
theorem dX12_read_12 : decode cX12_read 12 = .ok (.getfield 160, 3) := by decide +kernel
theorem dX12_read_15 : decode cX12_read 15 = .ok (.if_icmp .ge 21, 3) := by decide +kernel
theorem dX12_read_18 : decode cX12_read 18 = .ok (.aload_n 0, 1) := by decide +kernel
theorem dX12_read_19 : decode cX12_read 19 = .ok (.getfield 17, 3) := by decide +kernel
theorem dX12_read_22 : decode cX12_read 22 = .ok (.iload_n 1, 1) := by decide +kernel
theorem dX12_read_23 : decode cX12_read 23 = .ok (.aload_n 0, 1) := by decide +kernel
theorem dX12_read_24 : decode cX12_read 24 = .ok (.getfield 13, 3) := by decide +kernel
theorem dX12_read_27 : decode cX12_read 27 = .ok (.iload_n 1, 1) := by decide +kernel
theorem dX12_read_28 : decode cX12_read 28 = .ok (.baload, 1) := by decide +kernel
theorem dX12_read_29 : decode cX12_read 29 = .ok (.bastore, 1) := by decide +kernel
theorem dX12_read_30 : decode cX12_read 30 = .ok (.iinc 1 1, 3) := by decide +kernel
theorem dX12_read_33 : decode cX12_read 33 = .ok (.goto (-23), 3) := by decide +kernel
theorem dX12_read_36 : decode cX12_read 36 = .ok (.aload_n 0, 1) := by decide +kernel
theorem dX12_read_37 : decode cX12_read 37 = .ok (.iconst 0, 1) := by decide +kernel
theorem dX12_read_38 : decode cX12_read 38 = .ok (.putfield 154, 3) := by decide +kernel
theorem dX12_read_41 : decode cX12_read 41 = .ok (.aload_n 0, 1) := by decide +kernel
theorem dX12_read_42 : decode cX12_read 42 = .ok (.invokevirtual 215, 3) := by decide +kernel
theorem dX12_read_45 : decode cX12_read 45 = .ok (.aload_n 0, 1) := by decide +kernel
theorem dX12_read_46 : decode cX12_read 46 = .ok (.iconst 0, 1) := by decide +kernel
theorem dX12_read_47 : decode cX12_read 47 = .ok (.putfield 194, 3) := by decide +kernel
theorem dX12_read_50 : decode cX12_read 50 = .ok (.aload_n 0, 1) := by decide +kernel
theorem dX12_read_51 : decode cX12_read 51 = .ok (.iconst 0, 1) := by decide +kernel
theorem dX12_read_52 : decode cX12_read 52 = .ok (.putfield 218, 3) := by decide +kernel
theorem dX12_read_55 : decode cX12_read 55 = .ok (.aload_n 0, 1) := by decide +kernel
theorem dX12_read_56 : decode cX12_read 56 = .ok (.iconst 0, 1) := by decide +kernel
theorem dX12_read_57 : decode cX12_read 57 = .ok (.putfield 191, 3) := by decide +kernel
theorem dX12_read_60 : decode cX12_read 60 = .ok (.aload_n 0, 1) := by decide +kernel
theorem dX12_read_61 : decode cX12_read 61 = .ok (.iconst 0, 1) := by decide +kernel
theorem dX12_read_62 : decode cX12_read 62 = .ok (.putfield 200, 3) := by decide +kernel
theorem dX12_read_65 : decode cX12_read 65 = .ok (.aload_n 0, 1) := by decide +kernel
theorem dX12_read_66 : decode cX12_read 66 = .ok (.iconst 1, 1) := by decide +kernel
theorem dX12_read_67 : decode cX12_read 67 = .ok (.aload_n 0, 1) := by decide +kernel
theorem dX12_read_68 : decode cX12_read 68 = .ok (.getfield 221, 3) := by decide +kernel
theorem dX12_read_71 : decode cX12_read 71 = .ok (.isub, 1) := by decide +kernel
theorem dX12_read_72 : decode cX12_read 72 = .ok (.putfield 224, 3) := by decide +kernel
theorem dX12_read_75 : decode cX12_read 75 = .ok (.aload_n 0, 1) := by decide +kernel
theorem dX12_read_76 : decode cX12_read 76 = .ok (.iconst 0, 1) := by decide +kernel
theorem dX12_read_77 : decode cX12_read 77 = .ok (.putfield 227, 3) := by decide +kernel
theorem dX12_read_80 : decode cX12_read 80 = .ok (.aload_n 0, 1) := by decide +kernel
theorem dX12_read_81 : decode cX12_read 81 = .ok (.aload_n 0, 1) := by decide +kernel
theorem dX12_read_82 : decode cX12_read 82 = .ok (.getfield 224, 3) := by decide +kernel
theorem dX12_read_85 : decode cX12_read 85 = .ok (.invokevirtual 140, 3) := by decide +kernel
theorem dX12_read_88 : decode cX12_read 88 = .ok (.aload_n 0, 1) := by decide +kernel
theorem dX12_read_89 : decode cX12_read 89 = .ok (.sipush 130, 3) := by decide +kernel
theorem dX12_read_92 : decode cX12_read 92 = .ok (.aload_n 0, 1) := by decide +kernel
theorem dX12_read_93 : decode cX12_read 93 = .ok (.getfield 224, 3) := by decide +kernel
theorem dX12_read_96 : decode cX12_read 96 = .ok (.imul, 1) := by decide +kernel
theorem dX12_read_97 : decode cX12_read 97 = .ok (.putfield 230, 3) := by decide +kernel
theorem dX12_read_100 : decode cX12_read 100 = .ok (.aload_n 0, 1) := by decide +kernel
theorem dX12_read_101 : decode cX12_read 101 = .ok (.sipush 420, 3) := by decide +kernel
theorem dX12_read_104 : decode cX12_read 104 = .ok (.aload_n 0, 1) := by decide +kernel
theorem dX12_read_105 : decode cX12_read 105 = .ok (.getfield 224, 3) := by decide +kernel
theorem dX12_read_108 : decode cX12_read 108 = .ok (.imul, 1) := by decide +kernel
theorem dX12_read_109 : decode cX12_read 109 = .ok (.putfield 233, 3) := by decide +kernel
theorem dX12_read_112 : decode cX12_read 112 = .ok (.aload_n 0, 1) := by decide +kernel
theorem dX12_read_113 : decode cX12_read 113 = .ok (.getfield 191, 3) := by decide +kernel
theorem dX12_read_116 : decode cX12_read 116 = .ok (.ifCond .ne 18, 3) := by decide +kernel
theorem dX12_read_119 : decode cX12_read 119 = .ok (.aload_n 0, 1) := by decide +kernel
theorem dX12_read_120 : decode cX12_read 120 = .ok (.iconst 0, 1) := by decide +kernel
theorem dX12_read_121 : decode cX12_read 121 = .ok (.invokevirtual 209, 3) := by decide +kernel
theorem dX12_read_124 : decode cX12_read 124 = .ok (.ifCond .ne 10, 3) := by decide +kernel
theorem dX12_read_127 : decode cX12_read 127 = .ok (.aload_n 0, 1) := by decide +kernel
theorem dX12_read_128 : decode cX12_read 128 = .ok (.invokevirtual 236, 3) := by decide +kernel
theorem dX12_read_131 : decode cX12_read 131 = .ok (.goto (-19), 3) := by decide +kernel
theorem dX12_read_134 : decode cX12_read 134 = .ok (.aload_n 0, 1) := by decide +kernel
theorem dX12_read_135 : decode cX12_read 135 = .ok (.getfield 191, 3) := by decide +kernel
theorem dX12_read_138 : decode cX12_read 138 = .ok (.ifCond .ne 20, 3) := by decide +kernel
theorem dX12_read_141 : decode cX12_read 141 = .ok (.aload_n 0, 1) := by decide +kernel
theorem dX12_read_142 : decode cX12_read 142 = .ok (.invokevirtual 239, 3) := by decide +kernel
theorem dX12_read_145 : decode cX12_read 145 = .ok (.ifCond .ne 13, 3) := by decide +kernel
theorem dX12_read_148 : decode cX12_read 148 = .ok (.aload_n 0, 1) := by decide +kernel
theorem dX12_read_149 : decode cX12_read 149 = .ok (.bipush 6, 2) := by decide +kernel
theorem dX12_read_151 : decode cX12_read 151 = .ok (.aload_n 0, 1) := by decide +kernel
theorem dX12_read_152 : decode cX12_read 152 = .ok (.getfield 194, 3) := by decide +kernel
theorem dX12_read_155 : decode cX12_read 155 = .ok (.invokevirtual 243, 3) := by decide +kernel
theorem dX12_read_158 : decode cX12_read 158 = .ok (.aload_n 0, 1) := by decide +kernel
theorem dX12_read_159 : decode cX12_read 159 = .ok (.aload_n 0, 1) := by decide +kernel
theorem dX12_read_160 : decode cX12_read 160 = .ok (.getfield 191, 3) := by decide +kernel
theorem dX12_read_163 : decode cX12_read 163 = .ok (.ifCond .le 10, 3) := by decide +kernel
theorem dX12_read_166 : decode cX12_read 166 = .ok (.aload_n 0, 1) := by decide +kernel
theorem dX12_read_167 : decode cX12_read 167 = .ok (.getfield 197, 3) := by decide +kernel
theorem dX12_read_170 : decode cX12_read 170 = .ok (.goto 18, 3) := by decide +kernel
theorem dX12_read_173 : decode cX12_read 173 = .ok (.aload_n 0, 1) := by decide +kernel
theorem dX12_read_174 : decode cX12_read 174 = .ok (.getfield 200, 3) := by decide +kernel
theorem dX12_read_177 : decode cX12_read 177 = .ok (.ifCond .le 10, 3) := by decide +kernel
theorem dX12_read_180 : decode cX12_read 180 = .ok (.aload_n 0, 1) := by decide +kernel
theorem dX12_read_181 : decode cX12_read 181 = .ok (.getfield 203, 3) := by decide +kernel
theorem dX12_read_184 : decode cX12_read 184 = .ok (.goto 4, 3) := by decide +kernel
theorem dX12_read_187 : decode cX12_read 187 = .ok (.iconst (-1), 1) := by decide +kernel
theorem dX12_read_188 : decode cX12_read 188 = .ok (.putfield 37, 3) := by decide +kernel
theorem dX12_read_191 : decode cX12_read 191 = .ok (.aload_n 0, 1) := by decide +kernel
theorem dX12_read_192 : decode cX12_read 192 = .ok (.getfield 191, 3) := by decide +kernel
theorem dX12_read_195 : decode cX12_read 195 = .ok (.ifCond .le 8, 3) := by decide +kernel
theorem dX12_read_198 : decode cX12_read 198 = .ok (.aload_n 0, 1) := by decide +kernel
theorem dX12_read_199 : decode cX12_read 199 = .ok (.getfield 191, 3) := by decide +kernel
theorem dX12_read_202 : decode cX12_read 202 = .ok (.ireturn, 1) := by decide +kernel
theorem dX12_read_203 : decode cX12_read 203 = .ok (.aload_n 0, 1) := by decide +kernel
theorem dX12_read_204 : decode cX12_read 204 = .ok (.getfield 200, 3) := by decide +kernel
theorem dX12_read_207 : decode cX12_read 207 = .ok (.ifCond .le 8, 3) := by decide +kernel
theorem dX12_read_210 : decode cX12_read 210 = .ok (.aload_n 0, 1) := by decide +kernel
theorem dX12_read_211 : decode cX12_read 211 = .ok (.getfield 200, 3) := by decide +kernel
theorem dX12_read_214 : decode cX12_read 214 = .ok (.ireturn, 1) := by decide +kernel
theorem dX12_read_215 : decode cX12_read 215 = .ok (.aload_n 0, 1) := by decide +kernel
theorem dX12_read_216 : decode cX12_read 216 = .ok (.aload_n 0, 1) := by decide +kernel
theorem dX12_read_217 : decode cX12_read 217 = .ok (.getfield 224, 3) := by decide +kernel
theorem dX12_read_220 : decode cX12_read 220 = .ok (.putfield 221, 3) := by decide +kernel
theorem dX12_read_223 : decode cX12_read 223 = .ok (.aload_n 0, 1) := by decide +kernel
theorem dX12_read_224 : decode cX12_read 224 = .ok (.invokevirtual 148, 3) := by decide +kernel
theorem dX12_read_227 : decode cX12_read 227 = .ok (.aload_n 0, 1) := by decide +kernel
theorem dX12_read_228 : decode cX12_read 228 = .ok (.invokevirtual 151, 3) := by decide +kernel
theorem dX12_read_231 : decode cX12_read 231 = .ok (.aload_n 0, 1) := by decide +kernel
theorem dX12_read_232 : decode cX12_read 232 = .ok (.iconst 0, 1) := by decide +kernel
theorem dX12_read_233 : decode cX12_read 233 = .ok (.putfield 247, 3) := by decide +kernel
theorem dX12_read_236 : decode cX12_read 236 = .ok (.aload_n 0, 1) := by decide +kernel
theorem dX12_read_237 : decode cX12_read 237 = .ok (.iconst 0, 1) := by decide +kernel
theorem dX12_read_238 : decode cX12_read 238 = .ok (.putfield 250, 3) := by decide +kernel
theorem dX12_read_241 : decode cX12_read 241 = .ok (.iconst 0, 1) := by decide +kernel
theorem dX12_read_242 : decode cX12_read 242 = .ok (.istore_n 1, 1) := by decide +kernel
theorem dX12_read_243 : decode cX12_read 243 = .ok (.iload_n 1, 1) := by decide +kernel
theorem dX12_read_244 : decode cX12_read 244 = .ok (.iconst 3, 1) := by decide +kernel
theorem dX12_read_245 : decode cX12_read 245 = .ok (.if_icmp .ge 16, 3) := by decide +kernel
theorem dX12_read_248 : decode cX12_read 248 = .ok (.aload_n 0, 1) := by decide +kernel
theorem dX12_read_249 : decode cX12_read 249 = .ok (.getfield 134, 3) := by decide +kernel
theorem dX12_read_252 : decode cX12_read 252 = .ok (.iload_n 1, 1) := by decide +kernel
theorem dX12_read_253 : decode cX12_read 253 = .ok (.iconst 0, 1) := by decide +kernel
theorem dX12_read_254 : decode cX12_read 254 = .ok (.bastore, 1) := by decide +kernel
theorem dX12_read_255 : decode cX12_read 255 = .ok (.iinc 1 1, 3) := by decide +kernel
theorem dX12_read_258 : decode cX12_read 258 = .ok (.goto (-15), 3) := by decide +kernel
theorem dX12_read_261 : decode cX12_read 261 = .ok (.iconst 0, 1) := by decide +kernel
theorem dX12_read_262 : decode cX12_read 262 = .ok (.ireturn, 1) := by decide +kernel
theorem dX12_place_0 : decode cX12_place 0 = .ok (.aload_n 0, 1) := by decide +kernel
theorem dX12_place_1 : decode cX12_place 1 = .ok (.getfield 37, 3) := by decide +kernel
theorem dX12_place_4 : decode cX12_place 4 = .ok (.ireturn, 1) := by decide +kernel

