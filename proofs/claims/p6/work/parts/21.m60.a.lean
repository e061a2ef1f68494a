theorem dX0_init_0 : decode cX0_init 0 = .ok (.aload_n 0, 1) := by decide +kernel
theorem dX0_init_1 : decode cX0_init 1 = .ok (.invokespecial 3, 3) := by decide +kernel
theorem dX0_init_4 : decode cX0_init 4 = .ok (.aload_n 0, 1) := by decide +kernel
theorem dX0_init_5 : decode cX0_init 5 = .ok (.aload_n 1, 1) := by decide +kernel
theorem dX0_init_6 : decode cX0_init 6 = .ok (.putfield 9, 3) := by decide +kernel
theorem dX0_init_9 : decode cX0_init 9 = .ok (.aload_n 0, 1) := by decide +kernel
theorem dX0_init_10 : decode cX0_init 10 = .ok (.aload_n 1, 1) := by decide +kernel
theorem dX0_init_11 : decode cX0_init 11 = .ok (.getfield 15, 3) := by decide +kernel
theorem dX0_init_14 : decode cX0_init 14 = .ok (.putfield 21, 3) := by decide +kernel
theorem dX0_init_17 : decode cX0_init 17 = .ok (.return_, 1) := by decide +kernel
theorem dX0_roomOf_0 : decode cX0_roomOf 0 = .ok (.aload_n 0, 1) := by decide +kernel
theorem dX0_roomOf_1 : decode cX0_roomOf 1 = .ok (.getfield 21, 3) := by decide +kernel
theorem dX0_roomOf_4 : decode cX0_roomOf 4 = .ok (.aload_n 0, 1) := by decide +kernel
theorem dX0_roomOf_5 : decode cX0_roomOf 5 = .ok (.getfield 9, 3) := by decide +kernel
theorem dX0_roomOf_8 : decode cX0_roomOf 8 = .ok (.getfield 22, 3) := by decide +kernel
theorem dX0_roomOf_11 : decode cX0_roomOf 11 = .ok (.aload_n 1, 1) := by decide +kernel
theorem dX0_roomOf_12 : decode cX0_roomOf 12 = .ok (.invokevirtual 26, 3) := by decide +kernel
theorem dX0_roomOf_15 : decode cX0_roomOf 15 = .ok (.invokevirtual 32, 3) := by decide +kernel
theorem dX0_roomOf_18 : decode cX0_roomOf 18 = .ok (.aload_n 0, 1) := by decide +kernel
theorem dX0_roomOf_19 : decode cX0_roomOf 19 = .ok (.getfield 21, 3) := by decide +kernel
theorem dX0_roomOf_22 : decode cX0_roomOf 22 = .ok (.iconst 0, 1) := by decide +kernel
theorem dX0_roomOf_23 : decode cX0_roomOf 23 = .ok (.iload_n 2, 1) := by decide +kernel
theorem dX0_roomOf_24 : decode cX0_roomOf 24 = .ok (.invokevirtual 38, 3) := by decide +kernel
theorem dX0_roomOf_27 : decode cX0_roomOf 27 = .ok (.iconst 0, 1) := by decide +kernel
theorem dX0_roomOf_28 : decode cX0_roomOf 28 = .ok (.bipush 99, 2) := by decide +kernel
theorem dX0_roomOf_30 : decode cX0_roomOf 30 = .ok (.aload_n 0, 1) := by decide +kernel
theorem dX0_roomOf_31 : decode cX0_roomOf 31 = .ok (.getfield 21, 3) := by decide +kernel
theorem dX0_roomOf_34 : decode cX0_roomOf 34 = .ok (.iconst 0, 1) := by decide +kernel
theorem dX0_roomOf_35 : decode cX0_roomOf 35 = .ok (.invokevirtual 41, 3) := by decide +kernel
theorem dX0_roomOf_38 : decode cX0_roomOf 38 = .ok (.invokestatic 45, 3) := by decide +kernel
theorem dX0_roomOf_41 : decode cX0_roomOf 41 = .ok (.invokestatic 51, 3) := by decide +kernel
theorem dX0_roomOf_44 : decode cX0_roomOf 44 = .ok (.ireturn, 1) := by decide +kernel
theorem dX0_breaksOf_0 : decode cX0_breaksOf 0 = .ok (.aload_n 0, 1) := by decide +kernel
theorem dX0_breaksOf_1 : decode cX0_breaksOf 1 = .ok (.aload_n 1, 1) := by decide +kernel
theorem dX0_breaksOf_2 : decode cX0_breaksOf 2 = .ok (.iload_n 2, 1) := by decide +kernel
theorem dX0_breaksOf_3 : decode cX0_breaksOf 3 = .ok (.invokevirtual 54, 3) := by decide +kernel
theorem dX0_breaksOf_6 : decode cX0_breaksOf 6 = .ok (.istore_n 3, 1) := by decide +kernel
theorem dX0_breaksOf_7 : decode cX0_breaksOf 7 = .ok (.aload_n 0, 1) := by decide +kernel
theorem dX0_breaksOf_8 : decode cX0_breaksOf 8 = .ok (.getfield 21, 3) := by decide +kernel
theorem dX0_breaksOf_11 : decode cX0_breaksOf 11 = .ok (.aload_n 0, 1) := by decide +kernel
theorem dX0_breaksOf_12 : decode cX0_breaksOf 12 = .ok (.getfield 9, 3) := by decide +kernel
theorem dX0_breaksOf_15 : decode cX0_breaksOf 15 = .ok (.getfield 22, 3) := by decide +kernel
theorem dX0_breaksOf_18 : decode cX0_breaksOf 18 = .ok (.aload_n 1, 1) := by decide +kernel
theorem dX0_breaksOf_19 : decode cX0_breaksOf 19 = .ok (.invokevirtual 26, 3) := by decide +kernel
theorem dX0_breaksOf_22 : decode cX0_breaksOf 22 = .ok (.invokevirtual 32, 3) := by decide +kernel
theorem dX0_breaksOf_25 : decode cX0_breaksOf 25 = .ok (.aload_n 0, 1) := by decide +kernel
theorem dX0_breaksOf_26 : decode cX0_breaksOf 26 = .ok (.getfield 21, 3) := by decide +kernel
theorem dX0_breaksOf_29 : decode cX0_breaksOf 29 = .ok (.iconst 0, 1) := by decide +kernel
theorem dX0_breaksOf_30 : decode cX0_breaksOf 30 = .ok (.iload_n 2, 1) := by decide +kernel
theorem dX0_breaksOf_31 : decode cX0_breaksOf 31 = .ok (.invokevirtual 38, 3) := by decide +kernel
theorem dX0_breaksOf_34 : decode cX0_breaksOf 34 = .ok (.aload_n 0, 1) := by decide +kernel
theorem dX0_breaksOf_35 : decode cX0_breaksOf 35 = .ok (.getfield 21, 3) := by decide +kernel
theorem dX0_breaksOf_38 : decode cX0_breaksOf 38 = .ok (.bipush 7, 2) := by decide +kernel
theorem dX0_breaksOf_40 : decode cX0_breaksOf 40 = .ok (.iload_n 3, 1) := by decide +kernel
theorem dX0_breaksOf_41 : decode cX0_breaksOf 41 = .ok (.invokevirtual 38, 3) := by decide +kernel
theorem dX0_breaksOf_44 : decode cX0_breaksOf 44 = .ok (.iconst 0, 1) := by decide +kernel
theorem dX0_breaksOf_45 : decode cX0_breaksOf 45 = .ok (.bipush 100, 2) := by decide +kernel
theorem dX0_breaksOf_47 : decode cX0_breaksOf 47 = .ok (.aload_n 0, 1) := by decide +kernel
theorem dX0_breaksOf_48 : decode cX0_breaksOf 48 = .ok (.getfield 21, 3) := by decide +kernel
theorem dX0_breaksOf_51 : decode cX0_breaksOf 51 = .ok (.iconst 3, 1) := by decide +kernel
theorem dX0_breaksOf_52 : decode cX0_breaksOf 52 = .ok (.invokevirtual 41, 3) := by decide +kernel
theorem dX0_breaksOf_55 : decode cX0_breaksOf 55 = .ok (.invokestatic 45, 3) := by decide +kernel
theorem dX0_breaksOf_58 : decode cX0_breaksOf 58 = .ok (.invokestatic 51, 3) := by decide +kernel
theorem dX0_breaksOf_61 : decode cX0_breaksOf 61 = .ok (.ireturn, 1) := by decide +kernel
theorem dX0_quarrelOf_0 : decode cX0_quarrelOf 0 = .ok (.aload_n 0, 1) := by decide +kernel
theorem dX0_quarrelOf_1 : decode cX0_quarrelOf 1 = .ok (.aload_n 1, 1) := by decide +kernel
theorem dX0_quarrelOf_2 : decode cX0_quarrelOf 2 = .ok (.iload_n 3, 1) := by decide +kernel
theorem dX0_quarrelOf_3 : decode cX0_quarrelOf 3 = .ok (.invokevirtual 54, 3) := by decide +kernel
theorem dX0_quarrelOf_6 : decode cX0_quarrelOf 6 = .ok (.istore 4, 2) := by decide +kernel
theorem dX0_quarrelOf_8 : decode cX0_quarrelOf 8 = .ok (.aload_n 0, 1) := by decide +kernel
theorem dX0_quarrelOf_9 : decode cX0_quarrelOf 9 = .ok (.aload_n 1, 1) := by decide +kernel
theorem dX0_quarrelOf_10 : decode cX0_quarrelOf 10 = .ok (.iload_n 2, 1) := by decide +kernel
theorem dX0_quarrelOf_11 : decode cX0_quarrelOf 11 = .ok (.invokevirtual 58, 3) := by decide +kernel
theorem dX0_quarrelOf_14 : decode cX0_quarrelOf 14 = .ok (.aload_n 0, 1) := by decide +kernel
theorem dX0_quarrelOf_15 : decode cX0_quarrelOf 15 = .ok (.getfield 21, 3) := by decide +kernel
theorem dX0_quarrelOf_18 : decode cX0_quarrelOf 18 = .ok (.bipush 6, 2) := by decide +kernel
theorem dX0_quarrelOf_20 : decode cX0_quarrelOf 20 = .ok (.aload_n 1, 1) := by decide +kernel
theorem dX0_quarrelOf_21 : decode cX0_quarrelOf 21 = .ok (.bipush 13, 2) := by decide +kernel
theorem dX0_quarrelOf_23 : decode cX0_quarrelOf 23 = .ok (.iload_n 2, 1) := by decide +kernel
theorem dX0_quarrelOf_24 : decode cX0_quarrelOf 24 = .ok (.invokevirtual 62, 3) := by decide +kernel
theorem dX0_quarrelOf_27 : decode cX0_quarrelOf 27 = .ok (.invokevirtual 38, 3) := by decide +kernel
theorem dX0_quarrelOf_30 : decode cX0_quarrelOf 30 = .ok (.aload_n 0, 1) := by decide +kernel
theorem dX0_quarrelOf_31 : decode cX0_quarrelOf 31 = .ok (.getfield 21, 3) := by decide +kernel
theorem dX0_quarrelOf_34 : decode cX0_quarrelOf 34 = .ok (.bipush 7, 2) := by decide +kernel
theorem dX0_quarrelOf_36 : decode cX0_quarrelOf 36 = .ok (.iload 4, 2) := by decide +kernel
theorem dX0_quarrelOf_38 : decode cX0_quarrelOf 38 = .ok (.invokevirtual 38, 3) := by decide +kernel
theorem dX0_quarrelOf_41 : decode cX0_quarrelOf 41 = .ok (.iconst 0, 1) := by decide +kernel
theorem dX0_quarrelOf_42 : decode cX0_quarrelOf 42 = .ok (.bipush 99, 2) := by decide +kernel
theorem dX0_quarrelOf_44 : decode cX0_quarrelOf 44 = .ok (.aload_n 0, 1) := by decide +kernel
theorem dX0_quarrelOf_45 : decode cX0_quarrelOf 45 = .ok (.getfield 21, 3) := by decide +kernel
theorem dX0_quarrelOf_48 : decode cX0_quarrelOf 48 = .ok (.iconst 1, 1) := by decide +kernel
theorem dX0_quarrelOf_49 : decode cX0_quarrelOf 49 = .ok (.invokevirtual 41, 3) := by decide +kernel
theorem dX0_quarrelOf_52 : decode cX0_quarrelOf 52 = .ok (.invokestatic 45, 3) := by decide +kernel
theorem dX0_quarrelOf_55 : decode cX0_quarrelOf 55 = .ok (.invokestatic 51, 3) := by decide +kernel
theorem dX0_quarrelOf_58 : decode cX0_quarrelOf 58 = .ok (.ireturn, 1) := by decide +kernel
theorem dX0_cupOf_0 : decode cX0_cupOf 0 = .ok (.aload_n 0, 1) := by decide +kernel
theorem dX0_cupOf_1 : decode cX0_cupOf 1 = .ok (.aload_n 1, 1) := by decide +kernel
theorem dX0_cupOf_2 : decode cX0_cupOf 2 = .ok (.iload_n 2, 1) := by decide +kernel
theorem dX0_cupOf_3 : decode cX0_cupOf 3 = .ok (.invokevirtual 58, 3) := by decide +kernel
theorem dX0_cupOf_6 : decode cX0_cupOf 6 = .ok (.aload_n 0, 1) := by decide +kernel
theorem dX0_cupOf_7 : decode cX0_cupOf 7 = .ok (.getfield 21, 3) := by decide +kernel
theorem dX0_cupOf_10 : decode cX0_cupOf 10 = .ok (.bipush 8, 2) := by decide +kernel
theorem dX0_cupOf_12 : decode cX0_cupOf 12 = .ok (.iload_n 3, 1) := by decide +kernel
theorem dX0_cupOf_13 : decode cX0_cupOf 13 = .ok (.invokevirtual 38, 3) := by decide +kernel
theorem dX0_cupOf_16 : decode cX0_cupOf 16 = .ok (.iconst 0, 1) := by decide +kernel
theorem dX0_cupOf_17 : decode cX0_cupOf 17 = .ok (.iload_n 3, 1) := by decide +kernel
theorem dX0_cupOf_18 : decode cX0_cupOf 18 = .ok (.aload_n 0, 1) := by decide +kernel
theorem dX0_cupOf_19 : decode cX0_cupOf 19 = .ok (.getfield 21, 3) := by decide +kernel
theorem dX0_cupOf_22 : decode cX0_cupOf 22 = .ok (.iconst 2, 1) := by decide +kernel
theorem dX0_cupOf_23 : decode cX0_cupOf 23 = .ok (.invokevirtual 41, 3) := by decide +kernel
theorem dX0_cupOf_26 : decode cX0_cupOf 26 = .ok (.invokestatic 45, 3) := by decide +kernel
theorem dX0_cupOf_29 : decode cX0_cupOf 29 = .ok (.invokestatic 51, 3) := by decide +kernel
theorem dX0_cupOf_32 : decode cX0_cupOf 32 = .ok (.ireturn, 1) := by decide +kernel
theorem dX0_setPerson_0 : decode cX0_setPerson 0 = .ok (.aload_n 0, 1) := by decide +kernel
theorem dX0_setPerson_1 : decode cX0_setPerson 1 = .ok (.getfield 21, 3) := by decide +kernel
theorem dX0_setPerson_4 : decode cX0_setPerson 4 = .ok (.aload_n 0, 1) := by decide +kernel
theorem dX0_setPerson_5 : decode cX0_setPerson 5 = .ok (.getfield 9, 3) := by decide +kernel
theorem dX0_setPerson_8 : decode cX0_setPerson 8 = .ok (.getfield 22, 3) := by decide +kernel
theorem dX0_setPerson_11 : decode cX0_setPerson 11 = .ok (.aload_n 1, 1) := by decide +kernel
theorem dX0_setPerson_12 : decode cX0_setPerson 12 = .ok (.invokevirtual 26, 3) := by decide +kernel
theorem dX0_setPerson_15 : decode cX0_setPerson 15 = .ok (.invokevirtual 32, 3) := by decide +kernel
theorem dX0_setPerson_18 : decode cX0_setPerson 18 = .ok (.aload_n 0, 1) := by decide +kernel
theorem dX0_setPerson_19 : decode cX0_setPerson 19 = .ok (.getfield 21, 3) := by decide +kernel
theorem dX0_setPerson_22 : decode cX0_setPerson 22 = .ok (.iconst 0, 1) := by decide +kernel
theorem dX0_setPerson_23 : decode cX0_setPerson 23 = .ok (.aload_n 1, 1) := by decide +kernel
theorem dX0_setPerson_24 : decode cX0_setPerson 24 = .ok (.iconst 3, 1) := by decide +kernel
theorem dX0_setPerson_25 : decode cX0_setPerson 25 = .ok (.iload_n 2, 1) := by decide +kernel
theorem dX0_setPerson_26 : decode cX0_setPerson 26 = .ok (.invokevirtual 62, 3) := by decide +kernel
theorem dX0_setPerson_29 : decode cX0_setPerson 29 = .ok (.invokevirtual 38, 3) := by decide +kernel
theorem dX0_setPerson_32 : decode cX0_setPerson 32 = .ok (.aload_n 0, 1) := by decide +kernel
theorem dX0_setPerson_33 : decode cX0_setPerson 33 = .ok (.getfield 21, 3) := by decide +kernel
theorem dX0_setPerson_36 : decode cX0_setPerson 36 = .ok (.iconst 3, 1) := by decide +kernel
theorem dX0_setPerson_37 : decode cX0_setPerson 37 = .ok (.aload_n 0, 1) := by decide +kernel
theorem dX0_setPerson_38 : decode cX0_setPerson 38 = .ok (.getfield 9, 3) := by decide +kernel
theorem dX0_setPerson_41 : decode cX0_setPerson 41 = .ok (.iload_n 2, 1) := by decide +kernel
theorem dX0_setPerson_42 : decode cX0_setPerson 42 = .ok (.invokevirtual 65, 3) := by decide +kernel
theorem dX0_setPerson_45 : decode cX0_setPerson 45 = .ok (.invokevirtual 38, 3) := by decide +kernel
theorem dX0_setPerson_48 : decode cX0_setPerson 48 = .ok (.aload_n 0, 1) := by decide +kernel
theorem dX0_setPerson_49 : decode cX0_setPerson 49 = .ok (.getfield 21, 3) := by decide +kernel
theorem dX0_setPerson_52 : decode cX0_setPerson 52 = .ok (.iconst 4, 1) := by decide +kernel
theorem dX0_setPerson_53 : decode cX0_setPerson 53 = .ok (.aload_n 0, 1) := by decide +kernel
theorem dX0_setPerson_54 : decode cX0_setPerson 54 = .ok (.getfield 9, 3) := by decide +kernel
theorem dX0_setPerson_57 : decode cX0_setPerson 57 = .ok (.iload_n 2, 1) := by decide +kernel
theorem dX0_setPerson_58 : decode cX0_setPerson 58 = .ok (.invokevirtual 68, 3) := by decide +kernel
theorem dX0_setPerson_61 : decode cX0_setPerson 61 = .ok (.invokevirtual 38, 3) := by decide +kernel
theorem dX0_setPerson_64 : decode cX0_setPerson 64 = .ok (.aload_n 0, 1) := by decide +kernel
theorem dX0_setPerson_65 : decode cX0_setPerson 65 = .ok (.getfield 21, 3) := by decide +kernel
theorem dX0_setPerson_68 : decode cX0_setPerson 68 = .ok (.iconst 5, 1) := by decide +kernel
theorem dX0_setPerson_69 : decode cX0_setPerson 69 = .ok (.aload_n 0, 1) := by decide +kernel
theorem dX0_setPerson_70 : decode cX0_setPerson 70 = .ok (.getfield 9, 3) := by decide +kernel
theorem dX0_setPerson_73 : decode cX0_setPerson 73 = .ok (.iload_n 2, 1) := by decide +kernel
theorem dX0_setPerson_74 : decode cX0_setPerson 74 = .ok (.invokevirtual 71, 3) := by decide +kernel
theorem dX0_setPerson_77 : decode cX0_setPerson 77 = .ok (.invokevirtual 38, 3) := by decide +kernel
theorem dX0_setPerson_80 : decode cX0_setPerson 80 = .ok (.return_, 1) := by decide +kernel
theorem dX0_widthsOn_0 : decode cX0_widthsOn 0 = .ok (.iconst 0, 1) := by decide +kernel
theorem dX0_widthsOn_1 : decode cX0_widthsOn 1 = .ok (.istore_n 3, 1) := by decide +kernel
theorem dX0_widthsOn_2 : decode cX0_widthsOn 2 = .ok (.iconst 0, 1) := by decide +kernel
theorem dX0_widthsOn_3 : decode cX0_widthsOn 3 = .ok (.istore 4, 2) := by decide +kernel
theorem dX0_widthsOn_5 : decode cX0_widthsOn 5 = .ok (.iload 4, 2) := by decide +kernel
theorem dX0_widthsOn_7 : decode cX0_widthsOn 7 = .ok (.aload_n 0, 1) := by decide +kernel
theorem dX0_widthsOn_8 : decode cX0_widthsOn 8 = .ok (.getfield 9, 3) := by decide +kernel
theorem dX0_widthsOn_11 : decode cX0_widthsOn 11 = .ok (.getfield 74, 3) := by decide +kernel
theorem dX0_widthsOn_14 : decode cX0_widthsOn 14 = .ok (.if_icmp .ge 32, 3) := by decide +kernel
theorem dX0_widthsOn_17 : decode cX0_widthsOn 17 = .ok (.aload_n 1, 1) := by decide +kernel
theorem dX0_widthsOn_18 : decode cX0_widthsOn 18 = .ok (.iconst 3, 1) := by decide +kernel
theorem dX0_widthsOn_19 : decode cX0_widthsOn 19 = .ok (.iload 4, 2) := by decide +kernel
theorem dX0_widthsOn_21 : decode cX0_widthsOn 21 = .ok (.invokevirtual 62, 3) := by decide +kernel
theorem dX0_widthsOn_24 : decode cX0_widthsOn 24 = .ok (.iload_n 2, 1) := by decide +kernel
theorem dX0_widthsOn_25 : decode cX0_widthsOn 25 = .ok (.if_icmp .ne 15, 3) := by decide +kernel
theorem dX0_widthsOn_28 : decode cX0_widthsOn 28 = .ok (.iload_n 3, 1) := by decide +kernel
theorem dX0_widthsOn_29 : decode cX0_widthsOn 29 = .ok (.aload_n 0, 1) := by decide +kernel
theorem dX0_widthsOn_30 : decode cX0_widthsOn 30 = .ok (.getfield 9, 3) := by decide +kernel
theorem dX0_widthsOn_33 : decode cX0_widthsOn 33 = .ok (.iload 4, 2) := by decide +kernel
theorem dX0_widthsOn_35 : decode cX0_widthsOn 35 = .ok (.invokevirtual 65, 3) := by decide +kernel
theorem dX0_widthsOn_38 : decode cX0_widthsOn 38 = .ok (.iadd, 1) := by decide +kernel
theorem dX0_widthsOn_39 : decode cX0_widthsOn 39 = .ok (.istore_n 3, 1) := by decide +kernel
theorem dX0_widthsOn_40 : decode cX0_widthsOn 40 = .ok (.iinc 4 1, 3) := by decide +kernel
theorem dX0_widthsOn_43 : decode cX0_widthsOn 43 = .ok (.goto (-38), 3) := by decide +kernel
theorem dX0_widthsOn_46 : decode cX0_widthsOn 46 = .ok (.iload_n 3, 1) := by decide +kernel
theorem dX0_widthsOn_47 : decode cX0_widthsOn 47 = .ok (.ireturn, 1) := by decide +kernel
theorem dX0_fits_0 : decode cX0_fits 0 = .ok (.aload_n 0, 1) := by decide +kernel
theorem dX0_fits_1 : decode cX0_fits 1 = .ok (.getfield 9, 3) := by decide +kernel
theorem dX0_fits_4 : decode cX0_fits 4 = .ok (.iload_n 2, 1) := by decide +kernel
theorem dX0_fits_5 : decode cX0_fits 5 = .ok (.invokevirtual 77, 3) := by decide +kernel
theorem dX0_fits_8 : decode cX0_fits 8 = .ok (.ifCond .eq 32, 3) := by decide +kernel
theorem dX0_fits_11 : decode cX0_fits 11 = .ok (.aload_n 1, 1) := by decide +kernel
theorem dX0_fits_12 : decode cX0_fits 12 = .ok (.iload_n 2, 1) := by decide +kernel
theorem dX0_fits_13 : decode cX0_fits 13 = .ok (.invokevirtual 81, 3) := by decide +kernel
theorem dX0_fits_16 : decode cX0_fits 16 = .ok (.ifCond .eq 24, 3) := by decide +kernel
theorem dX0_fits_19 : decode cX0_fits 19 = .ok (.aload_n 0, 1) := by decide +kernel
theorem dX0_fits_20 : decode cX0_fits 20 = .ok (.aload_n 1, 1) := by decide +kernel
theorem dX0_fits_21 : decode cX0_fits 21 = .ok (.iload_n 2, 1) := by decide +kernel
theorem dX0_fits_22 : decode cX0_fits 22 = .ok (.invokevirtual 54, 3) := by decide +kernel
theorem dX0_fits_25 : decode cX0_fits 25 = .ok (.iload_n 3, 1) := by decide +kernel
theorem dX0_fits_26 : decode cX0_fits 26 = .ok (.iadd, 1) := by decide +kernel
theorem dX0_fits_27 : decode cX0_fits 27 = .ok (.aload_n 0, 1) := by decide +kernel
theorem dX0_fits_28 : decode cX0_fits 28 = .ok (.aload_n 1, 1) := by decide +kernel
theorem dX0_fits_29 : decode cX0_fits 29 = .ok (.iload_n 2, 1) := by decide +kernel
theorem dX0_fits_30 : decode cX0_fits 30 = .ok (.invokevirtual 84, 3) := by decide +kernel
theorem dX0_fits_33 : decode cX0_fits 33 = .ok (.if_icmp .gt 7, 3) := by decide +kernel
theorem dX0_fits_36 : decode cX0_fits 36 = .ok (.iconst 1, 1) := by decide +kernel
theorem dX0_fits_37 : decode cX0_fits 37 = .ok (.goto 4, 3) := by decide +kernel
theorem dX0_fits_40 : decode cX0_fits 40 = .ok (.iconst 0, 1) := by decide +kernel
theorem dX0_fits_41 : decode cX0_fits 41 = .ok (.ireturn, 1) := by decide +kernel
theorem dX0_oneMinute_0 : decode cX0_oneMinute 0 = .ok (.iconst 0, 1) := by decide +kernel
theorem dX0_oneMinute_1 : decode cX0_oneMinute 1 = .ok (.istore 4, 2) := by decide +kernel
theorem dX0_oneMinute_3 : decode cX0_oneMinute 3 = .ok (.iload 4, 2) := by decide +kernel
theorem dX0_oneMinute_5 : decode cX0_oneMinute 5 = .ok (.aload_n 0, 1) := by decide +kernel
theorem dX0_oneMinute_6 : decode cX0_oneMinute 6 = .ok (.getfield 9, 3) := by decide +kernel
theorem dX0_oneMinute_9 : decode cX0_oneMinute 9 = .ok (.getfield 74, 3) := by decide +kernel
theorem dX0_oneMinute_12 : decode cX0_oneMinute 12 = .ok (.if_icmp .ge 29, 3) := by decide +kernel
theorem dX0_oneMinute_15 : decode cX0_oneMinute 15 = .ok (.aload_n 1, 1) := by decide +kernel
theorem dX0_oneMinute_16 : decode cX0_oneMinute 16 = .ok (.bipush 8, 2) := by decide +kernel
theorem dX0_oneMinute_18 : decode cX0_oneMinute 18 = .ok (.iload 4, 2) := by decide +kernel
theorem dX0_oneMinute_20 : decode cX0_oneMinute 20 = .ok (.invokevirtual 62, 3) := by decide +kernel
theorem dX0_oneMinute_23 : decode cX0_oneMinute 23 = .ok (.bipush (-2), 2) := by decide +kernel
theorem dX0_oneMinute_25 : decode cX0_oneMinute 25 = .ok (.if_icmp .eq 10, 3) := by decide +kernel
theorem dX0_oneMinute_28 : decode cX0_oneMinute 28 = .ok (.aload_n 0, 1) := by decide +kernel
theorem dX0_oneMinute_29 : decode cX0_oneMinute 29 = .ok (.aload_n 1, 1) := by decide +kernel
theorem dX0_oneMinute_30 : decode cX0_oneMinute 30 = .ok (.iload 4, 2) := by decide +kernel
theorem dX0_oneMinute_32 : decode cX0_oneMinute 32 = .ok (.invokevirtual 87, 3) := by decide +kernel
theorem dX0_oneMinute_35 : decode cX0_oneMinute 35 = .ok (.iinc 4 1, 3) := by decide +kernel
theorem dX0_oneMinute_38 : decode cX0_oneMinute 38 = .ok (.goto (-35), 3) := by decide +kernel
theorem dX0_oneMinute_41 : decode cX0_oneMinute 41 = .ok (.iload_n 3, 1) := by decide +kernel
theorem dX0_oneMinute_42 : decode cX0_oneMinute 42 = .ok (.ifCond .eq 9, 3) := by decide +kernel
theorem dX0_oneMinute_45 : decode cX0_oneMinute 45 = .ok (.aload_n 0, 1) := by decide +kernel
theorem dX0_oneMinute_46 : decode cX0_oneMinute 46 = .ok (.aload_n 1, 1) := by decide +kernel
theorem dX0_oneMinute_47 : decode cX0_oneMinute 47 = .ok (.iload_n 2, 1) := by decide +kernel
theorem dX0_oneMinute_48 : decode cX0_oneMinute 48 = .ok (.invokevirtual 90, 3) := by decide +kernel
theorem dX0_oneMinute_51 : decode cX0_oneMinute 51 = .ok (.aload_n 1, 1) := by decide +kernel
theorem dX0_oneMinute_52 : decode cX0_oneMinute 52 = .ok (.invokevirtual 93, 3) := by decide +kernel
theorem dX0_oneMinute_55 : decode cX0_oneMinute 55 = .ok (.return_, 1) := by decide +kernel
theorem dX0_goOn_0 : decode cX0_goOn 0 = .ok (.aload_n 1, 1) := by decide +kernel
theorem dX0_goOn_1 : decode cX0_goOn 1 = .ok (.bipush 8, 2) := by decide +kernel
theorem dX0_goOn_3 : decode cX0_goOn 3 = .ok (.iload_n 2, 1) := by decide +kernel
theorem dX0_goOn_4 : decode cX0_goOn 4 = .ok (.invokevirtual 62, 3) := by decide +kernel
theorem dX0_goOn_7 : decode cX0_goOn 7 = .ok (.istore_n 3, 1) := by decide +kernel
theorem dX0_goOn_8 : decode cX0_goOn 8 = .ok (.aload_n 0, 1) := by decide +kernel
theorem dX0_goOn_9 : decode cX0_goOn 9 = .ok (.aload_n 1, 1) := by decide +kernel
theorem dX0_goOn_10 : decode cX0_goOn 10 = .ok (.iload_n 2, 1) := by decide +kernel
theorem dX0_goOn_11 : decode cX0_goOn 11 = .ok (.invokevirtual 96, 3) := by decide +kernel
theorem dX0_goOn_14 : decode cX0_goOn 14 = .ok (.istore 4, 2) := by decide +kernel
theorem dX0_goOn_16 : decode cX0_goOn 16 = .ok (.aload_n 0, 1) := by decide +kernel
theorem dX0_goOn_17 : decode cX0_goOn 17 = .ok (.aload_n 1, 1) := by decide +kernel
theorem dX0_goOn_18 : decode cX0_goOn 18 = .ok (.iload 4, 2) := by decide +kernel
theorem dX0_goOn_20 : decode cX0_goOn 20 = .ok (.aload_n 0, 1) := by decide +kernel
theorem dX0_goOn_21 : decode cX0_goOn 21 = .ok (.getfield 9, 3) := by decide +kernel
theorem dX0_goOn_24 : decode cX0_goOn 24 = .ok (.iload_n 2, 1) := by decide +kernel
theorem dX0_goOn_25 : decode cX0_goOn 25 = .ok (.invokevirtual 65, 3) := by decide +kernel
theorem dX0_goOn_28 : decode cX0_goOn 28 = .ok (.invokevirtual 99, 3) := by decide +kernel
theorem dX0_goOn_31 : decode cX0_goOn 31 = .ok (.ifCond .eq 22, 3) := by decide +kernel
theorem dX0_goOn_34 : decode cX0_goOn 34 = .ok (.aload_n 1, 1) := by decide +kernel
theorem dX0_goOn_35 : decode cX0_goOn 35 = .ok (.iconst 3, 1) := by decide +kernel
theorem dX0_goOn_36 : decode cX0_goOn 36 = .ok (.iload_n 2, 1) := by decide +kernel
theorem dX0_goOn_37 : decode cX0_goOn 37 = .ok (.iload 4, 2) := by decide +kernel
theorem dX0_goOn_39 : decode cX0_goOn 39 = .ok (.invokevirtual 103, 3) := by decide +kernel
theorem dX0_goOn_42 : decode cX0_goOn 42 = .ok (.aload_n 1, 1) := by decide +kernel
theorem dX0_goOn_43 : decode cX0_goOn 43 = .ok (.bipush 13, 2) := by decide +kernel
theorem dX0_goOn_45 : decode cX0_goOn 45 = .ok (.iload_n 2, 1) := by decide +kernel
theorem dX0_goOn_46 : decode cX0_goOn 46 = .ok (.iconst 0, 1) := by decide +kernel
theorem dX0_goOn_47 : decode cX0_goOn 47 = .ok (.invokevirtual 103, 3) := by decide +kernel
theorem dX0_goOn_50 : decode cX0_goOn 50 = .ok (.goto 31, 3) := by decide +kernel
theorem dX0_goOn_53 : decode cX0_goOn 53 = .ok (.aload_n 1, 1) := by decide +kernel
theorem dX0_goOn_54 : decode cX0_goOn 54 = .ok (.aload_n 0, 1) := by decide +kernel
theorem dX0_goOn_55 : decode cX0_goOn 55 = .ok (.aload_n 1, 1) := by decide +kernel
theorem dX0_goOn_56 : decode cX0_goOn 56 = .ok (.iload_n 2, 1) := by decide +kernel
theorem dX0_goOn_57 : decode cX0_goOn 57 = .ok (.iload 4, 2) := by decide +kernel
theorem dX0_goOn_59 : decode cX0_goOn 59 = .ok (.invokevirtual 107, 3) := by decide +kernel
theorem dX0_goOn_62 : decode cX0_goOn 62 = .ok (.invokevirtual 111, 3) := by decide +kernel
theorem dX0_goOn_65 : decode cX0_goOn 65 = .ok (.aload_n 1, 1) := by decide +kernel
theorem dX0_goOn_66 : decode cX0_goOn 66 = .ok (.bipush 13, 2) := by decide +kernel
theorem dX0_goOn_68 : decode cX0_goOn 68 = .ok (.iload_n 2, 1) := by decide +kernel
theorem dX0_goOn_69 : decode cX0_goOn 69 = .ok (.aload_n 1, 1) := by decide +kernel
theorem dX0_goOn_70 : decode cX0_goOn 70 = .ok (.bipush 13, 2) := by decide +kernel
theorem dX0_goOn_72 : decode cX0_goOn 72 = .ok (.iload_n 2, 1) := by decide +kernel
theorem dX0_goOn_73 : decode cX0_goOn 73 = .ok (.invokevirtual 62, 3) := by decide +kernel
theorem dX0_goOn_76 : decode cX0_goOn 76 = .ok (.iconst 1, 1) := by decide +kernel
theorem dX0_goOn_77 : decode cX0_goOn 77 = .ok (.iadd, 1) := by decide +kernel
theorem dX0_goOn_78 : decode cX0_goOn 78 = .ok (.invokevirtual 103, 3) := by decide +kernel
theorem dX0_goOn_81 : decode cX0_goOn 81 = .ok (.aload_n 1, 1) := by decide +kernel
theorem dX0_goOn_82 : decode cX0_goOn 82 = .ok (.iconst 3, 1) := by decide +kernel
theorem dX0_goOn_83 : decode cX0_goOn 83 = .ok (.iload_n 2, 1) := by decide +kernel
theorem dX0_goOn_84 : decode cX0_goOn 84 = .ok (.invokevirtual 62, 3) := by decide +kernel
theorem dX0_goOn_87 : decode cX0_goOn 87 = .ok (.iload_n 3, 1) := by decide +kernel
theorem dX0_goOn_88 : decode cX0_goOn 88 = .ok (.if_icmp .ne 8, 3) := by decide +kernel
theorem dX0_goOn_91 : decode cX0_goOn 91 = .ok (.aload_n 1, 1) := by decide +kernel
theorem dX0_goOn_92 : decode cX0_goOn 92 = .ok (.iload_n 2, 1) := by decide +kernel
theorem dX0_goOn_93 : decode cX0_goOn 93 = .ok (.invokevirtual 115, 3) := by decide +kernel
theorem dX0_goOn_96 : decode cX0_goOn 96 = .ok (.return_, 1) := by decide +kernel
theorem dX0_towards_0 : decode cX0_towards 0 = .ok (.aload_n 1, 1) := by decide +kernel
theorem dX0_towards_1 : decode cX0_towards 1 = .ok (.iconst 3, 1) := by decide +kernel
theorem dX0_towards_2 : decode cX0_towards 2 = .ok (.iload_n 2, 1) := by decide +kernel
theorem dX0_towards_3 : decode cX0_towards 3 = .ok (.invokevirtual 62, 3) := by decide +kernel
theorem dX0_towards_6 : decode cX0_towards 6 = .ok (.istore_n 3, 1) := by decide +kernel
theorem dX0_towards_7 : decode cX0_towards 7 = .ok (.aload_n 1, 1) := by decide +kernel
theorem dX0_towards_8 : decode cX0_towards 8 = .ok (.bipush 8, 2) := by decide +kernel
theorem dX0_towards_10 : decode cX0_towards 10 = .ok (.iload_n 2, 1) := by decide +kernel
theorem dX0_towards_11 : decode cX0_towards 11 = .ok (.invokevirtual 62, 3) := by decide +kernel
theorem dX0_towards_14 : decode cX0_towards 14 = .ok (.iload_n 3, 1) := by decide +kernel
theorem dX0_towards_15 : decode cX0_towards 15 = .ok (.if_icmp .le 9, 3) := by decide +kernel
theorem dX0_towards_18 : decode cX0_towards 18 = .ok (.iload_n 3, 1) := by decide +kernel
theorem dX0_towards_19 : decode cX0_towards 19 = .ok (.iconst 1, 1) := by decide +kernel
theorem dX0_towards_20 : decode cX0_towards 20 = .ok (.iadd, 1) := by decide +kernel
theorem dX0_towards_21 : decode cX0_towards 21 = .ok (.goto 6, 3) := by decide +kernel
theorem dX0_towards_24 : decode cX0_towards 24 = .ok (.iload_n 3, 1) := by decide +kernel
theorem dX0_towards_25 : decode cX0_towards 25 = .ok (.iconst 1, 1) := by decide +kernel
theorem dX0_towards_26 : decode cX0_towards 26 = .ok (.isub, 1) := by decide +kernel
theorem dX0_towards_27 : decode cX0_towards 27 = .ok (.ireturn, 1) := by decide +kernel
theorem dX0_breakAndFall_0 : decode cX0_breakAndFall 0 = .ok (.iconst 0, 1) := by decide +kernel
theorem dX0_breakAndFall_1 : decode cX0_breakAndFall 1 = .ok (.istore_n 3, 1) := by decide +kernel
theorem dX0_breakAndFall_2 : decode cX0_breakAndFall 2 = .ok (.iconst 0, 1) := by decide +kernel
theorem dX0_breakAndFall_3 : decode cX0_breakAndFall 3 = .ok (.istore 4, 2) := by decide +kernel
theorem dX0_breakAndFall_5 : decode cX0_breakAndFall 5 = .ok (.iload 4, 2) := by decide +kernel
theorem dX0_breakAndFall_7 : decode cX0_breakAndFall 7 = .ok (.aload_n 0, 1) := by decide +kernel
theorem dX0_breakAndFall_8 : decode cX0_breakAndFall 8 = .ok (.getfield 9, 3) := by decide +kernel
theorem dX0_breakAndFall_11 : decode cX0_breakAndFall 11 = .ok (.getfield 22, 3) := by decide +kernel
theorem dX0_breakAndFall_14 : decode cX0_breakAndFall 14 = .ok (.if_icmp .ge 55, 3) := by decide +kernel
theorem dX0_breakAndFall_17 : decode cX0_breakAndFall 17 = .ok (.bipush 16, 2) := by decide +kernel
theorem dX0_breakAndFall_19 : decode cX0_breakAndFall 19 = .ok (.aload_n 1, 1) := by decide +kernel
theorem dX0_breakAndFall_20 : decode cX0_breakAndFall 20 = .ok (.invokevirtual 26, 3) := by decide +kernel
theorem dX0_breakAndFall_23 : decode cX0_breakAndFall 23 = .ok (.imul, 1) := by decide +kernel
theorem dX0_breakAndFall_24 : decode cX0_breakAndFall 24 = .ok (.iload 4, 2) := by decide +kernel
theorem dX0_breakAndFall_26 : decode cX0_breakAndFall 26 = .ok (.iadd, 1) := by decide +kernel
theorem dX0_breakAndFall_27 : decode cX0_breakAndFall 27 = .ok (.istore 5, 2) := by decide +kernel
theorem dX0_breakAndFall_29 : decode cX0_breakAndFall 29 = .ok (.aload_n 1, 1) := by decide +kernel
theorem dX0_breakAndFall_30 : decode cX0_breakAndFall 30 = .ok (.iload 4, 2) := by decide +kernel
theorem dX0_breakAndFall_32 : decode cX0_breakAndFall 32 = .ok (.invokevirtual 81, 3) := by decide +kernel
theorem dX0_breakAndFall_35 : decode cX0_breakAndFall 35 = .ok (.ifCond .eq 28, 3) := by decide +kernel
theorem dX0_breakAndFall_38 : decode cX0_breakAndFall 38 = .ok (.bipush 100, 2) := by decide +kernel
theorem dX0_breakAndFall_40 : decode cX0_breakAndFall 40 = .ok (.iload_n 2, 1) := by decide +kernel
theorem dX0_breakAndFall_41 : decode cX0_breakAndFall 41 = .ok (.iload 5, 2) := by decide +kernel
theorem dX0_breakAndFall_43 : decode cX0_breakAndFall 43 = .ok (.invokestatic 118, 3) := by decide +kernel
theorem dX0_breakAndFall_46 : decode cX0_breakAndFall 46 = .ok (.aload_n 0, 1) := by decide +kernel
theorem dX0_breakAndFall_47 : decode cX0_breakAndFall 47 = .ok (.aload_n 1, 1) := by decide +kernel
theorem dX0_breakAndFall_48 : decode cX0_breakAndFall 48 = .ok (.iload 4, 2) := by decide +kernel
theorem dX0_breakAndFall_50 : decode cX0_breakAndFall 50 = .ok (.invokevirtual 122, 3) := by decide +kernel
theorem dX0_breakAndFall_53 : decode cX0_breakAndFall 53 = .ok (.if_icmp .ge 10, 3) := by decide +kernel
theorem dX0_breakAndFall_56 : decode cX0_breakAndFall 56 = .ok (.iload_n 3, 1) := by decide +kernel
theorem dX0_breakAndFall_57 : decode cX0_breakAndFall 57 = .ok (.iconst 1, 1) := by decide +kernel
theorem dX0_breakAndFall_58 : decode cX0_breakAndFall 58 = .ok (.iload 4, 2) := by decide +kernel
theorem dX0_breakAndFall_60 : decode cX0_breakAndFall 60 = .ok (.ishl, 1) := by decide +kernel
theorem dX0_breakAndFall_61 : decode cX0_breakAndFall 61 = .ok (.ior, 1) := by decide +kernel
theorem dX0_breakAndFall_62 : decode cX0_breakAndFall 62 = .ok (.istore_n 3, 1) := by decide +kernel
theorem dX0_breakAndFall_63 : decode cX0_breakAndFall 63 = .ok (.iinc 4 1, 3) := by decide +kernel
theorem dX0_breakAndFall_66 : decode cX0_breakAndFall 66 = .ok (.goto (-61), 3) := by decide +kernel
theorem dX0_breakAndFall_69 : decode cX0_breakAndFall 69 = .ok (.iconst 0, 1) := by decide +kernel
theorem dX0_breakAndFall_70 : decode cX0_breakAndFall 70 = .ok (.istore 4, 2) := by decide +kernel
theorem dX0_breakAndFall_72 : decode cX0_breakAndFall 72 = .ok (.iload 4, 2) := by decide +kernel
theorem dX0_breakAndFall_74 : decode cX0_breakAndFall 74 = .ok (.aload_n 0, 1) := by decide +kernel
theorem dX0_breakAndFall_75 : decode cX0_breakAndFall 75 = .ok (.getfield 9, 3) := by decide +kernel
theorem dX0_breakAndFall_78 : decode cX0_breakAndFall 78 = .ok (.getfield 22, 3) := by decide +kernel
theorem dX0_breakAndFall_81 : decode cX0_breakAndFall 81 = .ok (.if_icmp .ge 24, 3) := by decide +kernel
theorem dX0_breakAndFall_84 : decode cX0_breakAndFall 84 = .ok (.iload_n 3, 1) := by decide +kernel
theorem dX0_breakAndFall_85 : decode cX0_breakAndFall 85 = .ok (.iload 4, 2) := by decide +kernel
theorem dX0_breakAndFall_87 : decode cX0_breakAndFall 87 = .ok (.invokestatic 125, 3) := by decide +kernel
theorem dX0_breakAndFall_90 : decode cX0_breakAndFall 90 = .ok (.ifCond .eq 9, 3) := by decide +kernel
theorem dX0_breakAndFall_93 : decode cX0_breakAndFall 93 = .ok (.aload_n 1, 1) := by decide +kernel
theorem dX0_breakAndFall_94 : decode cX0_breakAndFall 94 = .ok (.iload 4, 2) := by decide +kernel
theorem dX0_breakAndFall_96 : decode cX0_breakAndFall 96 = .ok (.invokevirtual 129, 3) := by decide +kernel
theorem dX0_breakAndFall_99 : decode cX0_breakAndFall 99 = .ok (.iinc 4 1, 3) := by decide +kernel
theorem dX0_breakAndFall_102 : decode cX0_breakAndFall 102 = .ok (.goto (-30), 3) := by decide +kernel
theorem dX0_breakAndFall_105 : decode cX0_breakAndFall 105 = .ok (.iconst 0, 1) := by decide +kernel
theorem dX0_breakAndFall_106 : decode cX0_breakAndFall 106 = .ok (.istore 4, 2) := by decide +kernel
theorem dX0_breakAndFall_108 : decode cX0_breakAndFall 108 = .ok (.iload 4, 2) := by decide +kernel
theorem dX0_breakAndFall_110 : decode cX0_breakAndFall 110 = .ok (.aload_n 0, 1) := by decide +kernel
theorem dX0_breakAndFall_111 : decode cX0_breakAndFall 111 = .ok (.getfield 9, 3) := by decide +kernel
theorem dX0_breakAndFall_114 : decode cX0_breakAndFall 114 = .ok (.getfield 74, 3) := by decide +kernel
theorem dX0_breakAndFall_117 : decode cX0_breakAndFall 117 = .ok (.if_icmp .ge 30, 3) := by decide +kernel
theorem dX0_breakAndFall_120 : decode cX0_breakAndFall 120 = .ok (.iload_n 3, 1) := by decide +kernel
theorem dX0_breakAndFall_121 : decode cX0_breakAndFall 121 = .ok (.aload_n 1, 1) := by decide +kernel
theorem dX0_breakAndFall_122 : decode cX0_breakAndFall 122 = .ok (.iconst 3, 1) := by decide +kernel
theorem dX0_breakAndFall_123 : decode cX0_breakAndFall 123 = .ok (.iload 4, 2) := by decide +kernel
theorem dX0_breakAndFall_125 : decode cX0_breakAndFall 125 = .ok (.invokevirtual 62, 3) := by decide +kernel
theorem dX0_breakAndFall_128 : decode cX0_breakAndFall 128 = .ok (.invokestatic 125, 3) := by decide +kernel
theorem dX0_breakAndFall_131 : decode cX0_breakAndFall 131 = .ok (.ifCond .eq 10, 3) := by decide +kernel
theorem dX0_breakAndFall_134 : decode cX0_breakAndFall 134 = .ok (.aload_n 0, 1) := by decide +kernel
theorem dX0_breakAndFall_135 : decode cX0_breakAndFall 135 = .ok (.aload_n 1, 1) := by decide +kernel
theorem dX0_breakAndFall_136 : decode cX0_breakAndFall 136 = .ok (.iload 4, 2) := by decide +kernel
theorem dX0_breakAndFall_138 : decode cX0_breakAndFall 138 = .ok (.invokevirtual 132, 3) := by decide +kernel
theorem dX0_breakAndFall_141 : decode cX0_breakAndFall 141 = .ok (.iinc 4 1, 3) := by decide +kernel
theorem dX0_breakAndFall_144 : decode cX0_breakAndFall 144 = .ok (.goto (-36), 3) := by decide +kernel
theorem dX0_breakAndFall_147 : decode cX0_breakAndFall 147 = .ok (.return_, 1) := by decide +kernel
theorem dX0_fall_0 : decode cX0_fall 0 = .ok (.aload_n 1, 1) := by decide +kernel
theorem dX0_fall_1 : decode cX0_fall 1 = .ok (.iconst 3, 1) := by decide +kernel
theorem dX0_fall_2 : decode cX0_fall 2 = .ok (.iload_n 2, 1) := by decide +kernel
theorem dX0_fall_3 : decode cX0_fall 3 = .ok (.invokevirtual 62, 3) := by decide +kernel
theorem dX0_fall_6 : decode cX0_fall 6 = .ok (.iconst 1, 1) := by decide +kernel
theorem dX0_fall_7 : decode cX0_fall 7 = .ok (.iadd, 1) := by decide +kernel
theorem dX0_fall_8 : decode cX0_fall 8 = .ok (.istore_n 3, 1) := by decide +kernel
theorem dX0_fall_9 : decode cX0_fall 9 = .ok (.iload_n 3, 1) := by decide +kernel
theorem dX0_fall_10 : decode cX0_fall 10 = .ok (.aload_n 0, 1) := by decide +kernel
theorem dX0_fall_11 : decode cX0_fall 11 = .ok (.getfield 9, 3) := by decide +kernel
theorem dX0_fall_14 : decode cX0_fall 14 = .ok (.getfield 22, 3) := by decide +kernel
theorem dX0_fall_17 : decode cX0_fall 17 = .ok (.if_icmp .ge 43, 3) := by decide +kernel
theorem dX0_fall_20 : decode cX0_fall 20 = .ok (.aload_n 1, 1) := by decide +kernel
theorem dX0_fall_21 : decode cX0_fall 21 = .ok (.iload_n 3, 1) := by decide +kernel
theorem dX0_fall_22 : decode cX0_fall 22 = .ok (.invokevirtual 81, 3) := by decide +kernel
theorem dX0_fall_25 : decode cX0_fall 25 = .ok (.ifCond .eq 29, 3) := by decide +kernel
theorem dX0_fall_28 : decode cX0_fall 28 = .ok (.aload_n 1, 1) := by decide +kernel
theorem dX0_fall_29 : decode cX0_fall 29 = .ok (.iconst 3, 1) := by decide +kernel
theorem dX0_fall_30 : decode cX0_fall 30 = .ok (.iload_n 2, 1) := by decide +kernel
theorem dX0_fall_31 : decode cX0_fall 31 = .ok (.iload_n 3, 1) := by decide +kernel
theorem dX0_fall_32 : decode cX0_fall 32 = .ok (.invokevirtual 103, 3) := by decide +kernel
theorem dX0_fall_35 : decode cX0_fall 35 = .ok (.aload_n 1, 1) := by decide +kernel
theorem dX0_fall_36 : decode cX0_fall 36 = .ok (.bipush 23, 2) := by decide +kernel
theorem dX0_fall_38 : decode cX0_fall 38 = .ok (.iload_n 2, 1) := by decide +kernel
theorem dX0_fall_39 : decode cX0_fall 39 = .ok (.aload_n 1, 1) := by decide +kernel
theorem dX0_fall_40 : decode cX0_fall 40 = .ok (.bipush 23, 2) := by decide +kernel
theorem dX0_fall_42 : decode cX0_fall 42 = .ok (.iload_n 2, 1) := by decide +kernel
theorem dX0_fall_43 : decode cX0_fall 43 = .ok (.invokevirtual 62, 3) := by decide +kernel
theorem dX0_fall_46 : decode cX0_fall 46 = .ok (.iconst 1, 1) := by decide +kernel
theorem dX0_fall_47 : decode cX0_fall 47 = .ok (.iadd, 1) := by decide +kernel
theorem dX0_fall_48 : decode cX0_fall 48 = .ok (.invokevirtual 103, 3) := by decide +kernel
theorem dX0_fall_51 : decode cX0_fall 51 = .ok (.goto 9, 3) := by decide +kernel
theorem dX0_fall_54 : decode cX0_fall 54 = .ok (.iinc 3 1, 3) := by decide +kernel
theorem dX0_fall_57 : decode cX0_fall 57 = .ok (.goto (-48), 3) := by decide +kernel
theorem dX0_fall_60 : decode cX0_fall 60 = .ok (.aload_n 1, 1) := by decide +kernel
theorem dX0_fall_61 : decode cX0_fall 61 = .ok (.iload_n 2, 1) := by decide +kernel
theorem dX0_fall_62 : decode cX0_fall 62 = .ok (.invokevirtual 115, 3) := by decide +kernel
theorem dX0_fall_65 : decode cX0_fall 65 = .ok (.return_, 1) := by decide +kernel
theorem dX0_letDown_0 : decode cX0_letDown 0 = .ok (.iload_n 2, 1) := by decide +kernel
theorem dX0_letDown_1 : decode cX0_letDown 1 = .ok (.istore_n 3, 1) := by decide +kernel
theorem dX0_letDown_2 : decode cX0_letDown 2 = .ok (.iconst 0, 1) := by decide +kernel
theorem dX0_letDown_3 : decode cX0_letDown 3 = .ok (.istore 4, 2) := by decide +kernel
theorem dX0_letDown_5 : decode cX0_letDown 5 = .ok (.iload 4, 2) := by decide +kernel
theorem dX0_letDown_7 : decode cX0_letDown 7 = .ok (.aload_n 0, 1) := by decide +kernel
theorem dX0_letDown_8 : decode cX0_letDown 8 = .ok (.getfield 9, 3) := by decide +kernel
theorem dX0_letDown_11 : decode cX0_letDown 11 = .ok (.getfield 22, 3) := by decide +kernel
theorem dX0_letDown_14 : decode cX0_letDown 14 = .ok (.if_icmp .ge 76, 3) := by decide +kernel
theorem dX0_letDown_17 : decode cX0_letDown 17 = .ok (.iconst 0, 1) := by decide +kernel
theorem dX0_letDown_18 : decode cX0_letDown 18 = .ok (.istore 5, 2) := by decide +kernel
theorem dX0_letDown_20 : decode cX0_letDown 20 = .ok (.iload 5, 2) := by decide +kernel
theorem dX0_letDown_22 : decode cX0_letDown 22 = .ok (.aload_n 0, 1) := by decide +kernel
theorem dX0_letDown_23 : decode cX0_letDown 23 = .ok (.getfield 9, 3) := by decide +kernel
theorem dX0_letDown_26 : decode cX0_letDown 26 = .ok (.getfield 74, 3) := by decide +kernel
theorem dX0_letDown_29 : decode cX0_letDown 29 = .ok (.if_icmp .ge 55, 3) := by decide +kernel
theorem dX0_letDown_32 : decode cX0_letDown 32 = .ok (.aload_n 1, 1) := by decide +kernel
theorem dX0_letDown_33 : decode cX0_letDown 33 = .ok (.iconst 3, 1) := by decide +kernel
theorem dX0_letDown_34 : decode cX0_letDown 34 = .ok (.iload 5, 2) := by decide +kernel
theorem dX0_letDown_36 : decode cX0_letDown 36 = .ok (.invokevirtual 62, 3) := by decide +kernel
theorem dX0_letDown_39 : decode cX0_letDown 39 = .ok (.iload 4, 2) := by decide +kernel
theorem dX0_letDown_41 : decode cX0_letDown 41 = .ok (.if_icmp .ne 37, 3) := by decide +kernel
theorem dX0_letDown_44 : decode cX0_letDown 44 = .ok (.aload_n 0, 1) := by decide +kernel
theorem dX0_letDown_45 : decode cX0_letDown 45 = .ok (.aload_n 1, 1) := by decide +kernel
theorem dX0_letDown_46 : decode cX0_letDown 46 = .ok (.iload 5, 2) := by decide +kernel
theorem dX0_letDown_48 : decode cX0_letDown 48 = .ok (.iload_n 3, 1) := by decide +kernel
theorem dX0_letDown_49 : decode cX0_letDown 49 = .ok (.invokevirtual 135, 3) := by decide +kernel
theorem dX0_letDown_52 : decode cX0_letDown 52 = .ok (.istore 6, 2) := by decide +kernel
theorem dX0_letDown_54 : decode cX0_letDown 54 = .ok (.aload_n 1, 1) := by decide +kernel
theorem dX0_letDown_55 : decode cX0_letDown 55 = .ok (.bipush 18, 2) := by decide +kernel
theorem dX0_letDown_57 : decode cX0_letDown 57 = .ok (.iload 5, 2) := by decide +kernel
theorem dX0_letDown_59 : decode cX0_letDown 59 = .ok (.aload_n 1, 1) := by decide +kernel
theorem dX0_letDown_60 : decode cX0_letDown 60 = .ok (.bipush 18, 2) := by decide +kernel
theorem dX0_letDown_62 : decode cX0_letDown 62 = .ok (.iload 5, 2) := by decide +kernel
theorem dX0_letDown_64 : decode cX0_letDown 64 = .ok (.invokevirtual 62, 3) := by decide +kernel
theorem dX0_letDown_67 : decode cX0_letDown 67 = .ok (.iload 6, 2) := by decide +kernel
theorem dX0_letDown_69 : decode cX0_letDown 69 = .ok (.iadd, 1) := by decide +kernel
theorem dX0_letDown_70 : decode cX0_letDown 70 = .ok (.invokevirtual 103, 3) := by decide +kernel
theorem dX0_letDown_73 : decode cX0_letDown 73 = .ok (.iload_n 3, 1) := by decide +kernel
theorem dX0_letDown_74 : decode cX0_letDown 74 = .ok (.iload 6, 2) := by decide +kernel
theorem dX0_letDown_76 : decode cX0_letDown 76 = .ok (.isub, 1) := by decide +kernel
theorem dX0_letDown_77 : decode cX0_letDown 77 = .ok (.istore_n 3, 1) := by decide +kernel
theorem dX0_letDown_78 : decode cX0_letDown 78 = .ok (.iinc 5 1, 3) := by decide +kernel
theorem dX0_letDown_81 : decode cX0_letDown 81 = .ok (.goto (-61), 3) := by decide +kernel
theorem dX0_letDown_84 : decode cX0_letDown 84 = .ok (.iinc 4 1, 3) := by decide +kernel
theorem dX0_letDown_87 : decode cX0_letDown 87 = .ok (.goto (-82), 3) := by decide +kernel
theorem dX0_letDown_90 : decode cX0_letDown 90 = .ok (.iload_n 3, 1) := by decide +kernel
theorem dX0_letDown_91 : decode cX0_letDown 91 = .ok (.ireturn, 1) := by decide +kernel
theorem dX2_init_0 : decode cX2_init 0 = .ok (.aload_n 0, 1) := by decide +kernel
theorem dX2_init_1 : decode cX2_init 1 = .ok (.invokespecial 5, 3) := by decide +kernel
theorem dX2_init_4 : decode cX2_init 4 = .ok (.aload_n 0, 1) := by decide +kernel
theorem dX2_init_5 : decode cX2_init 5 = .ok (.sipush 408, 3) := by decide +kernel
theorem dX2_init_8 : decode cX2_init 8 = .ok (.newarray .int, 2) := by decide +kernel
theorem dX2_init_10 : decode cX2_init 10 = .ok (.putfield 11, 3) := by decide +kernel
theorem dX2_init_13 : decode cX2_init 13 = .ok (.aload_n 0, 1) := by decide +kernel
theorem dX2_init_14 : decode cX2_init 14 = .ok (.sipush 408, 3) := by decide +kernel
theorem dX2_init_17 : decode cX2_init 17 = .ok (.newarray .int, 2) := by decide +kernel
theorem dX2_init_19 : decode cX2_init 19 = .ok (.putfield 15, 3) := by decide +kernel
theorem dX2_init_22 : decode cX2_init 22 = .ok (.aload_n 0, 1) := by decide +kernel
theorem dX2_init_23 : decode cX2_init 23 = .ok (.iconst 4, 1) := by decide +kernel
theorem dX2_init_24 : decode cX2_init 24 = .ok (.newarray .int, 2) := by decide +kernel
theorem dX2_init_26 : decode cX2_init 26 = .ok (.putfield 18, 3) := by decide +kernel
theorem dX2_init_29 : decode cX2_init 29 = .ok (.aload_n 0, 1) := by decide +kernel
theorem dX2_init_30 : decode cX2_init 30 = .ok (.bipush 9, 2) := by decide +kernel
theorem dX2_init_32 : decode cX2_init 32 = .ok (.newarray .int, 2) := by decide +kernel
theorem dX2_init_34 : decode cX2_init 34 = .ok (.putfield 21, 3) := by decide +kernel
theorem dX2_init_37 : decode cX2_init 37 = .ok (.aload_n 0, 1) := by decide +kernel
theorem dX2_init_38 : decode cX2_init 38 = .ok (.bipush 24, 2) := by decide +kernel
theorem dX2_init_40 : decode cX2_init 40 = .ok (.newarray .int, 2) := by decide +kernel
theorem dX2_init_42 : decode cX2_init 42 = .ok (.putfield 24, 3) := by decide +kernel
theorem dX2_init_45 : decode cX2_init 45 = .ok (.aload_n 0, 1) := by decide +kernel
theorem dX2_init_46 : decode cX2_init 46 = .ok (.iconst 0, 1) := by decide +kernel
theorem dX2_init_47 : decode cX2_init 47 = .ok (.putfield 27, 3) := by decide +kernel
theorem dX2_init_50 : decode cX2_init 50 = .ok (.return_, 1) := by decide +kernel
theorem dX2_clear_0 : decode cX2_clear 0 = .ok (.aload_n 0, 1) := by decide +kernel
theorem dX2_clear_1 : decode cX2_clear 1 = .ok (.iconst 0, 1) := by decide +kernel
theorem dX2_clear_2 : decode cX2_clear 2 = .ok (.putfield 27, 3) := by decide +kernel
theorem dX2_clear_5 : decode cX2_clear 5 = .ok (.aload_n 0, 1) := by decide +kernel
theorem dX2_clear_6 : decode cX2_clear 6 = .ok (.iconst 0, 1) := by decide +kernel
theorem dX2_clear_7 : decode cX2_clear 7 = .ok (.invokevirtual 31, 3) := by decide +kernel
theorem dX2_clear_10 : decode cX2_clear 10 = .ok (.aload_n 0, 1) := by decide +kernel
theorem dX2_clear_11 : decode cX2_clear 11 = .ok (.iconst 1, 1) := by decide +kernel
theorem dX2_clear_12 : decode cX2_clear 12 = .ok (.bipush 9, 2) := by decide +kernel
theorem dX2_clear_14 : decode cX2_clear 14 = .ok (.invokevirtual 35, 3) := by decide +kernel
theorem dX2_clear_17 : decode cX2_clear 17 = .ok (.pop, 1) := by decide +kernel
theorem dX2_clear_18 : decode cX2_clear 18 = .ok (.aload_n 0, 1) := by decide +kernel
theorem dX2_clear_19 : decode cX2_clear 19 = .ok (.iconst 0, 1) := by decide +kernel
theorem dX2_clear_20 : decode cX2_clear 20 = .ok (.iconst 0, 1) := by decide +kernel
theorem dX2_clear_21 : decode cX2_clear 21 = .ok (.invokevirtual 35, 3) := by decide +kernel
theorem dX2_clear_24 : decode cX2_clear 24 = .ok (.pop, 1) := by decide +kernel
theorem dX2_clear_25 : decode cX2_clear 25 = .ok (.aload_n 0, 1) := by decide +kernel
theorem dX2_clear_26 : decode cX2_clear 26 = .ok (.iconst 2, 1) := by decide +kernel
theorem dX2_clear_27 : decode cX2_clear 27 = .ok (.invokevirtual 31, 3) := by decide +kernel
theorem dX2_clear_30 : decode cX2_clear 30 = .ok (.aload_n 0, 1) := by decide +kernel
theorem dX2_clear_31 : decode cX2_clear 31 = .ok (.iconst 2, 1) := by decide +kernel
theorem dX2_clear_32 : decode cX2_clear 32 = .ok (.iconst 5, 1) := by decide +kernel
theorem dX2_clear_33 : decode cX2_clear 33 = .ok (.invokevirtual 35, 3) := by decide +kernel
theorem dX2_clear_36 : decode cX2_clear 36 = .ok (.pop, 1) := by decide +kernel
theorem dX2_clear_37 : decode cX2_clear 37 = .ok (.aload_n 0, 1) := by decide +kernel
theorem dX2_clear_38 : decode cX2_clear 38 = .ok (.iconst 0, 1) := by decide +kernel
theorem dX2_clear_39 : decode cX2_clear 39 = .ok (.iconst 0, 1) := by decide +kernel
theorem dX2_clear_40 : decode cX2_clear 40 = .ok (.invokevirtual 35, 3) := by decide +kernel
theorem dX2_clear_43 : decode cX2_clear 43 = .ok (.pop, 1) := by decide +kernel
theorem dX2_clear_44 : decode cX2_clear 44 = .ok (.aload_n 0, 1) := by decide +kernel
theorem dX2_clear_45 : decode cX2_clear 45 = .ok (.iconst 1, 1) := by decide +kernel
theorem dX2_clear_46 : decode cX2_clear 46 = .ok (.invokevirtual 31, 3) := by decide +kernel
theorem dX2_clear_49 : decode cX2_clear 49 = .ok (.aload_n 0, 1) := by decide +kernel
theorem dX2_clear_50 : decode cX2_clear 50 = .ok (.iconst 3, 1) := by decide +kernel
theorem dX2_clear_51 : decode cX2_clear 51 = .ok (.invokevirtual 31, 3) := by decide +kernel
theorem dX2_clear_54 : decode cX2_clear 54 = .ok (.aload_n 0, 1) := by decide +kernel
theorem dX2_clear_55 : decode cX2_clear 55 = .ok (.iconst 1, 1) := by decide +kernel
theorem dX2_clear_56 : decode cX2_clear 56 = .ok (.iconst 0, 1) := by decide +kernel
theorem dX2_clear_57 : decode cX2_clear 57 = .ok (.invokevirtual 35, 3) := by decide +kernel
theorem dX2_clear_60 : decode cX2_clear 60 = .ok (.pop, 1) := by decide +kernel
theorem dX2_clear_61 : decode cX2_clear 61 = .ok (.aload_n 0, 1) := by decide +kernel
theorem dX2_clear_62 : decode cX2_clear 62 = .ok (.iconst 0, 1) := by decide +kernel
theorem dX2_clear_63 : decode cX2_clear 63 = .ok (.iconst 0, 1) := by decide +kernel
theorem dX2_clear_64 : decode cX2_clear 64 = .ok (.invokevirtual 35, 3) := by decide +kernel
theorem dX2_clear_67 : decode cX2_clear 67 = .ok (.pop, 1) := by decide +kernel
theorem dX2_clear_68 : decode cX2_clear 68 = .ok (.return_, 1) := by decide +kernel
theorem dX2_begin_0 : decode cX2_begin 0 = .ok (.iload_n 1, 1) := by decide +kernel
theorem dX2_begin_1 : decode cX2_begin 1 = .ok (.ifCond .lt 22, 3) := by decide +kernel
theorem dX2_begin_4 : decode cX2_begin 4 = .ok (.iload_n 1, 1) := by decide +kernel
theorem dX2_begin_5 : decode cX2_begin 5 = .ok (.aload_n 0, 1) := by decide +kernel
theorem dX2_begin_6 : decode cX2_begin 6 = .ok (.getfield 18, 3) := by decide +kernel
theorem dX2_begin_9 : decode cX2_begin 9 = .ok (.arraylength, 1) := by decide +kernel
theorem dX2_begin_10 : decode cX2_begin 10 = .ok (.if_icmp .ge 13, 3) := by decide +kernel
theorem dX2_begin_13 : decode cX2_begin 13 = .ok (.aload_n 0, 1) := by decide +kernel
theorem dX2_begin_14 : decode cX2_begin 14 = .ok (.getfield 18, 3) := by decide +kernel
theorem dX2_begin_17 : decode cX2_begin 17 = .ok (.iload_n 1, 1) := by decide +kernel
theorem dX2_begin_18 : decode cX2_begin 18 = .ok (.aload_n 0, 1) := by decide +kernel
theorem dX2_begin_19 : decode cX2_begin 19 = .ok (.getfield 27, 3) := by decide +kernel
theorem dX2_begin_22 : decode cX2_begin 22 = .ok (.iastore, 1) := by decide +kernel
theorem dX2_begin_23 : decode cX2_begin 23 = .ok (.return_, 1) := by decide +kernel
theorem dX2_add_0 : decode cX2_add 0 = .ok (.aload_n 0, 1) := by decide +kernel
theorem dX2_add_1 : decode cX2_add 1 = .ok (.getfield 27, 3) := by decide +kernel
theorem dX2_add_4 : decode cX2_add 4 = .ok (.ifCond .lt 57, 3) := by decide +kernel
theorem dX2_add_7 : decode cX2_add 7 = .ok (.aload_n 0, 1) := by decide +kernel
theorem dX2_add_8 : decode cX2_add 8 = .ok (.getfield 27, 3) := by decide +kernel
theorem dX2_add_11 : decode cX2_add 11 = .ok (.aload_n 0, 1) := by decide +kernel
theorem dX2_add_12 : decode cX2_add 12 = .ok (.getfield 11, 3) := by decide +kernel
theorem dX2_add_15 : decode cX2_add 15 = .ok (.arraylength, 1) := by decide +kernel
theorem dX2_add_16 : decode cX2_add 16 = .ok (.if_icmp .ge 45, 3) := by decide +kernel
theorem dX2_add_19 : decode cX2_add 19 = .ok (.aload_n 0, 1) := by decide +kernel
theorem dX2_add_20 : decode cX2_add 20 = .ok (.getfield 27, 3) := by decide +kernel
theorem dX2_add_23 : decode cX2_add 23 = .ok (.aload_n 0, 1) := by decide +kernel
theorem dX2_add_24 : decode cX2_add 24 = .ok (.getfield 15, 3) := by decide +kernel
theorem dX2_add_27 : decode cX2_add 27 = .ok (.arraylength, 1) := by decide +kernel
theorem dX2_add_28 : decode cX2_add 28 = .ok (.if_icmp .ge 33, 3) := by decide +kernel
theorem dX2_add_31 : decode cX2_add 31 = .ok (.aload_n 0, 1) := by decide +kernel
theorem dX2_add_32 : decode cX2_add 32 = .ok (.getfield 11, 3) := by decide +kernel
theorem dX2_add_35 : decode cX2_add 35 = .ok (.aload_n 0, 1) := by decide +kernel
theorem dX2_add_36 : decode cX2_add 36 = .ok (.getfield 27, 3) := by decide +kernel
theorem dX2_add_39 : decode cX2_add 39 = .ok (.iload_n 1, 1) := by decide +kernel
theorem dX2_add_40 : decode cX2_add 40 = .ok (.iastore, 1) := by decide +kernel
theorem dX2_add_41 : decode cX2_add 41 = .ok (.aload_n 0, 1) := by decide +kernel
theorem dX2_add_42 : decode cX2_add 42 = .ok (.getfield 15, 3) := by decide +kernel
theorem dX2_add_45 : decode cX2_add 45 = .ok (.aload_n 0, 1) := by decide +kernel
theorem dX2_add_46 : decode cX2_add 46 = .ok (.getfield 27, 3) := by decide +kernel
theorem dX2_add_49 : decode cX2_add 49 = .ok (.iload_n 2, 1) := by decide +kernel
theorem dX2_add_50 : decode cX2_add 50 = .ok (.iastore, 1) := by decide +kernel
theorem dX2_add_51 : decode cX2_add 51 = .ok (.aload_n 0, 1) := by decide +kernel
theorem dX2_add_52 : decode cX2_add 52 = .ok (.dup, 1) := by decide +kernel
theorem dX2_add_53 : decode cX2_add 53 = .ok (.getfield 27, 3) := by decide +kernel
theorem dX2_add_56 : decode cX2_add 56 = .ok (.iconst 1, 1) := by decide +kernel
theorem dX2_add_57 : decode cX2_add 57 = .ok (.iadd, 1) := by decide +kernel
theorem dX2_add_58 : decode cX2_add 58 = .ok (.putfield 27, 3) := by decide +kernel
theorem dX2_add_61 : decode cX2_add 61 = .ok (.aload_n 0, 1) := by decide +kernel
theorem dX2_add_62 : decode cX2_add 62 = .ok (.getfield 27, 3) := by decide +kernel
theorem dX2_add_65 : decode cX2_add 65 = .ok (.iconst 1, 1) := by decide +kernel
theorem dX2_add_66 : decode cX2_add 66 = .ok (.isub, 1) := by decide +kernel
theorem dX2_add_67 : decode cX2_add 67 = .ok (.ireturn, 1) := by decide +kernel
theorem dX2_jumpHere_0 : decode cX2_jumpHere 0 = .ok (.iload_n 1, 1) := by decide +kernel
theorem dX2_jumpHere_1 : decode cX2_jumpHere 1 = .ok (.ifCond .lt 22, 3) := by decide +kernel
theorem dX2_jumpHere_4 : decode cX2_jumpHere 4 = .ok (.iload_n 1, 1) := by decide +kernel
theorem dX2_jumpHere_5 : decode cX2_jumpHere 5 = .ok (.aload_n 0, 1) := by decide +kernel
theorem dX2_jumpHere_6 : decode cX2_jumpHere 6 = .ok (.getfield 15, 3) := by decide +kernel
theorem dX2_jumpHere_9 : decode cX2_jumpHere 9 = .ok (.arraylength, 1) := by decide +kernel
theorem dX2_jumpHere_10 : decode cX2_jumpHere 10 = .ok (.if_icmp .ge 13, 3) := by decide +kernel
theorem dX2_jumpHere_13 : decode cX2_jumpHere 13 = .ok (.aload_n 0, 1) := by decide +kernel
theorem dX2_jumpHere_14 : decode cX2_jumpHere 14 = .ok (.getfield 15, 3) := by decide +kernel
theorem dX2_jumpHere_17 : decode cX2_jumpHere 17 = .ok (.iload_n 1, 1) := by decide +kernel
theorem dX2_jumpHere_18 : decode cX2_jumpHere 18 = .ok (.aload_n 0, 1) := by decide +kernel
theorem dX2_jumpHere_19 : decode cX2_jumpHere 19 = .ok (.getfield 27, 3) := by decide +kernel
theorem dX2_jumpHere_22 : decode cX2_jumpHere 22 = .ok (.iastore, 1) := by decide +kernel
theorem dX2_jumpHere_23 : decode cX2_jumpHere 23 = .ok (.return_, 1) := by decide +kernel
theorem dX2_become_0 : decode cX2_become 0 = .ok (.aload_n 1, 1) := by decide +kernel
theorem dX2_become_1 : decode cX2_become 1 = .ok (.getfield 11, 3) := by decide +kernel
theorem dX2_become_4 : decode cX2_become 4 = .ok (.iconst 0, 1) := by decide +kernel
theorem dX2_become_5 : decode cX2_become 5 = .ok (.aload_n 0, 1) := by decide +kernel
theorem dX2_become_6 : decode cX2_become 6 = .ok (.getfield 11, 3) := by decide +kernel
theorem dX2_become_9 : decode cX2_become 9 = .ok (.iconst 0, 1) := by decide +kernel
theorem dX2_become_10 : decode cX2_become 10 = .ok (.sipush 408, 3) := by decide +kernel
theorem dX2_become_13 : decode cX2_become 13 = .ok (.invokestatic 39, 3) := by decide +kernel
theorem dX2_become_16 : decode cX2_become 16 = .ok (.aload_n 1, 1) := by decide +kernel
theorem dX2_become_17 : decode cX2_become 17 = .ok (.getfield 15, 3) := by decide +kernel
theorem dX2_become_20 : decode cX2_become 20 = .ok (.iconst 0, 1) := by decide +kernel
theorem dX2_become_21 : decode cX2_become 21 = .ok (.aload_n 0, 1) := by decide +kernel
theorem dX2_become_22 : decode cX2_become 22 = .ok (.getfield 15, 3) := by decide +kernel
theorem dX2_become_25 : decode cX2_become 25 = .ok (.iconst 0, 1) := by decide +kernel
theorem dX2_become_26 : decode cX2_become 26 = .ok (.sipush 408, 3) := by decide +kernel
theorem dX2_become_29 : decode cX2_become 29 = .ok (.invokestatic 39, 3) := by decide +kernel
theorem dX2_become_32 : decode cX2_become 32 = .ok (.aload_n 1, 1) := by decide +kernel
theorem dX2_become_33 : decode cX2_become 33 = .ok (.getfield 18, 3) := by decide +kernel
theorem dX2_become_36 : decode cX2_become 36 = .ok (.iconst 0, 1) := by decide +kernel
theorem dX2_become_37 : decode cX2_become 37 = .ok (.aload_n 0, 1) := by decide +kernel
theorem dX2_become_38 : decode cX2_become 38 = .ok (.getfield 18, 3) := by decide +kernel
theorem dX2_become_41 : decode cX2_become 41 = .ok (.iconst 0, 1) := by decide +kernel
theorem dX2_become_42 : decode cX2_become 42 = .ok (.iconst 4, 1) := by decide +kernel
theorem dX2_become_43 : decode cX2_become 43 = .ok (.invokestatic 39, 3) := by decide +kernel
theorem dX2_become_46 : decode cX2_become 46 = .ok (.aload_n 0, 1) := by decide +kernel
theorem dX2_become_47 : decode cX2_become 47 = .ok (.aload_n 1, 1) := by decide +kernel
theorem dX2_become_48 : decode cX2_become 48 = .ok (.getfield 27, 3) := by decide +kernel
theorem dX2_become_51 : decode cX2_become 51 = .ok (.putfield 27, 3) := by decide +kernel
theorem dX2_become_54 : decode cX2_become 54 = .ok (.return_, 1) := by decide +kernel
theorem dX2_setAll_0 : decode cX2_setAll 0 = .ok (.aload_n 0, 1) := by decide +kernel
theorem dX2_setAll_1 : decode cX2_setAll 1 = .ok (.getfield 21, 3) := by decide +kernel
theorem dX2_setAll_4 : decode cX2_setAll 4 = .ok (.iconst 0, 1) := by decide +kernel
theorem dX2_setAll_5 : decode cX2_setAll 5 = .ok (.invokestatic 45, 3) := by decide +kernel
theorem dX2_setAll_8 : decode cX2_setAll 8 = .ok (.aload_n 0, 1) := by decide +kernel
theorem dX2_setAll_9 : decode cX2_setAll 9 = .ok (.iconst 1, 1) := by decide +kernel
theorem dX2_setAll_10 : decode cX2_setAll 10 = .ok (.iload_n 1, 1) := by decide +kernel
theorem dX2_setAll_11 : decode cX2_setAll 11 = .ok (.invokevirtual 51, 3) := by decide +kernel
theorem dX2_setAll_14 : decode cX2_setAll 14 = .ok (.aload_n 0, 1) := by decide +kernel
theorem dX2_setAll_15 : decode cX2_setAll 15 = .ok (.iconst 2, 1) := by decide +kernel
theorem dX2_setAll_16 : decode cX2_setAll 16 = .ok (.iload_n 2, 1) := by decide +kernel
theorem dX2_setAll_17 : decode cX2_setAll 17 = .ok (.invokevirtual 51, 3) := by decide +kernel
theorem dX2_setAll_20 : decode cX2_setAll 20 = .ok (.return_, 1) := by decide +kernel
theorem dX2_set_0 : decode cX2_set 0 = .ok (.iload_n 1, 1) := by decide +kernel
theorem dX2_set_1 : decode cX2_set 1 = .ok (.ifCond .lt 19, 3) := by decide +kernel
theorem dX2_set_4 : decode cX2_set 4 = .ok (.iload_n 1, 1) := by decide +kernel
theorem dX2_set_5 : decode cX2_set 5 = .ok (.aload_n 0, 1) := by decide +kernel
theorem dX2_set_6 : decode cX2_set 6 = .ok (.getfield 21, 3) := by decide +kernel
theorem dX2_set_9 : decode cX2_set 9 = .ok (.arraylength, 1) := by decide +kernel
theorem dX2_set_10 : decode cX2_set 10 = .ok (.if_icmp .ge 10, 3) := by decide +kernel
theorem dX2_set_13 : decode cX2_set 13 = .ok (.aload_n 0, 1) := by decide +kernel
theorem dX2_set_14 : decode cX2_set 14 = .ok (.getfield 21, 3) := by decide +kernel
theorem dX2_set_17 : decode cX2_set 17 = .ok (.iload_n 1, 1) := by decide +kernel
theorem dX2_set_18 : decode cX2_set 18 = .ok (.iload_n 2, 1) := by decide +kernel
theorem dX2_set_19 : decode cX2_set 19 = .ok (.iastore, 1) := by decide +kernel
theorem dX2_set_20 : decode cX2_set 20 = .ok (.return_, 1) := by decide +kernel
theorem dX2_worth_0 : decode cX2_worth 0 = .ok (.aload_n 0, 1) := by decide +kernel
theorem dX2_worth_1 : decode cX2_worth 1 = .ok (.getfield 18, 3) := by decide +kernel
theorem dX2_worth_4 : decode cX2_worth 4 = .ok (.iload_n 1, 1) := by decide +kernel
theorem dX2_worth_5 : decode cX2_worth 5 = .ok (.invokestatic 55, 3) := by decide +kernel
theorem dX2_worth_8 : decode cX2_worth 8 = .ok (.istore_n 2, 1) := by decide +kernel
theorem dX2_worth_9 : decode cX2_worth 9 = .ok (.iconst 0, 1) := by decide +kernel
theorem dX2_worth_10 : decode cX2_worth 10 = .ok (.istore_n 3, 1) := by decide +kernel
theorem dX2_worth_11 : decode cX2_worth 11 = .ok (.iconst 0, 1) := by decide +kernel
theorem dX2_worth_12 : decode cX2_worth 12 = .ok (.istore 4, 2) := by decide +kernel
theorem dX2_worth_14 : decode cX2_worth 14 = .ok (.iload 4, 2) := by decide +kernel
theorem dX2_worth_16 : decode cX2_worth 16 = .ok (.sipush 408, 3) := by decide +kernel
theorem dX2_worth_19 : decode cX2_worth 19 = .ok (.if_icmp .ge 228, 3) := by decide +kernel
theorem dX2_worth_22 : decode cX2_worth 22 = .ok (.iload_n 2, 1) := by decide +kernel
theorem dX2_worth_23 : decode cX2_worth 23 = .ok (.ifCond .lt 21, 3) := by decide +kernel
theorem dX2_worth_26 : decode cX2_worth 26 = .ok (.iload_n 2, 1) := by decide +kernel
theorem dX2_worth_27 : decode cX2_worth 27 = .ok (.aload_n 0, 1) := by decide +kernel
theorem dX2_worth_28 : decode cX2_worth 28 = .ok (.getfield 11, 3) := by decide +kernel
theorem dX2_worth_31 : decode cX2_worth 31 = .ok (.arraylength, 1) := by decide +kernel
theorem dX2_worth_32 : decode cX2_worth 32 = .ok (.if_icmp .ge 12, 3) := by decide +kernel
theorem dX2_worth_35 : decode cX2_worth 35 = .ok (.iload_n 2, 1) := by decide +kernel
theorem dX2_worth_36 : decode cX2_worth 36 = .ok (.aload_n 0, 1) := by decide +kernel
theorem dX2_worth_37 : decode cX2_worth 37 = .ok (.getfield 15, 3) := by decide +kernel
theorem dX2_worth_40 : decode cX2_worth 40 = .ok (.arraylength, 1) := by decide +kernel
theorem dX2_worth_41 : decode cX2_worth 41 = .ok (.if_icmp .lt 5, 3) := by decide +kernel
theorem dX2_worth_44 : decode cX2_worth 44 = .ok (.iconst 0, 1) := by decide +kernel
theorem dX2_worth_45 : decode cX2_worth 45 = .ok (.ireturn, 1) := by decide +kernel
theorem dX2_worth_46 : decode cX2_worth 46 = .ok (.aload_n 0, 1) := by decide +kernel
theorem dX2_worth_47 : decode cX2_worth 47 = .ok (.getfield 11, 3) := by decide +kernel
theorem dX2_worth_50 : decode cX2_worth 50 = .ok (.iload_n 2, 1) := by decide +kernel
theorem dX2_worth_51 : decode cX2_worth 51 = .ok (.iaload, 1) := by decide +kernel
theorem dX2_worth_52 : decode cX2_worth 52 = .ok (.istore 5, 2) := by decide +kernel
theorem dX2_worth_54 : decode cX2_worth 54 = .ok (.aload_n 0, 1) := by decide +kernel
theorem dX2_worth_55 : decode cX2_worth 55 = .ok (.getfield 15, 3) := by decide +kernel
theorem dX2_worth_58 : decode cX2_worth 58 = .ok (.iload_n 2, 1) := by decide +kernel
theorem dX2_worth_59 : decode cX2_worth 59 = .ok (.iaload, 1) := by decide +kernel
theorem dX2_worth_60 : decode cX2_worth 60 = .ok (.istore 6, 2) := by decide +kernel
theorem dX2_worth_62 : decode cX2_worth 62 = .ok (.iinc 2 1, 3) := by decide +kernel
theorem dX2_worth_65 : decode cX2_worth 65 = .ok (.iload 5, 2) := by decide +kernel
theorem dX2_worth_67 : decode cX2_worth 67 = .ok (.ifCond .ne 19, 3) := by decide +kernel
theorem dX2_worth_70 : decode cX2_worth 70 = .ok (.iload_n 3, 1) := by decide +kernel
theorem dX2_worth_71 : decode cX2_worth 71 = .ok (.iconst 1, 1) := by decide +kernel
theorem dX2_worth_72 : decode cX2_worth 72 = .ok (.if_icmp .ne 12, 3) := by decide +kernel
theorem dX2_worth_75 : decode cX2_worth 75 = .ok (.aload_n 0, 1) := by decide +kernel
theorem dX2_worth_76 : decode cX2_worth 76 = .ok (.getfield 24, 3) := by decide +kernel
theorem dX2_worth_79 : decode cX2_worth 79 = .ok (.iconst 0, 1) := by decide +kernel
theorem dX2_worth_80 : decode cX2_worth 80 = .ok (.iaload, 1) := by decide +kernel
theorem dX2_worth_81 : decode cX2_worth 81 = .ok (.goto 4, 3) := by decide +kernel
theorem dX2_worth_84 : decode cX2_worth 84 = .ok (.iconst 0, 1) := by decide +kernel
theorem dX2_worth_85 : decode cX2_worth 85 = .ok (.ireturn, 1) := by decide +kernel
theorem dX2_worth_86 : decode cX2_worth 86 = .ok (.iload 5, 2) := by decide +kernel
theorem dX2_worth_88 : decode cX2_worth 88 = .ok (.iconst 1, 1) := by decide +kernel
theorem dX2_worth_89 : decode cX2_worth 89 = .ok (.if_icmp .eq 9, 3) := by decide +kernel
theorem dX2_worth_92 : decode cX2_worth 92 = .ok (.iload 5, 2) := by decide +kernel
theorem dX2_worth_94 : decode cX2_worth 94 = .ok (.iconst 2, 1) := by decide +kernel
theorem dX2_worth_95 : decode cX2_worth 95 = .ok (.if_icmp .ne 50, 3) := by decide +kernel
theorem dX2_worth_98 : decode cX2_worth 98 = .ok (.iload_n 3, 1) := by decide +kernel
theorem dX2_worth_99 : decode cX2_worth 99 = .ok (.ifCond .lt 12, 3) := by decide +kernel
theorem dX2_worth_102 : decode cX2_worth 102 = .ok (.iload_n 3, 1) := by decide +kernel
theorem dX2_worth_103 : decode cX2_worth 103 = .ok (.aload_n 0, 1) := by decide +kernel
theorem dX2_worth_104 : decode cX2_worth 104 = .ok (.getfield 24, 3) := by decide +kernel
theorem dX2_worth_107 : decode cX2_worth 107 = .ok (.arraylength, 1) := by decide +kernel
theorem dX2_worth_108 : decode cX2_worth 108 = .ok (.if_icmp .lt 5, 3) := by decide +kernel
theorem dX2_worth_111 : decode cX2_worth 111 = .ok (.iconst 0, 1) := by decide +kernel
theorem dX2_worth_112 : decode cX2_worth 112 = .ok (.ireturn, 1) := by decide +kernel
theorem dX2_worth_113 : decode cX2_worth 113 = .ok (.aload_n 0, 1) := by decide +kernel
theorem dX2_worth_114 : decode cX2_worth 114 = .ok (.getfield 24, 3) := by decide +kernel
theorem dX2_worth_117 : decode cX2_worth 117 = .ok (.iload_n 3, 1) := by decide +kernel
theorem dX2_worth_118 : decode cX2_worth 118 = .ok (.iload 5, 2) := by decide +kernel
theorem dX2_worth_120 : decode cX2_worth 120 = .ok (.iconst 1, 1) := by decide +kernel
theorem dX2_worth_121 : decode cX2_worth 121 = .ok (.if_icmp .ne 8, 3) := by decide +kernel
theorem dX2_worth_124 : decode cX2_worth 124 = .ok (.iload 6, 2) := by decide +kernel
theorem dX2_worth_126 : decode cX2_worth 126 = .ok (.goto 12, 3) := by decide +kernel
theorem dX2_worth_129 : decode cX2_worth 129 = .ok (.aload_n 0, 1) := by decide +kernel
theorem dX2_worth_130 : decode cX2_worth 130 = .ok (.getfield 21, 3) := by decide +kernel
theorem dX2_worth_133 : decode cX2_worth 133 = .ok (.iload 6, 2) := by decide +kernel
theorem dX2_worth_135 : decode cX2_worth 135 = .ok (.invokestatic 55, 3) := by decide +kernel
theorem dX2_worth_138 : decode cX2_worth 138 = .ok (.iastore, 1) := by decide +kernel
theorem dX2_worth_139 : decode cX2_worth 139 = .ok (.iinc 3 1, 3) := by decide +kernel
theorem dX2_worth_142 : decode cX2_worth 142 = .ok (.goto 99, 3) := by decide +kernel
theorem dX2_worth_145 : decode cX2_worth 145 = .ok (.iload_n 3, 1) := by decide +kernel
theorem dX2_worth_146 : decode cX2_worth 146 = .ok (.iconst 2, 1) := by decide +kernel
theorem dX2_worth_147 : decode cX2_worth 147 = .ok (.if_icmp .lt 12, 3) := by decide +kernel
theorem dX2_worth_150 : decode cX2_worth 150 = .ok (.iload_n 3, 1) := by decide +kernel
theorem dX2_worth_151 : decode cX2_worth 151 = .ok (.aload_n 0, 1) := by decide +kernel
theorem dX2_worth_152 : decode cX2_worth 152 = .ok (.getfield 24, 3) := by decide +kernel
theorem dX2_worth_155 : decode cX2_worth 155 = .ok (.arraylength, 1) := by decide +kernel
theorem dX2_worth_156 : decode cX2_worth 156 = .ok (.if_icmp .le 5, 3) := by decide +kernel
theorem dX2_worth_159 : decode cX2_worth 159 = .ok (.iconst 0, 1) := by decide +kernel
theorem dX2_worth_160 : decode cX2_worth 160 = .ok (.ireturn, 1) := by decide +kernel
theorem dX2_worth_161 : decode cX2_worth 161 = .ok (.aload_n 0, 1) := by decide +kernel
theorem dX2_worth_162 : decode cX2_worth 162 = .ok (.getfield 24, 3) := by decide +kernel
theorem dX2_worth_165 : decode cX2_worth 165 = .ok (.iload_n 3, 1) := by decide +kernel
theorem dX2_worth_166 : decode cX2_worth 166 = .ok (.iconst 2, 1) := by decide +kernel
theorem dX2_worth_167 : decode cX2_worth 167 = .ok (.isub, 1) := by decide +kernel
theorem dX2_worth_168 : decode cX2_worth 168 = .ok (.iaload, 1) := by decide +kernel
theorem dX2_worth_169 : decode cX2_worth 169 = .ok (.istore 7, 2) := by decide +kernel
theorem dX2_worth_171 : decode cX2_worth 171 = .ok (.aload_n 0, 1) := by decide +kernel
theorem dX2_worth_172 : decode cX2_worth 172 = .ok (.getfield 24, 3) := by decide +kernel
theorem dX2_worth_175 : decode cX2_worth 175 = .ok (.iload_n 3, 1) := by decide +kernel
theorem dX2_worth_176 : decode cX2_worth 176 = .ok (.iconst 1, 1) := by decide +kernel
theorem dX2_worth_177 : decode cX2_worth 177 = .ok (.isub, 1) := by decide +kernel
theorem dX2_worth_178 : decode cX2_worth 178 = .ok (.iaload, 1) := by decide +kernel
theorem dX2_worth_179 : decode cX2_worth 179 = .ok (.istore 8, 2) := by decide +kernel
theorem dX2_worth_181 : decode cX2_worth 181 = .ok (.iload 5, 2) := by decide +kernel
theorem dX2_worth_183 : decode cX2_worth 183 = .ok (.bipush 47, 2) := by decide +kernel
theorem dX2_worth_185 : decode cX2_worth 185 = .ok (.if_icmp .ne 10, 3) := by decide +kernel
theorem dX2_worth_188 : decode cX2_worth 188 = .ok (.iload 8, 2) := by decide +kernel
theorem dX2_worth_190 : decode cX2_worth 190 = .ok (.ifCond .ne 5, 3) := by decide +kernel
theorem dX2_worth_193 : decode cX2_worth 193 = .ok (.iconst 0, 1) := by decide +kernel
theorem dX2_worth_194 : decode cX2_worth 194 = .ok (.ireturn, 1) := by decide +kernel
theorem dX2_worth_195 : decode cX2_worth 195 = .ok (.iload 5, 2) := by decide +kernel
theorem dX2_worth_197 : decode cX2_worth 197 = .ok (.iconst 3, 1) := by decide +kernel
theorem dX2_worth_198 : decode cX2_worth 198 = .ok (.if_icmp .ne 23, 3) := by decide +kernel
theorem dX2_worth_201 : decode cX2_worth 201 = .ok (.iinc 3 (-2), 3) := by decide +kernel
theorem dX2_worth_204 : decode cX2_worth 204 = .ok (.iload 7, 2) := by decide +kernel
theorem dX2_worth_206 : decode cX2_worth 206 = .ok (.iload 8, 2) := by decide +kernel
theorem dX2_worth_208 : decode cX2_worth 208 = .ok (.if_icmp .ge 7, 3) := by decide +kernel
theorem dX2_worth_211 : decode cX2_worth 211 = .ok (.iload_n 2, 1) := by decide +kernel
theorem dX2_worth_212 : decode cX2_worth 212 = .ok (.goto 5, 3) := by decide +kernel
theorem dX2_worth_215 : decode cX2_worth 215 = .ok (.iload 6, 2) := by decide +kernel
theorem dX2_worth_217 : decode cX2_worth 217 = .ok (.istore_n 2, 1) := by decide +kernel
theorem dX2_worth_218 : decode cX2_worth 218 = .ok (.goto 23, 3) := by decide +kernel
theorem dX2_worth_221 : decode cX2_worth 221 = .ok (.iinc 3 (-1), 3) := by decide +kernel
theorem dX2_worth_224 : decode cX2_worth 224 = .ok (.aload_n 0, 1) := by decide +kernel
theorem dX2_worth_225 : decode cX2_worth 225 = .ok (.getfield 24, 3) := by decide +kernel
theorem dX2_worth_228 : decode cX2_worth 228 = .ok (.iload_n 3, 1) := by decide +kernel
theorem dX2_worth_229 : decode cX2_worth 229 = .ok (.iconst 1, 1) := by decide +kernel
theorem dX2_worth_230 : decode cX2_worth 230 = .ok (.isub, 1) := by decide +kernel
theorem dX2_worth_231 : decode cX2_worth 231 = .ok (.iload 5, 2) := by decide +kernel
theorem dX2_worth_233 : decode cX2_worth 233 = .ok (.iload 7, 2) := by decide +kernel
theorem dX2_worth_235 : decode cX2_worth 235 = .ok (.iload 8, 2) := by decide +kernel
theorem dX2_worth_237 : decode cX2_worth 237 = .ok (.invokestatic 61, 3) := by decide +kernel
theorem dX2_worth_240 : decode cX2_worth 240 = .ok (.iastore, 1) := by decide +kernel
theorem dX2_worth_241 : decode cX2_worth 241 = .ok (.iinc 4 1, 3) := by decide +kernel
theorem dX2_worth_244 : decode cX2_worth 244 = .ok (.goto (-230), 3) := by decide +kernel
theorem dX2_worth_247 : decode cX2_worth 247 = .ok (.iconst 0, 1) := by decide +kernel
theorem dX2_worth_248 : decode cX2_worth 248 = .ok (.ireturn, 1) := by decide +kernel
theorem dX2_reckoned_0 : decode cX2_reckoned 0 = .ok (.iload_n 0, 1) := by decide +kernel
theorem dX2_reckoned_1 : decode cX2_reckoned 1 = .ok (.tableswitch 63 42 47 #[47, 39, 63, 43, 63, 51], 39) := by decide +kernel
theorem dX2_reckoned_40 : decode cX2_reckoned 40 = .ok (.iload_n 1, 1) := by decide +kernel
theorem dX2_reckoned_41 : decode cX2_reckoned 41 = .ok (.iload_n 2, 1) := by decide +kernel
theorem dX2_reckoned_42 : decode cX2_reckoned 42 = .ok (.iadd, 1) := by decide +kernel
theorem dX2_reckoned_43 : decode cX2_reckoned 43 = .ok (.ireturn, 1) := by decide +kernel
theorem dX2_reckoned_44 : decode cX2_reckoned 44 = .ok (.iload_n 1, 1) := by decide +kernel
theorem dX2_reckoned_45 : decode cX2_reckoned 45 = .ok (.iload_n 2, 1) := by decide +kernel
theorem dX2_reckoned_46 : decode cX2_reckoned 46 = .ok (.isub, 1) := by decide +kernel
theorem dX2_reckoned_47 : decode cX2_reckoned 47 = .ok (.ireturn, 1) := by decide +kernel
theorem dX2_reckoned_48 : decode cX2_reckoned 48 = .ok (.iload_n 1, 1) := by decide +kernel
theorem dX2_reckoned_49 : decode cX2_reckoned 49 = .ok (.iload_n 2, 1) := by decide +kernel
theorem dX2_reckoned_50 : decode cX2_reckoned 50 = .ok (.imul, 1) := by decide +kernel
theorem dX2_reckoned_51 : decode cX2_reckoned 51 = .ok (.ireturn, 1) := by decide +kernel
theorem dX2_reckoned_52 : decode cX2_reckoned 52 = .ok (.iload_n 2, 1) := by decide +kernel
theorem dX2_reckoned_53 : decode cX2_reckoned 53 = .ok (.ifCond .ne 7, 3) := by decide +kernel
theorem dX2_reckoned_56 : decode cX2_reckoned 56 = .ok (.iconst 0, 1) := by decide +kernel
theorem dX2_reckoned_57 : decode cX2_reckoned 57 = .ok (.goto 6, 3) := by decide +kernel
theorem dX2_reckoned_60 : decode cX2_reckoned 60 = .ok (.iload_n 1, 1) := by decide +kernel
theorem dX2_reckoned_61 : decode cX2_reckoned 61 = .ok (.iload_n 2, 1) := by decide +kernel
theorem dX2_reckoned_62 : decode cX2_reckoned 62 = .ok (.idiv, 1) := by decide +kernel
theorem dX2_reckoned_63 : decode cX2_reckoned 63 = .ok (.ireturn, 1) := by decide +kernel
theorem dX2_reckoned_64 : decode cX2_reckoned 64 = .ok (.iconst 0, 1) := by decide +kernel
theorem dX2_reckoned_65 : decode cX2_reckoned 65 = .ok (.ireturn, 1) := by decide +kernel
theorem dX3_init_0 : decode cX3_init 0 = .ok (.aload_n 0, 1) := by decide +kernel
theorem dX3_init_1 : decode cX3_init 1 = .ok (.invokespecial 3, 3) := by decide +kernel
theorem dX3_init_4 : decode cX3_init 4 = .ok (.aload_n 0, 1) := by decide +kernel
theorem dX3_init_5 : decode cX3_init 5 = .ok (.aload_n 1, 1) := by decide +kernel
theorem dX3_init_6 : decode cX3_init 6 = .ok (.putfield 9, 3) := by decide +kernel
theorem dX3_init_9 : decode cX3_init 9 = .ok (.aload_n 0, 1) := by decide +kernel
theorem dX3_init_10 : decode cX3_init 10 = .ok (.aload_n 2, 1) := by decide +kernel
theorem dX3_init_11 : decode cX3_init 11 = .ok (.putfield 15, 3) := by decide +kernel
theorem dX3_init_14 : decode cX3_init 14 = .ok (.return_, 1) := by decide +kernel
theorem dX3_peopleAbove_0 : decode cX3_peopleAbove 0 = .ok (.iconst 0, 1) := by decide +kernel
theorem dX3_peopleAbove_1 : decode cX3_peopleAbove 1 = .ok (.istore_n 3, 1) := by decide +kernel
theorem dX3_peopleAbove_2 : decode cX3_peopleAbove 2 = .ok (.iconst 0, 1) := by decide +kernel
theorem dX3_peopleAbove_3 : decode cX3_peopleAbove 3 = .ok (.istore 4, 2) := by decide +kernel
theorem dX3_peopleAbove_5 : decode cX3_peopleAbove 5 = .ok (.iload 4, 2) := by decide +kernel
theorem dX3_peopleAbove_7 : decode cX3_peopleAbove 7 = .ok (.aload_n 0, 1) := by decide +kernel
theorem dX3_peopleAbove_8 : decode cX3_peopleAbove 8 = .ok (.getfield 9, 3) := by decide +kernel
theorem dX3_peopleAbove_11 : decode cX3_peopleAbove 11 = .ok (.getfield 19, 3) := by decide +kernel
theorem dX3_peopleAbove_14 : decode cX3_peopleAbove 14 = .ok (.if_icmp .ge 32, 3) := by decide +kernel
theorem dX3_peopleAbove_17 : decode cX3_peopleAbove 17 = .ok (.aload_n 1, 1) := by decide +kernel
theorem dX3_peopleAbove_18 : decode cX3_peopleAbove 18 = .ok (.iconst 3, 1) := by decide +kernel
theorem dX3_peopleAbove_19 : decode cX3_peopleAbove 19 = .ok (.iload 4, 2) := by decide +kernel
theorem dX3_peopleAbove_21 : decode cX3_peopleAbove 21 = .ok (.invokevirtual 27, 3) := by decide +kernel
theorem dX3_peopleAbove_24 : decode cX3_peopleAbove 24 = .ok (.aload_n 1, 1) := by decide +kernel
theorem dX3_peopleAbove_25 : decode cX3_peopleAbove 25 = .ok (.iconst 3, 1) := by decide +kernel
theorem dX3_peopleAbove_26 : decode cX3_peopleAbove 26 = .ok (.iload_n 2, 1) := by decide +kernel
theorem dX3_peopleAbove_27 : decode cX3_peopleAbove 27 = .ok (.invokevirtual 27, 3) := by decide +kernel
theorem dX3_peopleAbove_30 : decode cX3_peopleAbove 30 = .ok (.if_icmp .ge 10, 3) := by decide +kernel
theorem dX3_peopleAbove_33 : decode cX3_peopleAbove 33 = .ok (.iload_n 3, 1) := by decide +kernel
theorem dX3_peopleAbove_34 : decode cX3_peopleAbove 34 = .ok (.iconst 1, 1) := by decide +kernel
theorem dX3_peopleAbove_35 : decode cX3_peopleAbove 35 = .ok (.iload 4, 2) := by decide +kernel
theorem dX3_peopleAbove_37 : decode cX3_peopleAbove 37 = .ok (.ishl, 1) := by decide +kernel
theorem dX3_peopleAbove_38 : decode cX3_peopleAbove 38 = .ok (.ior, 1) := by decide +kernel
theorem dX3_peopleAbove_39 : decode cX3_peopleAbove 39 = .ok (.istore_n 3, 1) := by decide +kernel
theorem dX3_peopleAbove_40 : decode cX3_peopleAbove 40 = .ok (.iinc 4 1, 3) := by decide +kernel
theorem dX3_peopleAbove_43 : decode cX3_peopleAbove 43 = .ok (.goto (-38), 3) := by decide +kernel
theorem dX3_peopleAbove_46 : decode cX3_peopleAbove 46 = .ok (.iload_n 3, 1) := by decide +kernel
theorem dX3_peopleAbove_47 : decode cX3_peopleAbove 47 = .ok (.ireturn, 1) := by decide +kernel
theorem dX3_rungsFor_0 : decode cX3_rungsFor 0 = .ok (.iconst 0, 1) := by decide +kernel
theorem dX3_rungsFor_1 : decode cX3_rungsFor 1 = .ok (.istore_n 3, 1) := by decide +kernel
theorem dX3_rungsFor_2 : decode cX3_rungsFor 2 = .ok (.iconst 0, 1) := by decide +kernel
theorem dX3_rungsFor_3 : decode cX3_rungsFor 3 = .ok (.istore 4, 2) := by decide +kernel
theorem dX3_rungsFor_5 : decode cX3_rungsFor 5 = .ok (.iload 4, 2) := by decide +kernel
theorem dX3_rungsFor_7 : decode cX3_rungsFor 7 = .ok (.aload_n 0, 1) := by decide +kernel
theorem dX3_rungsFor_8 : decode cX3_rungsFor 8 = .ok (.getfield 9, 3) := by decide +kernel
theorem dX3_rungsFor_11 : decode cX3_rungsFor 11 = .ok (.getfield 31, 3) := by decide +kernel
theorem dX3_rungsFor_14 : decode cX3_rungsFor 14 = .ok (.if_icmp .ge 30, 3) := by decide +kernel
theorem dX3_rungsFor_17 : decode cX3_rungsFor 17 = .ok (.aload_n 0, 1) := by decide +kernel
theorem dX3_rungsFor_18 : decode cX3_rungsFor 18 = .ok (.getfield 15, 3) := by decide +kernel
theorem dX3_rungsFor_21 : decode cX3_rungsFor 21 = .ok (.aload_n 1, 1) := by decide +kernel
theorem dX3_rungsFor_22 : decode cX3_rungsFor 22 = .ok (.iload 4, 2) := by decide +kernel
theorem dX3_rungsFor_24 : decode cX3_rungsFor 24 = .ok (.iload_n 2, 1) := by decide +kernel
theorem dX3_rungsFor_25 : decode cX3_rungsFor 25 = .ok (.invokevirtual 46, 3) := by decide +kernel
theorem dX3_rungsFor_28 : decode cX3_rungsFor 28 = .ok (.ifCond .eq 10, 3) := by decide +kernel
theorem dX3_rungsFor_31 : decode cX3_rungsFor 31 = .ok (.iload_n 3, 1) := by decide +kernel
theorem dX3_rungsFor_32 : decode cX3_rungsFor 32 = .ok (.iconst 1, 1) := by decide +kernel
theorem dX3_rungsFor_33 : decode cX3_rungsFor 33 = .ok (.iload 4, 2) := by decide +kernel
theorem dX3_rungsFor_35 : decode cX3_rungsFor 35 = .ok (.ishl, 1) := by decide +kernel
theorem dX3_rungsFor_36 : decode cX3_rungsFor 36 = .ok (.ior, 1) := by decide +kernel
theorem dX3_rungsFor_37 : decode cX3_rungsFor 37 = .ok (.istore_n 3, 1) := by decide +kernel
theorem dX3_rungsFor_38 : decode cX3_rungsFor 38 = .ok (.iinc 4 1, 3) := by decide +kernel
theorem dX3_rungsFor_41 : decode cX3_rungsFor 41 = .ok (.goto (-36), 3) := by decide +kernel
theorem dX3_rungsFor_44 : decode cX3_rungsFor 44 = .ok (.iload_n 3, 1) := by decide +kernel
theorem dX3_rungsFor_45 : decode cX3_rungsFor 45 = .ok (.ireturn, 1) := by decide +kernel
theorem dX3_blockedTo_0 : decode cX3_blockedTo 0 = .ok (.aload_n 1, 1) := by decide +kernel
theorem dX3_blockedTo_1 : decode cX3_blockedTo 1 = .ok (.iconst 3, 1) := by decide +kernel
theorem dX3_blockedTo_2 : decode cX3_blockedTo 2 = .ok (.iload_n 2, 1) := by decide +kernel
theorem dX3_blockedTo_3 : decode cX3_blockedTo 3 = .ok (.invokevirtual 27, 3) := by decide +kernel
theorem dX3_blockedTo_6 : decode cX3_blockedTo 6 = .ok (.istore 4, 2) := by decide +kernel
theorem dX3_blockedTo_8 : decode cX3_blockedTo 8 = .ok (.iconst 0, 1) := by decide +kernel
theorem dX3_blockedTo_9 : decode cX3_blockedTo 9 = .ok (.istore 5, 2) := by decide +kernel
theorem dX3_blockedTo_11 : decode cX3_blockedTo 11 = .ok (.iload 4, 2) := by decide +kernel
theorem dX3_blockedTo_13 : decode cX3_blockedTo 13 = .ok (.iload_n 3, 1) := by decide +kernel
theorem dX3_blockedTo_14 : decode cX3_blockedTo 14 = .ok (.invokestatic 50, 3) := by decide +kernel
theorem dX3_blockedTo_17 : decode cX3_blockedTo 17 = .ok (.istore 6, 2) := by decide +kernel
theorem dX3_blockedTo_19 : decode cX3_blockedTo 19 = .ok (.iload 6, 2) := by decide +kernel
theorem dX3_blockedTo_21 : decode cX3_blockedTo 21 = .ok (.iload 4, 2) := by decide +kernel
theorem dX3_blockedTo_23 : decode cX3_blockedTo 23 = .ok (.iload_n 3, 1) := by decide +kernel
theorem dX3_blockedTo_24 : decode cX3_blockedTo 24 = .ok (.invokestatic 55, 3) := by decide +kernel
theorem dX3_blockedTo_27 : decode cX3_blockedTo 27 = .ok (.if_icmp .gt 46, 3) := by decide +kernel
theorem dX3_blockedTo_30 : decode cX3_blockedTo 30 = .ok (.iload 6, 2) := by decide +kernel
theorem dX3_blockedTo_32 : decode cX3_blockedTo 32 = .ok (.iload 4, 2) := by decide +kernel
theorem dX3_blockedTo_34 : decode cX3_blockedTo 34 = .ok (.if_icmp .eq 33, 3) := by decide +kernel
theorem dX3_blockedTo_37 : decode cX3_blockedTo 37 = .ok (.aload_n 0, 1) := by decide +kernel
theorem dX3_blockedTo_38 : decode cX3_blockedTo 38 = .ok (.getfield 15, 3) := by decide +kernel
theorem dX3_blockedTo_41 : decode cX3_blockedTo 41 = .ok (.aload_n 1, 1) := by decide +kernel
theorem dX3_blockedTo_42 : decode cX3_blockedTo 42 = .ok (.iload 6, 2) := by decide +kernel
theorem dX3_blockedTo_44 : decode cX3_blockedTo 44 = .ok (.aload_n 0, 1) := by decide +kernel
theorem dX3_blockedTo_45 : decode cX3_blockedTo 45 = .ok (.getfield 9, 3) := by decide +kernel
theorem dX3_blockedTo_48 : decode cX3_blockedTo 48 = .ok (.iload_n 2, 1) := by decide +kernel
theorem dX3_blockedTo_49 : decode cX3_blockedTo 49 = .ok (.invokevirtual 58, 3) := by decide +kernel
theorem dX3_blockedTo_52 : decode cX3_blockedTo 52 = .ok (.invokevirtual 46, 3) := by decide +kernel
theorem dX3_blockedTo_55 : decode cX3_blockedTo 55 = .ok (.ifCond .ne 12, 3) := by decide +kernel
theorem dX3_blockedTo_58 : decode cX3_blockedTo 58 = .ok (.iload 5, 2) := by decide +kernel
theorem dX3_blockedTo_60 : decode cX3_blockedTo 60 = .ok (.iconst 1, 1) := by decide +kernel
theorem dX3_blockedTo_61 : decode cX3_blockedTo 61 = .ok (.iload 6, 2) := by decide +kernel
theorem dX3_blockedTo_63 : decode cX3_blockedTo 63 = .ok (.ishl, 1) := by decide +kernel
theorem dX3_blockedTo_64 : decode cX3_blockedTo 64 = .ok (.ior, 1) := by decide +kernel
theorem dX3_blockedTo_65 : decode cX3_blockedTo 65 = .ok (.istore 5, 2) := by decide +kernel
theorem dX3_blockedTo_67 : decode cX3_blockedTo 67 = .ok (.iinc 6 1, 3) := by decide +kernel
theorem dX3_blockedTo_70 : decode cX3_blockedTo 70 = .ok (.goto (-51), 3) := by decide +kernel
theorem dX3_blockedTo_73 : decode cX3_blockedTo 73 = .ok (.iload 5, 2) := by decide +kernel
theorem dX3_blockedTo_75 : decode cX3_blockedTo 75 = .ok (.ireturn, 1) := by decide +kernel
theorem dX4_init_0 : decode cX4_init 0 = .ok (.aload_n 0, 1) := by decide +kernel
theorem dX4_init_1 : decode cX4_init 1 = .ok (.invokespecial 5, 3) := by decide +kernel
theorem dX4_init_4 : decode cX4_init 4 = .ok (.aload_n 0, 1) := by decide +kernel
theorem dX4_init_5 : decode cX4_init 5 = .ok (.bipush 40, 2) := by decide +kernel
theorem dX4_init_7 : decode cX4_init 7 = .ok (.newarray .int, 2) := by decide +kernel
theorem dX4_init_9 : decode cX4_init 9 = .ok (.putfield 11, 3) := by decide +kernel
theorem dX4_init_12 : decode cX4_init 12 = .ok (.return_, 1) := by decide +kernel
theorem dX4_begin_0 : decode cX4_begin 0 = .ok (.aload_n 0, 1) := by decide +kernel
theorem dX4_begin_1 : decode cX4_begin 1 = .ok (.getfield 11, 3) := by decide +kernel
theorem dX4_begin_4 : decode cX4_begin 4 = .ok (.iconst 0, 1) := by decide +kernel
theorem dX4_begin_5 : decode cX4_begin 5 = .ok (.invokestatic 15, 3) := by decide +kernel
theorem dX4_begin_8 : decode cX4_begin 8 = .ok (.iconst 0, 1) := by decide +kernel
theorem dX4_begin_9 : decode cX4_begin 9 = .ok (.istore_n 2, 1) := by decide +kernel
theorem dX4_begin_10 : decode cX4_begin 10 = .ok (.iload_n 2, 1) := by decide +kernel
theorem dX4_begin_11 : decode cX4_begin 11 = .ok (.iconst 5, 1) := by decide +kernel
theorem dX4_begin_12 : decode cX4_begin 12 = .ok (.if_icmp .ge 29, 3) := by decide +kernel
theorem dX4_begin_15 : decode cX4_begin 15 = .ok (.aload_n 0, 1) := by decide +kernel
theorem dX4_begin_16 : decode cX4_begin 16 = .ok (.iconst 3, 1) := by decide +kernel
theorem dX4_begin_17 : decode cX4_begin 17 = .ok (.iload_n 2, 1) := by decide +kernel
theorem dX4_begin_18 : decode cX4_begin 18 = .ok (.aload_n 1, 1) := by decide +kernel
theorem dX4_begin_19 : decode cX4_begin 19 = .ok (.iload_n 2, 1) := by decide +kernel
theorem dX4_begin_20 : decode cX4_begin 20 = .ok (.invokevirtual 21, 3) := by decide +kernel
theorem dX4_begin_23 : decode cX4_begin 23 = .ok (.invokevirtual 27, 3) := by decide +kernel
theorem dX4_begin_26 : decode cX4_begin 26 = .ok (.aload_n 0, 1) := by decide +kernel
theorem dX4_begin_27 : decode cX4_begin 27 = .ok (.bipush 8, 2) := by decide +kernel
theorem dX4_begin_29 : decode cX4_begin 29 = .ok (.iload_n 2, 1) := by decide +kernel
theorem dX4_begin_30 : decode cX4_begin 30 = .ok (.bipush (-2), 2) := by decide +kernel
theorem dX4_begin_32 : decode cX4_begin 32 = .ok (.invokevirtual 27, 3) := by decide +kernel
theorem dX4_begin_35 : decode cX4_begin 35 = .ok (.iinc 2 1, 3) := by decide +kernel
theorem dX4_begin_38 : decode cX4_begin 38 = .ok (.goto (-28), 3) := by decide +kernel
theorem dX4_begin_41 : decode cX4_begin 41 = .ok (.return_, 1) := by decide +kernel
theorem dX4_copyTo_0 : decode cX4_copyTo 0 = .ok (.iload_n 2, 1) := by decide +kernel
theorem dX4_copyTo_1 : decode cX4_copyTo 1 = .ok (.ifCond .lt 24, 3) := by decide +kernel
theorem dX4_copyTo_4 : decode cX4_copyTo 4 = .ok (.iload_n 2, 1) := by decide +kernel
theorem dX4_copyTo_5 : decode cX4_copyTo 5 = .ok (.aload_n 1, 1) := by decide +kernel
theorem dX4_copyTo_6 : decode cX4_copyTo 6 = .ok (.arraylength, 1) := by decide +kernel
theorem dX4_copyTo_7 : decode cX4_copyTo 7 = .ok (.bipush 40, 2) := by decide +kernel
theorem dX4_copyTo_9 : decode cX4_copyTo 9 = .ok (.isub, 1) := by decide +kernel
theorem dX4_copyTo_10 : decode cX4_copyTo 10 = .ok (.if_icmp .gt 15, 3) := by decide +kernel
theorem dX4_copyTo_13 : decode cX4_copyTo 13 = .ok (.aload_n 0, 1) := by decide +kernel
theorem dX4_copyTo_14 : decode cX4_copyTo 14 = .ok (.getfield 11, 3) := by decide +kernel
theorem dX4_copyTo_17 : decode cX4_copyTo 17 = .ok (.iconst 0, 1) := by decide +kernel
theorem dX4_copyTo_18 : decode cX4_copyTo 18 = .ok (.aload_n 1, 1) := by decide +kernel
theorem dX4_copyTo_19 : decode cX4_copyTo 19 = .ok (.iload_n 2, 1) := by decide +kernel
theorem dX4_copyTo_20 : decode cX4_copyTo 20 = .ok (.bipush 40, 2) := by decide +kernel
theorem dX4_copyTo_22 : decode cX4_copyTo 22 = .ok (.invokestatic 31, 3) := by decide +kernel
theorem dX4_copyTo_25 : decode cX4_copyTo 25 = .ok (.return_, 1) := by decide +kernel
theorem dX4_copyFrom_0 : decode cX4_copyFrom 0 = .ok (.iload_n 2, 1) := by decide +kernel
theorem dX4_copyFrom_1 : decode cX4_copyFrom 1 = .ok (.ifCond .lt 24, 3) := by decide +kernel
theorem dX4_copyFrom_4 : decode cX4_copyFrom 4 = .ok (.iload_n 2, 1) := by decide +kernel
theorem dX4_copyFrom_5 : decode cX4_copyFrom 5 = .ok (.aload_n 1, 1) := by decide +kernel
theorem dX4_copyFrom_6 : decode cX4_copyFrom 6 = .ok (.arraylength, 1) := by decide +kernel
theorem dX4_copyFrom_7 : decode cX4_copyFrom 7 = .ok (.bipush 40, 2) := by decide +kernel
theorem dX4_copyFrom_9 : decode cX4_copyFrom 9 = .ok (.isub, 1) := by decide +kernel
theorem dX4_copyFrom_10 : decode cX4_copyFrom 10 = .ok (.if_icmp .gt 15, 3) := by decide +kernel
theorem dX4_copyFrom_13 : decode cX4_copyFrom 13 = .ok (.aload_n 1, 1) := by decide +kernel
theorem dX4_copyFrom_14 : decode cX4_copyFrom 14 = .ok (.iload_n 2, 1) := by decide +kernel
theorem dX4_copyFrom_15 : decode cX4_copyFrom 15 = .ok (.aload_n 0, 1) := by decide +kernel
theorem dX4_copyFrom_16 : decode cX4_copyFrom 16 = .ok (.getfield 11, 3) := by decide +kernel
theorem dX4_copyFrom_19 : decode cX4_copyFrom 19 = .ok (.iconst 0, 1) := by decide +kernel
theorem dX4_copyFrom_20 : decode cX4_copyFrom 20 = .ok (.bipush 40, 2) := by decide +kernel
theorem dX4_copyFrom_22 : decode cX4_copyFrom 22 = .ok (.invokestatic 31, 3) := by decide +kernel
theorem dX4_copyFrom_25 : decode cX4_copyFrom 25 = .ok (.return_, 1) := by decide +kernel
theorem dX4_of_0 : decode cX4_of 0 = .ok (.aload_n 0, 1) := by decide +kernel
theorem dX4_of_1 : decode cX4_of 1 = .ok (.getfield 11, 3) := by decide +kernel
theorem dX4_of_4 : decode cX4_of 4 = .ok (.iload_n 1, 1) := by decide +kernel
theorem dX4_of_5 : decode cX4_of 5 = .ok (.iload_n 2, 1) := by decide +kernel
theorem dX4_of_6 : decode cX4_of 6 = .ok (.iadd, 1) := by decide +kernel
theorem dX4_of_7 : decode cX4_of 7 = .ok (.invokestatic 37, 3) := by decide +kernel
theorem dX4_of_10 : decode cX4_of 10 = .ok (.ireturn, 1) := by decide +kernel
theorem dX4_put_0 : decode cX4_put 0 = .ok (.iload_n 1, 1) := by decide +kernel
theorem dX4_put_1 : decode cX4_put 1 = .ok (.iload_n 2, 1) := by decide +kernel
theorem dX4_put_2 : decode cX4_put 2 = .ok (.iadd, 1) := by decide +kernel
theorem dX4_put_3 : decode cX4_put 3 = .ok (.istore 4, 2) := by decide +kernel
theorem dX4_put_5 : decode cX4_put 5 = .ok (.iload 4, 2) := by decide +kernel
theorem dX4_put_7 : decode cX4_put 7 = .ok (.ifCond .lt 21, 3) := by decide +kernel
theorem dX4_put_10 : decode cX4_put 10 = .ok (.iload 4, 2) := by decide +kernel
theorem dX4_put_12 : decode cX4_put 12 = .ok (.aload_n 0, 1) := by decide +kernel
theorem dX4_put_13 : decode cX4_put 13 = .ok (.getfield 11, 3) := by decide +kernel
theorem dX4_put_16 : decode cX4_put 16 = .ok (.arraylength, 1) := by decide +kernel
theorem dX4_put_17 : decode cX4_put 17 = .ok (.if_icmp .ge 11, 3) := by decide +kernel
theorem dX4_put_20 : decode cX4_put 20 = .ok (.aload_n 0, 1) := by decide +kernel
theorem dX4_put_21 : decode cX4_put 21 = .ok (.getfield 11, 3) := by decide +kernel
theorem dX4_put_24 : decode cX4_put 24 = .ok (.iload 4, 2) := by decide +kernel
theorem dX4_put_26 : decode cX4_put 26 = .ok (.iload_n 3, 1) := by decide +kernel
theorem dX4_put_27 : decode cX4_put 27 = .ok (.iastore, 1) := by decide +kernel
theorem dX4_put_28 : decode cX4_put 28 = .ok (.return_, 1) := by decide +kernel
theorem dX4_minute_0 : decode cX4_minute 0 = .ok (.aload_n 0, 1) := by decide +kernel
theorem dX4_minute_1 : decode cX4_minute 1 = .ok (.getfield 11, 3) := by decide +kernel
theorem dX4_minute_4 : decode cX4_minute 4 = .ok (.iconst 0, 1) := by decide +kernel
theorem dX4_minute_5 : decode cX4_minute 5 = .ok (.iaload, 1) := by decide +kernel
theorem dX4_minute_6 : decode cX4_minute 6 = .ok (.ireturn, 1) := by decide +kernel
theorem dX4_nextMinute_0 : decode cX4_nextMinute 0 = .ok (.aload_n 0, 1) := by decide +kernel
theorem dX4_nextMinute_1 : decode cX4_nextMinute 1 = .ok (.getfield 11, 3) := by decide +kernel
theorem dX4_nextMinute_4 : decode cX4_nextMinute 4 = .ok (.iconst 0, 1) := by decide +kernel
theorem dX4_nextMinute_5 : decode cX4_nextMinute 5 = .ok (.dup2, 1) := by decide +kernel
theorem dX4_nextMinute_6 : decode cX4_nextMinute 6 = .ok (.iaload, 1) := by decide +kernel
theorem dX4_nextMinute_7 : decode cX4_nextMinute 7 = .ok (.iconst 1, 1) := by decide +kernel
theorem dX4_nextMinute_8 : decode cX4_nextMinute 8 = .ok (.iadd, 1) := by decide +kernel
theorem dX4_nextMinute_9 : decode cX4_nextMinute 9 = .ok (.iastore, 1) := by decide +kernel
theorem dX4_nextMinute_10 : decode cX4_nextMinute 10 = .ok (.return_, 1) := by decide +kernel
theorem dX4_addQuarrels_0 : decode cX4_addQuarrels 0 = .ok (.aload_n 0, 1) := by decide +kernel
theorem dX4_addQuarrels_1 : decode cX4_addQuarrels 1 = .ok (.getfield 11, 3) := by decide +kernel
theorem dX4_addQuarrels_4 : decode cX4_addQuarrels 4 = .ok (.iconst 1, 1) := by decide +kernel
theorem dX4_addQuarrels_5 : decode cX4_addQuarrels 5 = .ok (.ldc 45, 2) := by decide +kernel
theorem dX4_addQuarrels_7 : decode cX4_addQuarrels 7 = .ok (.aload_n 0, 1) := by decide +kernel
theorem dX4_addQuarrels_8 : decode cX4_addQuarrels 8 = .ok (.getfield 11, 3) := by decide +kernel
theorem dX4_addQuarrels_11 : decode cX4_addQuarrels 11 = .ok (.iconst 1, 1) := by decide +kernel
theorem dX4_addQuarrels_12 : decode cX4_addQuarrels 12 = .ok (.iaload, 1) := by decide +kernel
theorem dX4_addQuarrels_13 : decode cX4_addQuarrels 13 = .ok (.iload_n 1, 1) := by decide +kernel
theorem dX4_addQuarrels_14 : decode cX4_addQuarrels 14 = .ok (.iadd, 1) := by decide +kernel
theorem dX4_addQuarrels_15 : decode cX4_addQuarrels 15 = .ok (.invokestatic 46, 3) := by decide +kernel
theorem dX4_addQuarrels_18 : decode cX4_addQuarrels 18 = .ok (.iastore, 1) := by decide +kernel
theorem dX4_addQuarrels_19 : decode cX4_addQuarrels 19 = .ok (.return_, 1) := by decide +kernel
theorem dX4_isWhole_0 : decode cX4_isWhole 0 = .ok (.aload_n 0, 1) := by decide +kernel
theorem dX4_isWhole_1 : decode cX4_isWhole 1 = .ok (.getfield 11, 3) := by decide +kernel
theorem dX4_isWhole_4 : decode cX4_isWhole 4 = .ok (.iconst 2, 1) := by decide +kernel
theorem dX4_isWhole_5 : decode cX4_isWhole 5 = .ok (.iaload, 1) := by decide +kernel
theorem dX4_isWhole_6 : decode cX4_isWhole 6 = .ok (.iload_n 1, 1) := by decide +kernel
theorem dX4_isWhole_7 : decode cX4_isWhole 7 = .ok (.invokestatic 51, 3) := by decide +kernel
theorem dX4_isWhole_10 : decode cX4_isWhole 10 = .ok (.ifCond .ne 7, 3) := by decide +kernel
theorem dX4_isWhole_13 : decode cX4_isWhole 13 = .ok (.iconst 1, 1) := by decide +kernel
theorem dX4_isWhole_14 : decode cX4_isWhole 14 = .ok (.goto 4, 3) := by decide +kernel
theorem dX4_isWhole_17 : decode cX4_isWhole 17 = .ok (.iconst 0, 1) := by decide +kernel
theorem dX4_isWhole_18 : decode cX4_isWhole 18 = .ok (.ireturn, 1) := by decide +kernel
theorem dX4_makeWhole_0 : decode cX4_makeWhole 0 = .ok (.aload_n 0, 1) := by decide +kernel
theorem dX4_makeWhole_1 : decode cX4_makeWhole 1 = .ok (.getfield 11, 3) := by decide +kernel
theorem dX4_makeWhole_4 : decode cX4_makeWhole 4 = .ok (.iconst 2, 1) := by decide +kernel
theorem dX4_makeWhole_5 : decode cX4_makeWhole 5 = .ok (.dup2, 1) := by decide +kernel
theorem dX4_makeWhole_6 : decode cX4_makeWhole 6 = .ok (.iaload, 1) := by decide +kernel
theorem dX4_makeWhole_7 : decode cX4_makeWhole 7 = .ok (.iconst 1, 1) := by decide +kernel
theorem dX4_makeWhole_8 : decode cX4_makeWhole 8 = .ok (.iload_n 1, 1) := by decide +kernel
theorem dX4_makeWhole_9 : decode cX4_makeWhole 9 = .ok (.ishl, 1) := by decide +kernel
theorem dX4_makeWhole_10 : decode cX4_makeWhole 10 = .ok (.iconst (-1), 1) := by decide +kernel
theorem dX4_makeWhole_11 : decode cX4_makeWhole 11 = .ok (.ixor, 1) := by decide +kernel
theorem dX4_makeWhole_12 : decode cX4_makeWhole 12 = .ok (.iand, 1) := by decide +kernel
theorem dX4_makeWhole_13 : decode cX4_makeWhole 13 = .ok (.iastore, 1) := by decide +kernel
theorem dX4_makeWhole_14 : decode cX4_makeWhole 14 = .ok (.return_, 1) := by decide +kernel
theorem dX4_breakDown_0 : decode cX4_breakDown 0 = .ok (.aload_n 0, 1) := by decide +kernel
theorem dX4_breakDown_1 : decode cX4_breakDown 1 = .ok (.getfield 11, 3) := by decide +kernel
theorem dX4_breakDown_4 : decode cX4_breakDown 4 = .ok (.iconst 2, 1) := by decide +kernel
theorem dX4_breakDown_5 : decode cX4_breakDown 5 = .ok (.dup2, 1) := by decide +kernel
theorem dX4_breakDown_6 : decode cX4_breakDown 6 = .ok (.iaload, 1) := by decide +kernel
theorem dX4_breakDown_7 : decode cX4_breakDown 7 = .ok (.iconst 1, 1) := by decide +kernel
theorem dX4_breakDown_8 : decode cX4_breakDown 8 = .ok (.iload_n 1, 1) := by decide +kernel
theorem dX4_breakDown_9 : decode cX4_breakDown 9 = .ok (.ishl, 1) := by decide +kernel
theorem dX4_breakDown_10 : decode cX4_breakDown 10 = .ok (.ior, 1) := by decide +kernel
theorem dX4_breakDown_11 : decode cX4_breakDown 11 = .ok (.iastore, 1) := by decide +kernel
theorem dX4_breakDown_12 : decode cX4_breakDown 12 = .ok (.aload_n 0, 1) := by decide +kernel
theorem dX4_breakDown_13 : decode cX4_breakDown 13 = .ok (.bipush 28, 2) := by decide +kernel
theorem dX4_breakDown_15 : decode cX4_breakDown 15 = .ok (.iload_n 1, 1) := by decide +kernel
theorem dX4_breakDown_16 : decode cX4_breakDown 16 = .ok (.aload_n 0, 1) := by decide +kernel
theorem dX4_breakDown_17 : decode cX4_breakDown 17 = .ok (.bipush 28, 2) := by decide +kernel
theorem dX4_breakDown_19 : decode cX4_breakDown 19 = .ok (.iload_n 1, 1) := by decide +kernel
theorem dX4_breakDown_20 : decode cX4_breakDown 20 = .ok (.invokevirtual 41, 3) := by decide +kernel
theorem dX4_breakDown_23 : decode cX4_breakDown 23 = .ok (.iconst 1, 1) := by decide +kernel
theorem dX4_breakDown_24 : decode cX4_breakDown 24 = .ok (.iadd, 1) := by decide +kernel
theorem dX4_breakDown_25 : decode cX4_breakDown 25 = .ok (.invokevirtual 27, 3) := by decide +kernel
theorem dX4_breakDown_28 : decode cX4_breakDown 28 = .ok (.return_, 1) := by decide +kernel
theorem dX4_stopGoing_0 : decode cX4_stopGoing 0 = .ok (.aload_n 0, 1) := by decide +kernel
theorem dX4_stopGoing_1 : decode cX4_stopGoing 1 = .ok (.bipush 8, 2) := by decide +kernel
theorem dX4_stopGoing_3 : decode cX4_stopGoing 3 = .ok (.iload_n 1, 1) := by decide +kernel
theorem dX4_stopGoing_4 : decode cX4_stopGoing 4 = .ok (.bipush (-2), 2) := by decide +kernel
theorem dX4_stopGoing_6 : decode cX4_stopGoing 6 = .ok (.invokevirtual 27, 3) := by decide +kernel
theorem dX4_stopGoing_9 : decode cX4_stopGoing 9 = .ok (.aload_n 0, 1) := by decide +kernel
theorem dX4_stopGoing_10 : decode cX4_stopGoing 10 = .ok (.bipush 13, 2) := by decide +kernel
theorem dX4_stopGoing_12 : decode cX4_stopGoing 12 = .ok (.iload_n 1, 1) := by decide +kernel
theorem dX4_stopGoing_13 : decode cX4_stopGoing 13 = .ok (.iconst 0, 1) := by decide +kernel
theorem dX4_stopGoing_14 : decode cX4_stopGoing 14 = .ok (.invokevirtual 27, 3) := by decide +kernel
theorem dX4_stopGoing_17 : decode cX4_stopGoing 17 = .ok (.return_, 1) := by decide +kernel
theorem dX6_init_0 : decode cX6_init 0 = .ok (.aload_n 0, 1) := by decide +kernel
theorem dX6_init_1 : decode cX6_init 1 = .ok (.invokespecial 3, 3) := by decide +kernel
theorem dX6_init_4 : decode cX6_init 4 = .ok (.aload_n 0, 1) := by decide +kernel
theorem dX6_init_5 : decode cX6_init 5 = .ok (.bipush 20, 2) := by decide +kernel
theorem dX6_init_7 : decode cX6_init 7 = .ok (.newarray .int, 2) := by decide +kernel
theorem dX6_init_9 : decode cX6_init 9 = .ok (.putfield 11, 3) := by decide +kernel
theorem dX6_init_12 : decode cX6_init 12 = .ok (.aload_n 0, 1) := by decide +kernel
theorem dX6_init_13 : decode cX6_init 13 = .ok (.bipush 20, 2) := by decide +kernel
theorem dX6_init_15 : decode cX6_init 15 = .ok (.newarray .boolean, 2) := by decide +kernel
theorem dX6_init_17 : decode cX6_init 17 = .ok (.putfield 15, 3) := by decide +kernel
theorem dX6_init_20 : decode cX6_init 20 = .ok (.aload_n 0, 1) := by decide +kernel
theorem dX6_init_21 : decode cX6_init 21 = .ok (.iconst 0, 1) := by decide +kernel
theorem dX6_init_22 : decode cX6_init 22 = .ok (.putfield 19, 3) := by decide +kernel
theorem dX6_init_25 : decode cX6_init 25 = .ok (.aload_n 0, 1) := by decide +kernel
theorem dX6_init_26 : decode cX6_init 26 = .ok (.aload_n 1, 1) := by decide +kernel
theorem dX6_init_27 : decode cX6_init 27 = .ok (.putfield 23, 3) := by decide +kernel
theorem dX6_init_30 : decode cX6_init 30 = .ok (.return_, 1) := by decide +kernel
theorem dX6_add_0 : decode cX6_add 0 = .ok (.aload_n 0, 1) := by decide +kernel
theorem dX6_add_1 : decode cX6_add 1 = .ok (.getfield 19, 3) := by decide +kernel
theorem dX6_add_4 : decode cX6_add 4 = .ok (.ifCond .lt 27, 3) := by decide +kernel
theorem dX6_add_7 : decode cX6_add 7 = .ok (.aload_n 0, 1) := by decide +kernel
theorem dX6_add_8 : decode cX6_add 8 = .ok (.getfield 19, 3) := by decide +kernel
theorem dX6_add_11 : decode cX6_add 11 = .ok (.aload_n 0, 1) := by decide +kernel
theorem dX6_add_12 : decode cX6_add 12 = .ok (.getfield 11, 3) := by decide +kernel
theorem dX6_add_15 : decode cX6_add 15 = .ok (.arraylength, 1) := by decide +kernel
theorem dX6_add_16 : decode cX6_add 16 = .ok (.if_icmp .ge 15, 3) := by decide +kernel
theorem dX6_add_19 : decode cX6_add 19 = .ok (.aload_n 0, 1) := by decide +kernel
theorem dX6_add_20 : decode cX6_add 20 = .ok (.getfield 19, 3) := by decide +kernel
theorem dX6_add_23 : decode cX6_add 23 = .ok (.aload_n 0, 1) := by decide +kernel
theorem dX6_add_24 : decode cX6_add 24 = .ok (.getfield 15, 3) := by decide +kernel
theorem dX6_add_27 : decode cX6_add 27 = .ok (.arraylength, 1) := by decide +kernel
theorem dX6_add_28 : decode cX6_add 28 = .ok (.if_icmp .lt 5, 3) := by decide +kernel
theorem dX6_add_31 : decode cX6_add 31 = .ok (.iconst (-1), 1) := by decide +kernel
theorem dX6_add_32 : decode cX6_add 32 = .ok (.ireturn, 1) := by decide +kernel
theorem dX6_add_33 : decode cX6_add 33 = .ok (.aload_n 0, 1) := by decide +kernel
theorem dX6_add_34 : decode cX6_add 34 = .ok (.getfield 11, 3) := by decide +kernel
theorem dX6_add_37 : decode cX6_add 37 = .ok (.aload_n 0, 1) := by decide +kernel
theorem dX6_add_38 : decode cX6_add 38 = .ok (.getfield 19, 3) := by decide +kernel
theorem dX6_add_41 : decode cX6_add 41 = .ok (.iload_n 1, 1) := by decide +kernel
theorem dX6_add_42 : decode cX6_add 42 = .ok (.iastore, 1) := by decide +kernel
theorem dX6_add_43 : decode cX6_add 43 = .ok (.aload_n 0, 1) := by decide +kernel
theorem dX6_add_44 : decode cX6_add 44 = .ok (.getfield 15, 3) := by decide +kernel
theorem dX6_add_47 : decode cX6_add 47 = .ok (.aload_n 0, 1) := by decide +kernel
theorem dX6_add_48 : decode cX6_add 48 = .ok (.getfield 19, 3) := by decide +kernel
theorem dX6_add_51 : decode cX6_add 51 = .ok (.iload_n 2, 1) := by decide +kernel
theorem dX6_add_52 : decode cX6_add 52 = .ok (.bastore, 1) := by decide +kernel
theorem dX6_add_53 : decode cX6_add 53 = .ok (.aload_n 0, 1) := by decide +kernel
theorem dX6_add_54 : decode cX6_add 54 = .ok (.dup, 1) := by decide +kernel
theorem dX6_add_55 : decode cX6_add 55 = .ok (.getfield 19, 3) := by decide +kernel
theorem dX6_add_58 : decode cX6_add 58 = .ok (.iconst 1, 1) := by decide +kernel
theorem dX6_add_59 : decode cX6_add 59 = .ok (.iadd, 1) := by decide +kernel
theorem dX6_add_60 : decode cX6_add 60 = .ok (.putfield 19, 3) := by decide +kernel
theorem dX6_add_63 : decode cX6_add 63 = .ok (.aload_n 0, 1) := by decide +kernel
theorem dX6_add_64 : decode cX6_add 64 = .ok (.getfield 19, 3) := by decide +kernel
theorem dX6_add_67 : decode cX6_add 67 = .ok (.iconst 1, 1) := by decide +kernel
theorem dX6_add_68 : decode cX6_add 68 = .ok (.isub, 1) := by decide +kernel
theorem dX6_add_69 : decode cX6_add 69 = .ok (.ireturn, 1) := by decide +kernel
theorem dX6_clear_0 : decode cX6_clear 0 = .ok (.aload_n 0, 1) := by decide +kernel
theorem dX6_clear_1 : decode cX6_clear 1 = .ok (.getfield 19, 3) := by decide +kernel
theorem dX6_clear_4 : decode cX6_clear 4 = .ok (.istore_n 1, 1) := by decide +kernel
theorem dX6_clear_5 : decode cX6_clear 5 = .ok (.aload_n 0, 1) := by decide +kernel
theorem dX6_clear_6 : decode cX6_clear 6 = .ok (.iconst 0, 1) := by decide +kernel
theorem dX6_clear_7 : decode cX6_clear 7 = .ok (.putfield 19, 3) := by decide +kernel
theorem dX6_clear_10 : decode cX6_clear 10 = .ok (.iload_n 1, 1) := by decide +kernel
theorem dX6_clear_11 : decode cX6_clear 11 = .ok (.ireturn, 1) := by decide +kernel
theorem dX7_init_0 : decode cX7_init 0 = .ok (.aload_n 0, 1) := by decide +kernel
theorem dX7_init_1 : decode cX7_init 1 = .ok (.invokespecial 1, 3) := by decide +kernel
theorem dX7_init_4 : decode cX7_init 4 = .ok (.aload_n 0, 1) := by decide +kernel
theorem dX7_init_5 : decode cX7_init 5 = .ok (.sipush 1600, 3) := by decide +kernel
theorem dX7_init_8 : decode cX7_init 8 = .ok (.newarray .int, 2) := by decide +kernel
theorem dX7_init_10 : decode cX7_init 10 = .ok (.putfield 11, 3) := by decide +kernel
theorem dX7_init_13 : decode cX7_init 13 = .ok (.aload_n 0, 1) := by decide +kernel
theorem dX7_init_14 : decode cX7_init 14 = .ok (.bipush 120, 2) := by decide +kernel
theorem dX7_init_16 : decode cX7_init 16 = .ok (.newarray .int, 2) := by decide +kernel
theorem dX7_init_18 : decode cX7_init 18 = .ok (.putfield 15, 3) := by decide +kernel
theorem dX7_init_21 : decode cX7_init 21 = .ok (.aload_n 0, 1) := by decide +kernel
theorem dX7_init_22 : decode cX7_init 22 = .ok (.iconst 0, 1) := by decide +kernel
theorem dX7_init_23 : decode cX7_init 23 = .ok (.putfield 18, 3) := by decide +kernel
theorem dX7_init_26 : decode cX7_init 26 = .ok (.aload_n 0, 1) := by decide +kernel
theorem dX7_init_27 : decode cX7_init 27 = .ok (.iconst 0, 1) := by decide +kernel
theorem dX7_init_28 : decode cX7_init 28 = .ok (.putfield 22, 3) := by decide +kernel
theorem dX7_init_31 : decode cX7_init 31 = .ok (.aload_n 0, 1) := by decide +kernel
theorem dX7_init_32 : decode cX7_init 32 = .ok (.iconst 0, 1) := by decide +kernel
theorem dX7_init_33 : decode cX7_init 33 = .ok (.putfield 25, 3) := by decide +kernel
theorem dX7_init_36 : decode cX7_init 36 = .ok (.return_, 1) := by decide +kernel
theorem dX7_clear_0 : decode cX7_clear 0 = .ok (.aload_n 0, 1) := by decide +kernel
theorem dX7_clear_1 : decode cX7_clear 1 = .ok (.iconst 0, 1) := by decide +kernel
theorem dX7_clear_2 : decode cX7_clear 2 = .ok (.putfield 22, 3) := by decide +kernel
theorem dX7_clear_5 : decode cX7_clear 5 = .ok (.aload_n 0, 1) := by decide +kernel
theorem dX7_clear_6 : decode cX7_clear 6 = .ok (.iconst 0, 1) := by decide +kernel
theorem dX7_clear_7 : decode cX7_clear 7 = .ok (.putfield 25, 3) := by decide +kernel
theorem dX7_clear_10 : decode cX7_clear 10 = .ok (.return_, 1) := by decide +kernel
theorem dX7_remember_0 : decode cX7_remember 0 = .ok (.aload_n 1, 1) := by decide +kernel
theorem dX7_remember_1 : decode cX7_remember 1 = .ok (.aload_n 0, 1) := by decide +kernel
theorem dX7_remember_2 : decode cX7_remember 2 = .ok (.getfield 11, 3) := by decide +kernel
theorem dX7_remember_5 : decode cX7_remember 5 = .ok (.aload_n 0, 1) := by decide +kernel
theorem dX7_remember_6 : decode cX7_remember 6 = .ok (.getfield 18, 3) := by decide +kernel
theorem dX7_remember_9 : decode cX7_remember 9 = .ok (.bipush 40, 2) := by decide +kernel
theorem dX7_remember_11 : decode cX7_remember 11 = .ok (.imul, 1) := by decide +kernel
theorem dX7_remember_12 : decode cX7_remember 12 = .ok (.invokevirtual 34, 3) := by decide +kernel
theorem dX7_remember_15 : decode cX7_remember 15 = .ok (.aload_n 0, 1) := by decide +kernel
theorem dX7_remember_16 : decode cX7_remember 16 = .ok (.aload_n 0, 1) := by decide +kernel
theorem dX7_remember_17 : decode cX7_remember 17 = .ok (.getfield 18, 3) := by decide +kernel
theorem dX7_remember_20 : decode cX7_remember 20 = .ok (.iconst 1, 1) := by decide +kernel
theorem dX7_remember_21 : decode cX7_remember 21 = .ok (.iadd, 1) := by decide +kernel
theorem dX7_remember_22 : decode cX7_remember 22 = .ok (.bipush 40, 2) := by decide +kernel
theorem dX7_remember_24 : decode cX7_remember 24 = .ok (.if_icmp .ge 12, 3) := by decide +kernel
theorem dX7_remember_27 : decode cX7_remember 27 = .ok (.aload_n 0, 1) := by decide +kernel
theorem dX7_remember_28 : decode cX7_remember 28 = .ok (.getfield 18, 3) := by decide +kernel
theorem dX7_remember_31 : decode cX7_remember 31 = .ok (.iconst 1, 1) := by decide +kernel
theorem dX7_remember_32 : decode cX7_remember 32 = .ok (.iadd, 1) := by decide +kernel
theorem dX7_remember_33 : decode cX7_remember 33 = .ok (.goto 4, 3) := by decide +kernel
theorem dX7_remember_36 : decode cX7_remember 36 = .ok (.iconst 0, 1) := by decide +kernel
theorem dX7_remember_37 : decode cX7_remember 37 = .ok (.putfield 18, 3) := by decide +kernel
theorem dX7_remember_40 : decode cX7_remember 40 = .ok (.aload_n 0, 1) := by decide +kernel
theorem dX7_remember_41 : decode cX7_remember 41 = .ok (.bipush 40, 2) := by decide +kernel
theorem dX7_remember_43 : decode cX7_remember 43 = .ok (.aload_n 0, 1) := by decide +kernel
theorem dX7_remember_44 : decode cX7_remember 44 = .ok (.getfield 22, 3) := by decide +kernel
theorem dX7_remember_47 : decode cX7_remember 47 = .ok (.iconst 1, 1) := by decide +kernel
theorem dX7_remember_48 : decode cX7_remember 48 = .ok (.iadd, 1) := by decide +kernel
theorem dX7_remember_49 : decode cX7_remember 49 = .ok (.invokestatic 38, 3) := by decide +kernel
theorem dX7_remember_52 : decode cX7_remember 52 = .ok (.putfield 22, 3) := by decide +kernel
theorem dX7_remember_55 : decode cX7_remember 55 = .ok (.return_, 1) := by decide +kernel
theorem dX7_bringBack_0 : decode cX7_bringBack 0 = .ok (.aload_n 0, 1) := by decide +kernel
theorem dX7_bringBack_1 : decode cX7_bringBack 1 = .ok (.getfield 22, 3) := by decide +kernel
theorem dX7_bringBack_4 : decode cX7_bringBack 4 = .ok (.ifCond .gt 5, 3) := by decide +kernel
theorem dX7_bringBack_7 : decode cX7_bringBack 7 = .ok (.iconst 0, 1) := by decide +kernel
theorem dX7_bringBack_8 : decode cX7_bringBack 8 = .ok (.ireturn, 1) := by decide +kernel
theorem dX7_bringBack_9 : decode cX7_bringBack 9 = .ok (.aload_n 0, 1) := by decide +kernel
theorem dX7_bringBack_10 : decode cX7_bringBack 10 = .ok (.aload_n 0, 1) := by decide +kernel
theorem dX7_bringBack_11 : decode cX7_bringBack 11 = .ok (.getfield 18, 3) := by decide +kernel
theorem dX7_bringBack_14 : decode cX7_bringBack 14 = .ok (.ifCond .le 12, 3) := by decide +kernel
theorem dX7_bringBack_17 : decode cX7_bringBack 17 = .ok (.aload_n 0, 1) := by decide +kernel
theorem dX7_bringBack_18 : decode cX7_bringBack 18 = .ok (.getfield 18, 3) := by decide +kernel
theorem dX7_bringBack_21 : decode cX7_bringBack 21 = .ok (.iconst 1, 1) := by decide +kernel
theorem dX7_bringBack_22 : decode cX7_bringBack 22 = .ok (.isub, 1) := by decide +kernel
theorem dX7_bringBack_23 : decode cX7_bringBack 23 = .ok (.goto 5, 3) := by decide +kernel
theorem dX7_bringBack_26 : decode cX7_bringBack 26 = .ok (.bipush 39, 2) := by decide +kernel
theorem dX7_bringBack_28 : decode cX7_bringBack 28 = .ok (.putfield 18, 3) := by decide +kernel
theorem dX7_bringBack_31 : decode cX7_bringBack 31 = .ok (.aload_n 0, 1) := by decide +kernel
theorem dX7_bringBack_32 : decode cX7_bringBack 32 = .ok (.dup, 1) := by decide +kernel
theorem dX7_bringBack_33 : decode cX7_bringBack 33 = .ok (.getfield 22, 3) := by decide +kernel
theorem dX7_bringBack_36 : decode cX7_bringBack 36 = .ok (.iconst 1, 1) := by decide +kernel
theorem dX7_bringBack_37 : decode cX7_bringBack 37 = .ok (.isub, 1) := by decide +kernel
theorem dX7_bringBack_38 : decode cX7_bringBack 38 = .ok (.putfield 22, 3) := by decide +kernel
theorem dX7_bringBack_41 : decode cX7_bringBack 41 = .ok (.aload_n 1, 1) := by decide +kernel
theorem dX7_bringBack_42 : decode cX7_bringBack 42 = .ok (.aload_n 0, 1) := by decide +kernel
theorem dX7_bringBack_43 : decode cX7_bringBack 43 = .ok (.getfield 11, 3) := by decide +kernel
theorem dX7_bringBack_46 : decode cX7_bringBack 46 = .ok (.aload_n 0, 1) := by decide +kernel
theorem dX7_bringBack_47 : decode cX7_bringBack 47 = .ok (.getfield 18, 3) := by decide +kernel
theorem dX7_bringBack_50 : decode cX7_bringBack 50 = .ok (.bipush 40, 2) := by decide +kernel
theorem dX7_bringBack_52 : decode cX7_bringBack 52 = .ok (.imul, 1) := by decide +kernel
theorem dX7_bringBack_53 : decode cX7_bringBack 53 = .ok (.invokevirtual 44, 3) := by decide +kernel
theorem dX7_bringBack_56 : decode cX7_bringBack 56 = .ok (.iconst 1, 1) := by decide +kernel
theorem dX7_bringBack_57 : decode cX7_bringBack 57 = .ok (.ireturn, 1) := by decide +kernel
theorem dX7_holdIn_0 : decode cX7_holdIn 0 = .ok (.iload_n 1, 1) := by decide +kernel
theorem dX7_holdIn_1 : decode cX7_holdIn 1 = .ok (.ifCond .lt 8, 3) := by decide +kernel
theorem dX7_holdIn_4 : decode cX7_holdIn 4 = .ok (.iload_n 1, 1) := by decide +kernel
theorem dX7_holdIn_5 : decode cX7_holdIn 5 = .ok (.iconst 3, 1) := by decide +kernel
theorem dX7_holdIn_6 : decode cX7_holdIn 6 = .ok (.if_icmp .lt 5, 3) := by decide +kernel
theorem dX7_holdIn_9 : decode cX7_holdIn 9 = .ok (.iconst 0, 1) := by decide +kernel
theorem dX7_holdIn_10 : decode cX7_holdIn 10 = .ok (.ireturn, 1) := by decide +kernel
theorem dX7_holdIn_11 : decode cX7_holdIn 11 = .ok (.aload_n 2, 1) := by decide +kernel
theorem dX7_holdIn_12 : decode cX7_holdIn 12 = .ok (.aload_n 0, 1) := by decide +kernel
theorem dX7_holdIn_13 : decode cX7_holdIn 13 = .ok (.getfield 15, 3) := by decide +kernel
theorem dX7_holdIn_16 : decode cX7_holdIn 16 = .ok (.iload_n 1, 1) := by decide +kernel
theorem dX7_holdIn_17 : decode cX7_holdIn 17 = .ok (.bipush 40, 2) := by decide +kernel
theorem dX7_holdIn_19 : decode cX7_holdIn 19 = .ok (.imul, 1) := by decide +kernel
theorem dX7_holdIn_20 : decode cX7_holdIn 20 = .ok (.invokevirtual 34, 3) := by decide +kernel
theorem dX7_holdIn_23 : decode cX7_holdIn 23 = .ok (.aload_n 0, 1) := by decide +kernel
theorem dX7_holdIn_24 : decode cX7_holdIn 24 = .ok (.dup, 1) := by decide +kernel
theorem dX7_holdIn_25 : decode cX7_holdIn 25 = .ok (.getfield 25, 3) := by decide +kernel
theorem dX7_holdIn_28 : decode cX7_holdIn 28 = .ok (.iconst 1, 1) := by decide +kernel
theorem dX7_holdIn_29 : decode cX7_holdIn 29 = .ok (.iload_n 1, 1) := by decide +kernel
theorem dX7_holdIn_30 : decode cX7_holdIn 30 = .ok (.ishl, 1) := by decide +kernel
theorem dX7_holdIn_31 : decode cX7_holdIn 31 = .ok (.ior, 1) := by decide +kernel
theorem dX7_holdIn_32 : decode cX7_holdIn 32 = .ok (.putfield 25, 3) := by decide +kernel
theorem dX7_holdIn_35 : decode cX7_holdIn 35 = .ok (.iconst 1, 1) := by decide +kernel
theorem dX7_holdIn_36 : decode cX7_holdIn 36 = .ok (.ireturn, 1) := by decide +kernel
theorem dX7_goOnFrom_0 : decode cX7_goOnFrom 0 = .ok (.iload_n 1, 1) := by decide +kernel
theorem dX7_goOnFrom_1 : decode cX7_goOnFrom 1 = .ok (.ifCond .lt 19, 3) := by decide +kernel
theorem dX7_goOnFrom_4 : decode cX7_goOnFrom 4 = .ok (.iload_n 1, 1) := by decide +kernel
theorem dX7_goOnFrom_5 : decode cX7_goOnFrom 5 = .ok (.iconst 3, 1) := by decide +kernel
theorem dX7_goOnFrom_6 : decode cX7_goOnFrom 6 = .ok (.if_icmp .ge 14, 3) := by decide +kernel
theorem dX7_goOnFrom_9 : decode cX7_goOnFrom 9 = .ok (.aload_n 0, 1) := by decide +kernel
theorem dX7_goOnFrom_10 : decode cX7_goOnFrom 10 = .ok (.getfield 25, 3) := by decide +kernel
theorem dX7_goOnFrom_13 : decode cX7_goOnFrom 13 = .ok (.iload_n 1, 1) := by decide +kernel
theorem dX7_goOnFrom_14 : decode cX7_goOnFrom 14 = .ok (.invokestatic 47, 3) := by decide +kernel
theorem dX7_goOnFrom_17 : decode cX7_goOnFrom 17 = .ok (.ifCond .ne 5, 3) := by decide +kernel
theorem dX7_goOnFrom_20 : decode cX7_goOnFrom 20 = .ok (.iconst 0, 1) := by decide +kernel
theorem dX7_goOnFrom_21 : decode cX7_goOnFrom 21 = .ok (.ireturn, 1) := by decide +kernel
theorem dX7_goOnFrom_22 : decode cX7_goOnFrom 22 = .ok (.aload_n 2, 1) := by decide +kernel
theorem dX7_goOnFrom_23 : decode cX7_goOnFrom 23 = .ok (.aload_n 0, 1) := by decide +kernel
theorem dX7_goOnFrom_24 : decode cX7_goOnFrom 24 = .ok (.getfield 15, 3) := by decide +kernel
theorem dX7_goOnFrom_27 : decode cX7_goOnFrom 27 = .ok (.iload_n 1, 1) := by decide +kernel
theorem dX7_goOnFrom_28 : decode cX7_goOnFrom 28 = .ok (.bipush 40, 2) := by decide +kernel
theorem dX7_goOnFrom_30 : decode cX7_goOnFrom 30 = .ok (.imul, 1) := by decide +kernel
theorem dX7_goOnFrom_31 : decode cX7_goOnFrom 31 = .ok (.invokevirtual 44, 3) := by decide +kernel
theorem dX7_goOnFrom_34 : decode cX7_goOnFrom 34 = .ok (.aload_n 0, 1) := by decide +kernel
theorem dX7_goOnFrom_35 : decode cX7_goOnFrom 35 = .ok (.iconst 0, 1) := by decide +kernel
theorem dX7_goOnFrom_36 : decode cX7_goOnFrom 36 = .ok (.putfield 22, 3) := by decide +kernel
theorem dX7_goOnFrom_39 : decode cX7_goOnFrom 39 = .ok (.iconst 1, 1) := by decide +kernel
theorem dX7_goOnFrom_40 : decode cX7_goOnFrom 40 = .ok (.ireturn, 1) := by decide +kernel
theorem dX9_init_0 : decode cX9_init 0 = .ok (.aload_n 0, 1) := by decide +kernel
theorem dX9_init_1 : decode cX9_init 1 = .ok (.invokespecial 3, 3) := by decide +kernel
theorem dX9_init_4 : decode cX9_init 4 = .ok (.aload_n 0, 1) := by decide +kernel
theorem dX9_init_5 : decode cX9_init 5 = .ok (.bipush 8, 2) := by decide +kernel
theorem dX9_init_7 : decode cX9_init 7 = .ok (.putfield 9, 3) := by decide +kernel
theorem dX9_init_10 : decode cX9_init 10 = .ok (.aload_n 0, 1) := by decide +kernel
theorem dX9_init_11 : decode cX9_init 11 = .ok (.iconst 0, 1) := by decide +kernel
theorem dX9_init_12 : decode cX9_init 12 = .ok (.putfield 15, 3) := by decide +kernel
theorem dX9_init_15 : decode cX9_init 15 = .ok (.aload_n 0, 1) := by decide +kernel
theorem dX9_init_16 : decode cX9_init 16 = .ok (.iconst 0, 1) := by decide +kernel
theorem dX9_init_17 : decode cX9_init 17 = .ok (.putfield 18, 3) := by decide +kernel
theorem dX9_init_20 : decode cX9_init 20 = .ok (.aload_n 0, 1) := by decide +kernel
theorem dX9_init_21 : decode cX9_init 21 = .ok (.new 21, 3) := by decide +kernel
theorem dX9_init_24 : decode cX9_init 24 = .ok (.dup, 1) := by decide +kernel
theorem dX9_init_25 : decode cX9_init 25 = .ok (.invokespecial 23, 3) := by decide +kernel
theorem dX9_init_28 : decode cX9_init 28 = .ok (.putfield 24, 3) := by decide +kernel
theorem dX9_init_31 : decode cX9_init 31 = .ok (.aload_n 0, 1) := by decide +kernel
theorem dX9_init_32 : decode cX9_init 32 = .ok (.iconst 5, 1) := by decide +kernel
theorem dX9_init_33 : decode cX9_init 33 = .ok (.newarray .int, 2) := by decide +kernel
theorem dX9_init_35 : decode cX9_init 35 = .ok (.putfield 28, 3) := by decide +kernel
theorem dX9_init_38 : decode cX9_init 38 = .ok (.aload_n 0, 1) := by decide +kernel
theorem dX9_init_39 : decode cX9_init 39 = .ok (.iconst 5, 1) := by decide +kernel
theorem dX9_init_40 : decode cX9_init 40 = .ok (.newarray .int, 2) := by decide +kernel
theorem dX9_init_42 : decode cX9_init 42 = .ok (.putfield 32, 3) := by decide +kernel
theorem dX9_init_45 : decode cX9_init 45 = .ok (.aload_n 0, 1) := by decide +kernel
theorem dX9_init_46 : decode cX9_init 46 = .ok (.iconst 5, 1) := by decide +kernel
theorem dX9_init_47 : decode cX9_init 47 = .ok (.newarray .int, 2) := by decide +kernel
theorem dX9_init_49 : decode cX9_init 49 = .ok (.putfield 35, 3) := by decide +kernel
theorem dX9_init_52 : decode cX9_init 52 = .ok (.aload_n 0, 1) := by decide +kernel
theorem dX9_init_53 : decode cX9_init 53 = .ok (.iconst 5, 1) := by decide +kernel
theorem dX9_init_54 : decode cX9_init 54 = .ok (.newarray .int, 2) := by decide +kernel
theorem dX9_init_56 : decode cX9_init 56 = .ok (.putfield 38, 3) := by decide +kernel
theorem dX9_init_59 : decode cX9_init 59 = .ok (.aload_n 0, 1) := by decide +kernel
theorem dX9_init_60 : decode cX9_init 60 = .ok (.getfield 24, 3) := by decide +kernel
theorem dX9_init_63 : decode cX9_init 63 = .ok (.invokevirtual 41, 3) := by decide +kernel
theorem dX9_init_66 : decode cX9_init 66 = .ok (.return_, 1) := by decide +kernel
theorem dX9_clear_0 : decode cX9_clear 0 = .ok (.aload_n 0, 1) := by decide +kernel
theorem dX9_clear_1 : decode cX9_clear 1 = .ok (.bipush 8, 2) := by decide +kernel
theorem dX9_clear_3 : decode cX9_clear 3 = .ok (.putfield 9, 3) := by decide +kernel
theorem dX9_clear_6 : decode cX9_clear 6 = .ok (.aload_n 0, 1) := by decide +kernel
theorem dX9_clear_7 : decode cX9_clear 7 = .ok (.iconst 0, 1) := by decide +kernel
theorem dX9_clear_8 : decode cX9_clear 8 = .ok (.putfield 15, 3) := by decide +kernel
theorem dX9_clear_11 : decode cX9_clear 11 = .ok (.aload_n 0, 1) := by decide +kernel
theorem dX9_clear_12 : decode cX9_clear 12 = .ok (.iconst 0, 1) := by decide +kernel
theorem dX9_clear_13 : decode cX9_clear 13 = .ok (.putfield 18, 3) := by decide +kernel
theorem dX9_clear_16 : decode cX9_clear 16 = .ok (.aload_n 0, 1) := by decide +kernel
theorem dX9_clear_17 : decode cX9_clear 17 = .ok (.getfield 24, 3) := by decide +kernel
theorem dX9_clear_20 : decode cX9_clear 20 = .ok (.invokevirtual 41, 3) := by decide +kernel
theorem dX9_clear_23 : decode cX9_clear 23 = .ok (.return_, 1) := by decide +kernel
theorem dX9_addPerson_0 : decode cX9_addPerson 0 = .ok (.aload_n 0, 1) := by decide +kernel
theorem dX9_addPerson_1 : decode cX9_addPerson 1 = .ok (.getfield 15, 3) := by decide +kernel
theorem dX9_addPerson_4 : decode cX9_addPerson 4 = .ok (.ifCond .lt 62, 3) := by decide +kernel
theorem dX9_addPerson_7 : decode cX9_addPerson 7 = .ok (.aload_n 0, 1) := by decide +kernel
theorem dX9_addPerson_8 : decode cX9_addPerson 8 = .ok (.getfield 15, 3) := by decide +kernel
theorem dX9_addPerson_11 : decode cX9_addPerson 11 = .ok (.iconst 5, 1) := by decide +kernel
theorem dX9_addPerson_12 : decode cX9_addPerson 12 = .ok (.if_icmp .ge 54, 3) := by decide +kernel
theorem dX9_addPerson_15 : decode cX9_addPerson 15 = .ok (.aload_n 0, 1) := by decide +kernel
theorem dX9_addPerson_16 : decode cX9_addPerson 16 = .ok (.getfield 28, 3) := by decide +kernel
theorem dX9_addPerson_19 : decode cX9_addPerson 19 = .ok (.aload_n 0, 1) := by decide +kernel
theorem dX9_addPerson_20 : decode cX9_addPerson 20 = .ok (.getfield 15, 3) := by decide +kernel
theorem dX9_addPerson_23 : decode cX9_addPerson 23 = .ok (.iload_n 1, 1) := by decide +kernel
theorem dX9_addPerson_24 : decode cX9_addPerson 24 = .ok (.iastore, 1) := by decide +kernel
theorem dX9_addPerson_25 : decode cX9_addPerson 25 = .ok (.aload_n 0, 1) := by decide +kernel
theorem dX9_addPerson_26 : decode cX9_addPerson 26 = .ok (.getfield 32, 3) := by decide +kernel
theorem dX9_addPerson_29 : decode cX9_addPerson 29 = .ok (.aload_n 0, 1) := by decide +kernel
theorem dX9_addPerson_30 : decode cX9_addPerson 30 = .ok (.getfield 15, 3) := by decide +kernel
theorem dX9_addPerson_33 : decode cX9_addPerson 33 = .ok (.iload_n 2, 1) := by decide +kernel
theorem dX9_addPerson_34 : decode cX9_addPerson 34 = .ok (.iastore, 1) := by decide +kernel
theorem dX9_addPerson_35 : decode cX9_addPerson 35 = .ok (.aload_n 0, 1) := by decide +kernel
theorem dX9_addPerson_36 : decode cX9_addPerson 36 = .ok (.getfield 35, 3) := by decide +kernel
theorem dX9_addPerson_39 : decode cX9_addPerson 39 = .ok (.aload_n 0, 1) := by decide +kernel
theorem dX9_addPerson_40 : decode cX9_addPerson 40 = .ok (.getfield 15, 3) := by decide +kernel
theorem dX9_addPerson_43 : decode cX9_addPerson 43 = .ok (.iload_n 3, 1) := by decide +kernel
theorem dX9_addPerson_44 : decode cX9_addPerson 44 = .ok (.iastore, 1) := by decide +kernel
theorem dX9_addPerson_45 : decode cX9_addPerson 45 = .ok (.aload_n 0, 1) := by decide +kernel
theorem dX9_addPerson_46 : decode cX9_addPerson 46 = .ok (.getfield 38, 3) := by decide +kernel
theorem dX9_addPerson_49 : decode cX9_addPerson 49 = .ok (.aload_n 0, 1) := by decide +kernel
theorem dX9_addPerson_50 : decode cX9_addPerson 50 = .ok (.getfield 15, 3) := by decide +kernel
theorem dX9_addPerson_53 : decode cX9_addPerson 53 = .ok (.iload 4, 2) := by decide +kernel
theorem dX9_addPerson_55 : decode cX9_addPerson 55 = .ok (.iastore, 1) := by decide +kernel
theorem dX9_addPerson_56 : decode cX9_addPerson 56 = .ok (.aload_n 0, 1) := by decide +kernel
theorem dX9_addPerson_57 : decode cX9_addPerson 57 = .ok (.dup, 1) := by decide +kernel
theorem dX9_addPerson_58 : decode cX9_addPerson 58 = .ok (.getfield 15, 3) := by decide +kernel
theorem dX9_addPerson_61 : decode cX9_addPerson 61 = .ok (.iconst 1, 1) := by decide +kernel
theorem dX9_addPerson_62 : decode cX9_addPerson 62 = .ok (.iadd, 1) := by decide +kernel
theorem dX9_addPerson_63 : decode cX9_addPerson 63 = .ok (.putfield 15, 3) := by decide +kernel
theorem dX9_addPerson_66 : decode cX9_addPerson 66 = .ok (.return_, 1) := by decide +kernel
theorem dX9_become_0 : decode cX9_become 0 = .ok (.aload_n 0, 1) := by decide +kernel
theorem dX9_become_1 : decode cX9_become 1 = .ok (.aload_n 1, 1) := by decide +kernel
theorem dX9_become_2 : decode cX9_become 2 = .ok (.getfield 9, 3) := by decide +kernel
theorem dX9_become_5 : decode cX9_become 5 = .ok (.putfield 9, 3) := by decide +kernel
theorem dX9_become_8 : decode cX9_become 8 = .ok (.aload_n 0, 1) := by decide +kernel
theorem dX9_become_9 : decode cX9_become 9 = .ok (.aload_n 1, 1) := by decide +kernel
theorem dX9_become_10 : decode cX9_become 10 = .ok (.getfield 15, 3) := by decide +kernel
theorem dX9_become_13 : decode cX9_become 13 = .ok (.putfield 15, 3) := by decide +kernel
theorem dX9_become_16 : decode cX9_become 16 = .ok (.aload_n 0, 1) := by decide +kernel
theorem dX9_become_17 : decode cX9_become 17 = .ok (.aload_n 1, 1) := by decide +kernel
theorem dX9_become_18 : decode cX9_become 18 = .ok (.getfield 18, 3) := by decide +kernel
theorem dX9_become_21 : decode cX9_become 21 = .ok (.putfield 18, 3) := by decide +kernel
theorem dX9_become_24 : decode cX9_become 24 = .ok (.aload_n 0, 1) := by decide +kernel
theorem dX9_become_25 : decode cX9_become 25 = .ok (.getfield 24, 3) := by decide +kernel
theorem dX9_become_28 : decode cX9_become 28 = .ok (.aload_n 1, 1) := by decide +kernel
theorem dX9_become_29 : decode cX9_become 29 = .ok (.getfield 24, 3) := by decide +kernel
theorem dX9_become_32 : decode cX9_become 32 = .ok (.invokevirtual 44, 3) := by decide +kernel
theorem dX9_become_35 : decode cX9_become 35 = .ok (.aload_n 1, 1) := by decide +kernel
theorem dX9_become_36 : decode cX9_become 36 = .ok (.getfield 28, 3) := by decide +kernel
theorem dX9_become_39 : decode cX9_become 39 = .ok (.iconst 0, 1) := by decide +kernel
theorem dX9_become_40 : decode cX9_become 40 = .ok (.aload_n 0, 1) := by decide +kernel
theorem dX9_become_41 : decode cX9_become 41 = .ok (.getfield 28, 3) := by decide +kernel
theorem dX9_become_44 : decode cX9_become 44 = .ok (.iconst 0, 1) := by decide +kernel
theorem dX9_become_45 : decode cX9_become 45 = .ok (.iconst 5, 1) := by decide +kernel
theorem dX9_become_46 : decode cX9_become 46 = .ok (.invokestatic 48, 3) := by decide +kernel
theorem dX9_become_49 : decode cX9_become 49 = .ok (.aload_n 1, 1) := by decide +kernel
theorem dX9_become_50 : decode cX9_become 50 = .ok (.getfield 32, 3) := by decide +kernel
theorem dX9_become_53 : decode cX9_become 53 = .ok (.iconst 0, 1) := by decide +kernel
theorem dX9_become_54 : decode cX9_become 54 = .ok (.aload_n 0, 1) := by decide +kernel
theorem dX9_become_55 : decode cX9_become 55 = .ok (.getfield 32, 3) := by decide +kernel
theorem dX9_become_58 : decode cX9_become 58 = .ok (.iconst 0, 1) := by decide +kernel
theorem dX9_become_59 : decode cX9_become 59 = .ok (.iconst 5, 1) := by decide +kernel
theorem dX9_become_60 : decode cX9_become 60 = .ok (.invokestatic 48, 3) := by decide +kernel
theorem dX9_become_63 : decode cX9_become 63 = .ok (.aload_n 1, 1) := by decide +kernel
theorem dX9_become_64 : decode cX9_become 64 = .ok (.getfield 35, 3) := by decide +kernel
theorem dX9_become_67 : decode cX9_become 67 = .ok (.iconst 0, 1) := by decide +kernel
theorem dX9_become_68 : decode cX9_become 68 = .ok (.aload_n 0, 1) := by decide +kernel
theorem dX9_become_69 : decode cX9_become 69 = .ok (.getfield 35, 3) := by decide +kernel
theorem dX9_become_72 : decode cX9_become 72 = .ok (.iconst 0, 1) := by decide +kernel
theorem dX9_become_73 : decode cX9_become 73 = .ok (.iconst 5, 1) := by decide +kernel
theorem dX9_become_74 : decode cX9_become 74 = .ok (.invokestatic 48, 3) := by decide +kernel
theorem dX9_become_77 : decode cX9_become 77 = .ok (.aload_n 1, 1) := by decide +kernel
theorem dX9_become_78 : decode cX9_become 78 = .ok (.getfield 38, 3) := by decide +kernel
theorem dX9_become_81 : decode cX9_become 81 = .ok (.iconst 0, 1) := by decide +kernel
theorem dX9_become_82 : decode cX9_become 82 = .ok (.aload_n 0, 1) := by decide +kernel
theorem dX9_become_83 : decode cX9_become 83 = .ok (.getfield 38, 3) := by decide +kernel
theorem dX9_become_86 : decode cX9_become 86 = .ok (.iconst 0, 1) := by decide +kernel
theorem dX9_become_87 : decode cX9_become 87 = .ok (.iconst 5, 1) := by decide +kernel
theorem dX9_become_88 : decode cX9_become 88 = .ok (.invokestatic 48, 3) := by decide +kernel
theorem dX9_become_91 : decode cX9_become 91 = .ok (.return_, 1) := by decide +kernel
theorem dX9_hasPerson_0 : decode cX9_hasPerson 0 = .ok (.iload_n 1, 1) := by decide +kernel
theorem dX9_hasPerson_1 : decode cX9_hasPerson 1 = .ok (.ifCond .lt 15, 3) := by decide +kernel
theorem dX9_hasPerson_4 : decode cX9_hasPerson 4 = .ok (.iload_n 1, 1) := by decide +kernel
theorem dX9_hasPerson_5 : decode cX9_hasPerson 5 = .ok (.aload_n 0, 1) := by decide +kernel
theorem dX9_hasPerson_6 : decode cX9_hasPerson 6 = .ok (.getfield 15, 3) := by decide +kernel
theorem dX9_hasPerson_9 : decode cX9_hasPerson 9 = .ok (.if_icmp .ge 7, 3) := by decide +kernel
theorem dX9_hasPerson_12 : decode cX9_hasPerson 12 = .ok (.iconst 1, 1) := by decide +kernel
theorem dX9_hasPerson_13 : decode cX9_hasPerson 13 = .ok (.goto 4, 3) := by decide +kernel
theorem dX9_hasPerson_16 : decode cX9_hasPerson 16 = .ok (.iconst 0, 1) := by decide +kernel
theorem dX9_hasPerson_17 : decode cX9_hasPerson 17 = .ok (.ireturn, 1) := by decide +kernel
theorem dX9_hasRung_0 : decode cX9_hasRung 0 = .ok (.iload_n 1, 1) := by decide +kernel
theorem dX9_hasRung_1 : decode cX9_hasRung 1 = .ok (.ifCond .lt 15, 3) := by decide +kernel
theorem dX9_hasRung_4 : decode cX9_hasRung 4 = .ok (.iload_n 1, 1) := by decide +kernel
theorem dX9_hasRung_5 : decode cX9_hasRung 5 = .ok (.aload_n 0, 1) := by decide +kernel
theorem dX9_hasRung_6 : decode cX9_hasRung 6 = .ok (.getfield 9, 3) := by decide +kernel
theorem dX9_hasRung_9 : decode cX9_hasRung 9 = .ok (.if_icmp .ge 7, 3) := by decide +kernel
theorem dX9_hasRung_12 : decode cX9_hasRung 12 = .ok (.iconst 1, 1) := by decide +kernel
theorem dX9_hasRung_13 : decode cX9_hasRung 13 = .ok (.goto 4, 3) := by decide +kernel
theorem dX9_hasRung_16 : decode cX9_hasRung 16 = .ok (.iconst 0, 1) := by decide +kernel
theorem dX9_hasRung_17 : decode cX9_hasRung 17 = .ok (.ireturn, 1) := by decide +kernel
theorem dX9_hasAllRungsTold_0 : decode cX9_hasAllRungsTold 0 = .ok (.iconst 0, 1) := by decide +kernel
theorem dX9_hasAllRungsTold_1 : decode cX9_hasAllRungsTold 1 = .ok (.istore_n 1, 1) := by decide +kernel
theorem dX9_hasAllRungsTold_2 : decode cX9_hasAllRungsTold 2 = .ok (.iload_n 1, 1) := by decide +kernel
theorem dX9_hasAllRungsTold_3 : decode cX9_hasAllRungsTold 3 = .ok (.aload_n 0, 1) := by decide +kernel
theorem dX9_hasAllRungsTold_4 : decode cX9_hasAllRungsTold 4 = .ok (.getfield 15, 3) := by decide +kernel
theorem dX9_hasAllRungsTold_7 : decode cX9_hasAllRungsTold 7 = .ok (.if_icmp .ge 23, 3) := by decide +kernel
theorem dX9_hasAllRungsTold_10 : decode cX9_hasAllRungsTold 10 = .ok (.aload_n 0, 1) := by decide +kernel
theorem dX9_hasAllRungsTold_11 : decode cX9_hasAllRungsTold 11 = .ok (.aload_n 0, 1) := by decide +kernel
theorem dX9_hasAllRungsTold_12 : decode cX9_hasAllRungsTold 12 = .ok (.iload_n 1, 1) := by decide +kernel
theorem dX9_hasAllRungsTold_13 : decode cX9_hasAllRungsTold 13 = .ok (.invokevirtual 54, 3) := by decide +kernel
theorem dX9_hasAllRungsTold_16 : decode cX9_hasAllRungsTold 16 = .ok (.invokevirtual 58, 3) := by decide +kernel
theorem dX9_hasAllRungsTold_19 : decode cX9_hasAllRungsTold 19 = .ok (.ifCond .ne 5, 3) := by decide +kernel
theorem dX9_hasAllRungsTold_22 : decode cX9_hasAllRungsTold 22 = .ok (.iconst 0, 1) := by decide +kernel
theorem dX9_hasAllRungsTold_23 : decode cX9_hasAllRungsTold 23 = .ok (.ireturn, 1) := by decide +kernel
theorem dX9_hasAllRungsTold_24 : decode cX9_hasAllRungsTold 24 = .ok (.iinc 1 1, 3) := by decide +kernel
theorem dX9_hasAllRungsTold_27 : decode cX9_hasAllRungsTold 27 = .ok (.goto (-25), 3) := by decide +kernel
theorem dX9_hasAllRungsTold_30 : decode cX9_hasAllRungsTold 30 = .ok (.iconst 1, 1) := by decide +kernel
theorem dX9_hasAllRungsTold_31 : decode cX9_hasAllRungsTold 31 = .ok (.ireturn, 1) := by decide +kernel
theorem dX9_startOf_0 : decode cX9_startOf 0 = .ok (.aload_n 0, 1) := by decide +kernel
theorem dX9_startOf_1 : decode cX9_startOf 1 = .ok (.getfield 28, 3) := by decide +kernel
theorem dX9_startOf_4 : decode cX9_startOf 4 = .ok (.iload_n 1, 1) := by decide +kernel
theorem dX9_startOf_5 : decode cX9_startOf 5 = .ok (.invokestatic 62, 3) := by decide +kernel
theorem dX9_startOf_8 : decode cX9_startOf 8 = .ok (.ireturn, 1) := by decide +kernel
theorem dX9_widthOf_0 : decode cX9_widthOf 0 = .ok (.aload_n 0, 1) := by decide +kernel
theorem dX9_widthOf_1 : decode cX9_widthOf 1 = .ok (.getfield 32, 3) := by decide +kernel
theorem dX9_widthOf_4 : decode cX9_widthOf 4 = .ok (.iload_n 1, 1) := by decide +kernel
theorem dX9_widthOf_5 : decode cX9_widthOf 5 = .ok (.invokestatic 62, 3) := by decide +kernel
theorem dX9_widthOf_8 : decode cX9_widthOf 8 = .ok (.ireturn, 1) := by decide +kernel
theorem dX9_temperOf_0 : decode cX9_temperOf 0 = .ok (.aload_n 0, 1) := by decide +kernel
theorem dX9_temperOf_1 : decode cX9_temperOf 1 = .ok (.getfield 35, 3) := by decide +kernel
theorem dX9_temperOf_4 : decode cX9_temperOf 4 = .ok (.iload_n 1, 1) := by decide +kernel
theorem dX9_temperOf_5 : decode cX9_temperOf 5 = .ok (.invokestatic 62, 3) := by decide +kernel
theorem dX9_temperOf_8 : decode cX9_temperOf 8 = .ok (.ireturn, 1) := by decide +kernel
theorem dX9_thirstOf_0 : decode cX9_thirstOf 0 = .ok (.aload_n 0, 1) := by decide +kernel
theorem dX9_thirstOf_1 : decode cX9_thirstOf 1 = .ok (.getfield 38, 3) := by decide +kernel
theorem dX9_thirstOf_4 : decode cX9_thirstOf 4 = .ok (.iload_n 1, 1) := by decide +kernel
theorem dX9_thirstOf_5 : decode cX9_thirstOf 5 = .ok (.invokestatic 62, 3) := by decide +kernel
theorem dX9_thirstOf_8 : decode cX9_thirstOf 8 = .ok (.ireturn, 1) := by decide +kernel
theorem dX11_init_0 : decode cX11_init 0 = .ok (.aload_n 0, 1) := by decide +kernel
theorem dX11_init_1 : decode cX11_init 1 = .ok (.invokespecial 1, 3) := by decide +kernel
theorem dX11_init_4 : decode cX11_init 4 = .ok (.aload_n 0, 1) := by decide +kernel
theorem dX11_init_5 : decode cX11_init 5 = .ok (.sipush 2000, 3) := by decide +kernel
theorem dX11_init_8 : decode cX11_init 8 = .ok (.newarray .byte, 2) := by decide +kernel
theorem dX11_init_10 : decode cX11_init 10 = .ok (.putfield 9, 3) := by decide +kernel
theorem dX11_init_13 : decode cX11_init 13 = .ok (.aload_n 0, 1) := by decide +kernel
theorem dX11_init_14 : decode cX11_init 14 = .ok (.iconst 0, 1) := by decide +kernel
theorem dX11_init_15 : decode cX11_init 15 = .ok (.putfield 13, 3) := by decide +kernel
theorem dX11_init_18 : decode cX11_init 18 = .ok (.aload_n 0, 1) := by decide +kernel
theorem dX11_init_19 : decode cX11_init 19 = .ok (.iconst (-1), 1) := by decide +kernel
theorem dX11_init_20 : decode cX11_init 20 = .ok (.putfield 17, 3) := by decide +kernel
theorem dX11_init_23 : decode cX11_init 23 = .ok (.aload_n 0, 1) := by decide +kernel
theorem dX11_init_24 : decode cX11_init 24 = .ok (.new 20, 3) := by decide +kernel
theorem dX11_init_27 : decode cX11_init 27 = .ok (.dup, 1) := by decide +kernel
theorem dX11_init_28 : decode cX11_init 28 = .ok (.invokespecial 22, 3) := by decide +kernel
theorem dX11_init_31 : decode cX11_init 31 = .ok (.putfield 23, 3) := by decide +kernel
theorem dX11_init_34 : decode cX11_init 34 = .ok (.aload_n 0, 1) := by decide +kernel
theorem dX11_init_35 : decode cX11_init 35 = .ok (.new 27, 3) := by decide +kernel
theorem dX11_init_38 : decode cX11_init 38 = .ok (.dup, 1) := by decide +kernel
theorem dX11_init_39 : decode cX11_init 39 = .ok (.invokespecial 29, 3) := by decide +kernel
theorem dX11_init_42 : decode cX11_init 42 = .ok (.putfield 30, 3) := by decide +kernel
theorem dX11_init_45 : decode cX11_init 45 = .ok (.aload_n 0, 1) := by decide +kernel
theorem dX11_init_46 : decode cX11_init 46 = .ok (.new 34, 3) := by decide +kernel
theorem dX11_init_49 : decode cX11_init 49 = .ok (.dup, 1) := by decide +kernel
theorem dX11_init_50 : decode cX11_init 50 = .ok (.invokespecial 36, 3) := by decide +kernel
theorem dX11_init_53 : decode cX11_init 53 = .ok (.putfield 37, 3) := by decide +kernel
theorem dX11_init_56 : decode cX11_init 56 = .ok (.aload_n 0, 1) := by decide +kernel
theorem dX11_init_57 : decode cX11_init 57 = .ok (.new 34, 3) := by decide +kernel
theorem dX11_init_60 : decode cX11_init 60 = .ok (.dup, 1) := by decide +kernel
theorem dX11_init_61 : decode cX11_init 61 = .ok (.invokespecial 36, 3) := by decide +kernel
theorem dX11_init_64 : decode cX11_init 64 = .ok (.putfield 41, 3) := by decide +kernel
theorem dX11_init_67 : decode cX11_init 67 = .ok (.aload_n 0, 1) := by decide +kernel
theorem dX11_init_68 : decode cX11_init 68 = .ok (.new 44, 3) := by decide +kernel
theorem dX11_init_71 : decode cX11_init 71 = .ok (.dup, 1) := by decide +kernel
theorem dX11_init_72 : decode cX11_init 72 = .ok (.invokespecial 46, 3) := by decide +kernel
theorem dX11_init_75 : decode cX11_init 75 = .ok (.putfield 47, 3) := by decide +kernel
theorem dX11_init_78 : decode cX11_init 78 = .ok (.aload_n 0, 1) := by decide +kernel
theorem dX11_init_79 : decode cX11_init 79 = .ok (.new 51, 3) := by decide +kernel
theorem dX11_init_82 : decode cX11_init 82 = .ok (.dup, 1) := by decide +kernel
theorem dX11_init_83 : decode cX11_init 83 = .ok (.aload_n 0, 1) := by decide +kernel
theorem dX11_init_84 : decode cX11_init 84 = .ok (.getfield 30, 3) := by decide +kernel
theorem dX11_init_87 : decode cX11_init 87 = .ok (.invokespecial 53, 3) := by decide +kernel
theorem dX11_init_90 : decode cX11_init 90 = .ok (.putfield 56, 3) := by decide +kernel
theorem dX11_init_93 : decode cX11_init 93 = .ok (.aload_n 0, 1) := by decide +kernel
theorem dX11_init_94 : decode cX11_init 94 = .ok (.new 60, 3) := by decide +kernel
theorem dX11_init_97 : decode cX11_init 97 = .ok (.dup, 1) := by decide +kernel
theorem dX11_init_98 : decode cX11_init 98 = .ok (.aload_n 0, 1) := by decide +kernel
theorem dX11_init_99 : decode cX11_init 99 = .ok (.getfield 30, 3) := by decide +kernel
theorem dX11_init_102 : decode cX11_init 102 = .ok (.aload_n 0, 1) := by decide +kernel
theorem dX11_init_103 : decode cX11_init 103 = .ok (.getfield 56, 3) := by decide +kernel
theorem dX11_init_106 : decode cX11_init 106 = .ok (.invokespecial 62, 3) := by decide +kernel
theorem dX11_init_109 : decode cX11_init 109 = .ok (.putfield 65, 3) := by decide +kernel
theorem dX11_init_112 : decode cX11_init 112 = .ok (.aload_n 0, 1) := by decide +kernel
theorem dX11_init_113 : decode cX11_init 113 = .ok (.new 69, 3) := by decide +kernel
theorem dX11_init_116 : decode cX11_init 116 = .ok (.dup, 1) := by decide +kernel
theorem dX11_init_117 : decode cX11_init 117 = .ok (.aload_n 0, 1) := by decide +kernel
theorem dX11_init_118 : decode cX11_init 118 = .ok (.getfield 30, 3) := by decide +kernel
theorem dX11_init_121 : decode cX11_init 121 = .ok (.aload_n 0, 1) := by decide +kernel
theorem dX11_init_122 : decode cX11_init 122 = .ok (.getfield 56, 3) := by decide +kernel
theorem dX11_init_125 : decode cX11_init 125 = .ok (.invokespecial 71, 3) := by decide +kernel
theorem dX11_init_128 : decode cX11_init 128 = .ok (.putfield 72, 3) := by decide +kernel
theorem dX11_init_131 : decode cX11_init 131 = .ok (.aload_n 0, 1) := by decide +kernel
theorem dX11_init_132 : decode cX11_init 132 = .ok (.new 76, 3) := by decide +kernel
theorem dX11_init_135 : decode cX11_init 135 = .ok (.dup, 1) := by decide +kernel
theorem dX11_init_136 : decode cX11_init 136 = .ok (.aload_n 0, 1) := by decide +kernel
theorem dX11_init_137 : decode cX11_init 137 = .ok (.getfield 30, 3) := by decide +kernel
theorem dX11_init_140 : decode cX11_init 140 = .ok (.aload_n 0, 1) := by decide +kernel
theorem dX11_init_141 : decode cX11_init 141 = .ok (.getfield 56, 3) := by decide +kernel
theorem dX11_init_144 : decode cX11_init 144 = .ok (.invokespecial 78, 3) := by decide +kernel
theorem dX11_init_147 : decode cX11_init 147 = .ok (.putfield 79, 3) := by decide +kernel
theorem dX11_init_150 : decode cX11_init 150 = .ok (.aload_n 0, 1) := by decide +kernel
theorem dX11_init_151 : decode cX11_init 151 = .ok (.new 83, 3) := by decide +kernel
theorem dX11_init_154 : decode cX11_init 154 = .ok (.dup, 1) := by decide +kernel
theorem dX11_init_155 : decode cX11_init 155 = .ok (.aload_n 0, 1) := by decide +kernel
theorem dX11_init_156 : decode cX11_init 156 = .ok (.getfield 30, 3) := by decide +kernel
theorem dX11_init_159 : decode cX11_init 159 = .ok (.invokespecial 85, 3) := by decide +kernel
theorem dX11_init_162 : decode cX11_init 162 = .ok (.putfield 86, 3) := by decide +kernel
theorem dX11_init_165 : decode cX11_init 165 = .ok (.aload_n 0, 1) := by decide +kernel
theorem dX11_init_166 : decode cX11_init 166 = .ok (.iconst 5, 1) := by decide +kernel
theorem dX11_init_167 : decode cX11_init 167 = .ok (.newarray .int, 2) := by decide +kernel
theorem dX11_init_169 : decode cX11_init 169 = .ok (.putfield 90, 3) := by decide +kernel
theorem dX11_init_172 : decode cX11_init 172 = .ok (.aload_n 0, 1) := by decide +kernel
theorem dX11_init_173 : decode cX11_init 173 = .ok (.getfield 37, 3) := by decide +kernel
theorem dX11_init_176 : decode cX11_init 176 = .ok (.aload_n 0, 1) := by decide +kernel
theorem dX11_init_177 : decode cX11_init 177 = .ok (.getfield 30, 3) := by decide +kernel
theorem dX11_init_180 : decode cX11_init 180 = .ok (.invokevirtual 94, 3) := by decide +kernel
theorem dX11_init_183 : decode cX11_init 183 = .ok (.return_, 1) := by decide +kernel
theorem dX11_feed_0 : decode cX11_feed 0 = .ok (.aload_n 0, 1) := by decide +kernel
theorem dX11_feed_1 : decode cX11_feed 1 = .ok (.getfield 13, 3) := by decide +kernel
theorem dX11_feed_4 : decode cX11_feed 4 = .ok (.sipush 1980, 3) := by decide +kernel
theorem dX11_feed_7 : decode cX11_feed 7 = .ok (.if_icmp .le 5, 3) := by decide +kernel
theorem dX11_feed_10 : decode cX11_feed 10 = .ok (.iconst (-1), 1) := by decide +kernel
theorem dX11_feed_11 : decode cX11_feed 11 = .ok (.ireturn, 1) := by decide +kernel
theorem dX11_feed_12 : decode cX11_feed 12 = .ok (.aload_n 0, 1) := by decide +kernel
theorem dX11_feed_13 : decode cX11_feed 13 = .ok (.iload_n 1, 1) := by decide +kernel
theorem dX11_feed_14 : decode cX11_feed 14 = .ok (.invokevirtual 97, 3) := by decide +kernel
theorem dX11_feed_17 : decode cX11_feed 17 = .ok (.aload_n 0, 1) := by decide +kernel
theorem dX11_feed_18 : decode cX11_feed 18 = .ok (.iload_n 2, 1) := by decide +kernel
theorem dX11_feed_19 : decode cX11_feed 19 = .ok (.invokevirtual 97, 3) := by decide +kernel
theorem dX11_feed_22 : decode cX11_feed 22 = .ok (.aload_n 0, 1) := by decide +kernel
theorem dX11_feed_23 : decode cX11_feed 23 = .ok (.iload_n 3, 1) := by decide +kernel
theorem dX11_feed_24 : decode cX11_feed 24 = .ok (.invokevirtual 97, 3) := by decide +kernel
theorem dX11_feed_27 : decode cX11_feed 27 = .ok (.aload_n 0, 1) := by decide +kernel
theorem dX11_feed_28 : decode cX11_feed 28 = .ok (.iload 4, 2) := by decide +kernel
theorem dX11_feed_30 : decode cX11_feed 30 = .ok (.invokevirtual 97, 3) := by decide +kernel
theorem dX11_feed_33 : decode cX11_feed 33 = .ok (.aload_n 0, 1) := by decide +kernel
theorem dX11_feed_34 : decode cX11_feed 34 = .ok (.iload 5, 2) := by decide +kernel
theorem dX11_feed_36 : decode cX11_feed 36 = .ok (.invokevirtual 97, 3) := by decide +kernel
theorem dX11_feed_39 : decode cX11_feed 39 = .ok (.aload_n 0, 1) := by decide +kernel
theorem dX11_feed_40 : decode cX11_feed 40 = .ok (.getfield 13, 3) := by decide +kernel
theorem dX11_feed_43 : decode cX11_feed 43 = .ok (.ireturn, 1) := by decide +kernel
theorem dX11_putFour_0 : decode cX11_putFour 0 = .ok (.bipush 24, 2) := by decide +kernel
theorem dX11_putFour_2 : decode cX11_putFour 2 = .ok (.istore_n 2, 1) := by decide +kernel
theorem dX11_putFour_3 : decode cX11_putFour 3 = .ok (.iload_n 2, 1) := by decide +kernel
theorem dX11_putFour_4 : decode cX11_putFour 4 = .ok (.ifCond .lt 51, 3) := by decide +kernel
theorem dX11_putFour_7 : decode cX11_putFour 7 = .ok (.aload_n 0, 1) := by decide +kernel
theorem dX11_putFour_8 : decode cX11_putFour 8 = .ok (.getfield 13, 3) := by decide +kernel
theorem dX11_putFour_11 : decode cX11_putFour 11 = .ok (.ifCond .lt 38, 3) := by decide +kernel
theorem dX11_putFour_14 : decode cX11_putFour 14 = .ok (.aload_n 0, 1) := by decide +kernel
theorem dX11_putFour_15 : decode cX11_putFour 15 = .ok (.getfield 13, 3) := by decide +kernel
theorem dX11_putFour_18 : decode cX11_putFour 18 = .ok (.aload_n 0, 1) := by decide +kernel
theorem dX11_putFour_19 : decode cX11_putFour 19 = .ok (.getfield 9, 3) := by decide +kernel
theorem dX11_putFour_22 : decode cX11_putFour 22 = .ok (.arraylength, 1) := by decide +kernel
theorem dX11_putFour_23 : decode cX11_putFour 23 = .ok (.if_icmp .ge 26, 3) := by decide +kernel
theorem dX11_putFour_26 : decode cX11_putFour 26 = .ok (.aload_n 0, 1) := by decide +kernel
theorem dX11_putFour_27 : decode cX11_putFour 27 = .ok (.getfield 9, 3) := by decide +kernel
theorem dX11_putFour_30 : decode cX11_putFour 30 = .ok (.aload_n 0, 1) := by decide +kernel
theorem dX11_putFour_31 : decode cX11_putFour 31 = .ok (.getfield 13, 3) := by decide +kernel
theorem dX11_putFour_34 : decode cX11_putFour 34 = .ok (.iload_n 1, 1) := by decide +kernel
theorem dX11_putFour_35 : decode cX11_putFour 35 = .ok (.iload_n 2, 1) := by decide +kernel
theorem dX11_putFour_36 : decode cX11_putFour 36 = .ok (.iushr, 1) := by decide +kernel
theorem dX11_putFour_37 : decode cX11_putFour 37 = .ok (.i2b, 1) := by decide +kernel
theorem dX11_putFour_38 : decode cX11_putFour 38 = .ok (.bastore, 1) := by decide +kernel
theorem dX11_putFour_39 : decode cX11_putFour 39 = .ok (.aload_n 0, 1) := by decide +kernel
theorem dX11_putFour_40 : decode cX11_putFour 40 = .ok (.dup, 1) := by decide +kernel
theorem dX11_putFour_41 : decode cX11_putFour 41 = .ok (.getfield 13, 3) := by decide +kernel
theorem dX11_putFour_44 : decode cX11_putFour 44 = .ok (.iconst 1, 1) := by decide +kernel
theorem dX11_putFour_45 : decode cX11_putFour 45 = .ok (.iadd, 1) := by decide +kernel
theorem dX11_putFour_46 : decode cX11_putFour 46 = .ok (.putfield 13, 3) := by decide +kernel
theorem dX11_putFour_49 : decode cX11_putFour 49 = .ok (.iinc 2 (-8), 3) := by decide +kernel
theorem dX11_putFour_52 : decode cX11_putFour 52 = .ok (.goto (-49), 3) := by decide +kernel
theorem dX11_putFour_55 : decode cX11_putFour 55 = .ok (.return_, 1) := by decide +kernel
theorem dX11_back_0 : decode cX11_back 0 = .ok (.iload_n 1, 1) := by decide +kernel
theorem dX11_back_1 : decode cX11_back 1 = .ok (.ifCond .lt 11, 3) := by decide +kernel
theorem dX11_back_4 : decode cX11_back 4 = .ok (.iload_n 1, 1) := by decide +kernel
theorem dX11_back_5 : decode cX11_back 5 = .ok (.aload_n 0, 1) := by decide +kernel
theorem dX11_back_6 : decode cX11_back 6 = .ok (.getfield 13, 3) := by decide +kernel
theorem dX11_back_9 : decode cX11_back 9 = .ok (.if_icmp .le 5, 3) := by decide +kernel
theorem dX11_back_12 : decode cX11_back 12 = .ok (.iconst (-1), 1) := by decide +kernel
theorem dX11_back_13 : decode cX11_back 13 = .ok (.ireturn, 1) := by decide +kernel
theorem dX11_back_14 : decode cX11_back 14 = .ok (.aload_n 0, 1) := by decide +kernel
theorem dX11_back_15 : decode cX11_back 15 = .ok (.dup, 1) := by decide +kernel
theorem dX11_back_16 : decode cX11_back 16 = .ok (.getfield 13, 3) := by decide +kernel
theorem dX11_back_19 : decode cX11_back 19 = .ok (.iload_n 1, 1) := by decide +kernel
theorem dX11_back_20 : decode cX11_back 20 = .ok (.isub, 1) := by decide +kernel
theorem dX11_back_21 : decode cX11_back 21 = .ok (.putfield 13, 3) := by decide +kernel
theorem dX11_back_24 : decode cX11_back 24 = .ok (.aload_n 0, 1) := by decide +kernel
theorem dX11_back_25 : decode cX11_back 25 = .ok (.getfield 13, 3) := by decide +kernel
theorem dX11_back_28 : decode cX11_back 28 = .ok (.ireturn, 1) := by decide +kernel
theorem dX11_read_0 : decode cX11_read 0 = .ok (.aload_n 0, 1) := by decide +kernel
theorem dX11_read_1 : decode cX11_read 1 = .ok (.getfield 23, 3) := by decide +kernel
theorem dX11_read_4 : decode cX11_read 4 = .ok (.aload_n 0, 1) := by decide +kernel
theorem dX11_read_5 : decode cX11_read 5 = .ok (.getfield 9, 3) := by decide +kernel
theorem dX11_read_8 : decode cX11_read 8 = .ok (.aload_n 0, 1) := by decide +kernel
theorem dX11_read_9 : decode cX11_read 9 = .ok (.getfield 13, 3) := by decide +kernel
theorem dX11_read_12 : decode cX11_read 12 = .ok (.invokevirtual 101, 3) := by decide +kernel
theorem dX11_read_15 : decode cX11_read 15 = .ok (.iconst 0, 1) := by decide +kernel
theorem dX11_read_16 : decode cX11_read 16 = .ok (.istore_n 1, 1) := by decide +kernel
theorem dX11_read_17 : decode cX11_read 17 = .ok (.iload_n 1, 1) := by decide +kernel
theorem dX11_read_18 : decode cX11_read 18 = .ok (.sipush 400, 3) := by decide +kernel
theorem dX11_read_21 : decode cX11_read 21 = .ok (.if_icmp .gt 26, 3) := by decide +kernel
theorem dX11_read_24 : decode cX11_read 24 = .ok (.aload_n 0, 1) := by decide +kernel
theorem dX11_read_25 : decode cX11_read 25 = .ok (.getfield 23, 3) := by decide +kernel
theorem dX11_read_28 : decode cX11_read 28 = .ok (.invokevirtual 106, 3) := by decide +kernel
theorem dX11_read_31 : decode cX11_read 31 = .ok (.ifCond .eq 16, 3) := by decide +kernel
theorem dX11_read_34 : decode cX11_read 34 = .ok (.aload_n 0, 1) := by decide +kernel
theorem dX11_read_35 : decode cX11_read 35 = .ok (.getfield 23, 3) := by decide +kernel
theorem dX11_read_38 : decode cX11_read 38 = .ok (.invokevirtual 110, 3) := by decide +kernel
theorem dX11_read_41 : decode cX11_read 41 = .ok (.iinc 1 1, 3) := by decide +kernel
theorem dX11_read_44 : decode cX11_read 44 = .ok (.goto (-27), 3) := by decide +kernel
theorem dX11_read_47 : decode cX11_read 47 = .ok (.aload_n 0, 1) := by decide +kernel
theorem dX11_read_48 : decode cX11_read 48 = .ok (.getfield 23, 3) := by decide +kernel
theorem dX11_read_51 : decode cX11_read 51 = .ok (.invokevirtual 113, 3) := by decide +kernel
theorem dX11_read_54 : decode cX11_read 54 = .ok (.istore_n 1, 1) := by decide +kernel
theorem dX11_read_55 : decode cX11_read 55 = .ok (.aload_n 0, 1) := by decide +kernel
theorem dX11_read_56 : decode cX11_read 56 = .ok (.iconst 0, 1) := by decide +kernel
theorem dX11_read_57 : decode cX11_read 57 = .ok (.putfield 13, 3) := by decide +kernel
theorem dX11_read_60 : decode cX11_read 60 = .ok (.aload_n 0, 1) := by decide +kernel
theorem dX11_read_61 : decode cX11_read 61 = .ok (.aload_n 0, 1) := by decide +kernel
theorem dX11_read_62 : decode cX11_read 62 = .ok (.getfield 23, 3) := by decide +kernel
theorem dX11_read_65 : decode cX11_read 65 = .ok (.invokevirtual 117, 3) := by decide +kernel
theorem dX11_read_68 : decode cX11_read 68 = .ok (.putfield 17, 3) := by decide +kernel
theorem dX11_read_71 : decode cX11_read 71 = .ok (.iload_n 1, 1) := by decide +kernel
theorem dX11_read_72 : decode cX11_read 72 = .ok (.ifCond .ne 43, 3) := by decide +kernel
theorem dX11_read_75 : decode cX11_read 75 = .ok (.aload_n 0, 1) := by decide +kernel
theorem dX11_read_76 : decode cX11_read 76 = .ok (.getfield 30, 3) := by decide +kernel
theorem dX11_read_79 : decode cX11_read 79 = .ok (.aload_n 0, 1) := by decide +kernel
theorem dX11_read_80 : decode cX11_read 80 = .ok (.getfield 23, 3) := by decide +kernel
theorem dX11_read_83 : decode cX11_read 83 = .ok (.getfield 120, 3) := by decide +kernel
theorem dX11_read_86 : decode cX11_read 86 = .ok (.invokevirtual 123, 3) := by decide +kernel
theorem dX11_read_89 : decode cX11_read 89 = .ok (.aload_n 0, 1) := by decide +kernel
theorem dX11_read_90 : decode cX11_read 90 = .ok (.getfield 37, 3) := by decide +kernel
theorem dX11_read_93 : decode cX11_read 93 = .ok (.aload_n 0, 1) := by decide +kernel
theorem dX11_read_94 : decode cX11_read 94 = .ok (.getfield 30, 3) := by decide +kernel
theorem dX11_read_97 : decode cX11_read 97 = .ok (.invokevirtual 94, 3) := by decide +kernel
theorem dX11_read_100 : decode cX11_read 100 = .ok (.aload_n 0, 1) := by decide +kernel
theorem dX11_read_101 : decode cX11_read 101 = .ok (.getfield 47, 3) := by decide +kernel
theorem dX11_read_104 : decode cX11_read 104 = .ok (.invokevirtual 126, 3) := by decide +kernel
theorem dX11_read_107 : decode cX11_read 107 = .ok (.aload_n 0, 1) := by decide +kernel
theorem dX11_read_108 : decode cX11_read 108 = .ok (.getfield 86, 3) := by decide +kernel
theorem dX11_read_111 : decode cX11_read 111 = .ok (.invokevirtual 129, 3) := by decide +kernel
theorem dX11_read_114 : decode cX11_read 114 = .ok (.pop, 1) := by decide +kernel
theorem dX11_read_115 : decode cX11_read 115 = .ok (.iload_n 1, 1) := by decide +kernel
theorem dX11_read_116 : decode cX11_read 116 = .ok (.ireturn, 1) := by decide +kernel
theorem dX11_place_0 : decode cX11_place 0 = .ok (.aload_n 0, 1) := by decide +kernel
theorem dX11_place_1 : decode cX11_place 1 = .ok (.getfield 17, 3) := by decide +kernel
theorem dX11_place_4 : decode cX11_place 4 = .ok (.ireturn, 1) := by decide +kernel
theorem dX11_person_0 : decode cX11_person 0 = .ok (.aload_n 0, 1) := by decide +kernel
theorem dX11_person_1 : decode cX11_person 1 = .ok (.getfield 30, 3) := by decide +kernel
theorem dX11_person_4 : decode cX11_person 4 = .ok (.iload_n 1, 1) := by decide +kernel
theorem dX11_person_5 : decode cX11_person 5 = .ok (.invokevirtual 131, 3) := by decide +kernel
theorem dX11_person_8 : decode cX11_person 8 = .ok (.ifCond .ne 5, 3) := by decide +kernel
theorem dX11_person_11 : decode cX11_person 11 = .ok (.iconst (-1), 1) := by decide +kernel
theorem dX11_person_12 : decode cX11_person 12 = .ok (.ireturn, 1) := by decide +kernel
theorem dX11_person_13 : decode cX11_person 13 = .ok (.iload_n 2, 1) := by decide +kernel
theorem dX11_person_14 : decode cX11_person 14 = .ok (.tableswitch 127 0 7 #[46, 56, 65, 74, 83, 94, 105, 116], 46) := by decide +kernel
theorem dX11_person_60 : decode cX11_person 60 = .ok (.aload_n 0, 1) := by decide +kernel
theorem dX11_person_61 : decode cX11_person 61 = .ok (.getfield 37, 3) := by decide +kernel
theorem dX11_person_64 : decode cX11_person 64 = .ok (.iconst 3, 1) := by decide +kernel
theorem dX11_person_65 : decode cX11_person 65 = .ok (.iload_n 1, 1) := by decide +kernel
theorem dX11_person_66 : decode cX11_person 66 = .ok (.invokevirtual 135, 3) := by decide +kernel
theorem dX11_person_69 : decode cX11_person 69 = .ok (.ireturn, 1) := by decide +kernel
theorem dX11_person_70 : decode cX11_person 70 = .ok (.aload_n 0, 1) := by decide +kernel
theorem dX11_person_71 : decode cX11_person 71 = .ok (.getfield 30, 3) := by decide +kernel
theorem dX11_person_74 : decode cX11_person 74 = .ok (.iload_n 1, 1) := by decide +kernel
theorem dX11_person_75 : decode cX11_person 75 = .ok (.invokevirtual 139, 3) := by decide +kernel
theorem dX11_person_78 : decode cX11_person 78 = .ok (.ireturn, 1) := by decide +kernel
theorem dX11_person_79 : decode cX11_person 79 = .ok (.aload_n 0, 1) := by decide +kernel
theorem dX11_person_80 : decode cX11_person 80 = .ok (.getfield 30, 3) := by decide +kernel
theorem dX11_person_83 : decode cX11_person 83 = .ok (.iload_n 1, 1) := by decide +kernel
theorem dX11_person_84 : decode cX11_person 84 = .ok (.invokevirtual 143, 3) := by decide +kernel
theorem dX11_person_87 : decode cX11_person 87 = .ok (.ireturn, 1) := by decide +kernel
theorem dX11_person_88 : decode cX11_person 88 = .ok (.aload_n 0, 1) := by decide +kernel
theorem dX11_person_89 : decode cX11_person 89 = .ok (.getfield 30, 3) := by decide +kernel
theorem dX11_person_92 : decode cX11_person 92 = .ok (.iload_n 1, 1) := by decide +kernel
theorem dX11_person_93 : decode cX11_person 93 = .ok (.invokevirtual 146, 3) := by decide +kernel
theorem dX11_person_96 : decode cX11_person 96 = .ok (.ireturn, 1) := by decide +kernel
theorem dX11_person_97 : decode cX11_person 97 = .ok (.aload_n 0, 1) := by decide +kernel
theorem dX11_person_98 : decode cX11_person 98 = .ok (.getfield 37, 3) := by decide +kernel
theorem dX11_person_101 : decode cX11_person 101 = .ok (.bipush 8, 2) := by decide +kernel
theorem dX11_person_103 : decode cX11_person 103 = .ok (.iload_n 1, 1) := by decide +kernel
theorem dX11_person_104 : decode cX11_person 104 = .ok (.invokevirtual 135, 3) := by decide +kernel
theorem dX11_person_107 : decode cX11_person 107 = .ok (.ireturn, 1) := by decide +kernel
theorem dX11_person_108 : decode cX11_person 108 = .ok (.aload_n 0, 1) := by decide +kernel
theorem dX11_person_109 : decode cX11_person 109 = .ok (.getfield 37, 3) := by decide +kernel
theorem dX11_person_112 : decode cX11_person 112 = .ok (.bipush 13, 2) := by decide +kernel
theorem dX11_person_114 : decode cX11_person 114 = .ok (.iload_n 1, 1) := by decide +kernel
theorem dX11_person_115 : decode cX11_person 115 = .ok (.invokevirtual 135, 3) := by decide +kernel
theorem dX11_person_118 : decode cX11_person 118 = .ok (.ireturn, 1) := by decide +kernel
theorem dX11_person_119 : decode cX11_person 119 = .ok (.aload_n 0, 1) := by decide +kernel
theorem dX11_person_120 : decode cX11_person 120 = .ok (.getfield 37, 3) := by decide +kernel
theorem dX11_person_123 : decode cX11_person 123 = .ok (.bipush 18, 2) := by decide +kernel
theorem dX11_person_125 : decode cX11_person 125 = .ok (.iload_n 1, 1) := by decide +kernel
theorem dX11_person_126 : decode cX11_person 126 = .ok (.invokevirtual 135, 3) := by decide +kernel
theorem dX11_person_129 : decode cX11_person 129 = .ok (.ireturn, 1) := by decide +kernel
theorem dX11_person_130 : decode cX11_person 130 = .ok (.aload_n 0, 1) := by decide +kernel
theorem dX11_person_131 : decode cX11_person 131 = .ok (.getfield 37, 3) := by decide +kernel
theorem dX11_person_134 : decode cX11_person 134 = .ok (.bipush 23, 2) := by decide +kernel
theorem dX11_person_136 : decode cX11_person 136 = .ok (.iload_n 1, 1) := by decide +kernel
theorem dX11_person_137 : decode cX11_person 137 = .ok (.invokevirtual 135, 3) := by decide +kernel
theorem dX11_person_140 : decode cX11_person 140 = .ok (.ireturn, 1) := by decide +kernel
theorem dX11_person_141 : decode cX11_person 141 = .ok (.iconst (-1), 1) := by decide +kernel
theorem dX11_person_142 : decode cX11_person 142 = .ok (.ireturn, 1) := by decide +kernel
theorem dX11_areThere_0 : decode cX11_areThere 0 = .ok (.aload_n 0, 1) := by decide +kernel
theorem dX11_areThere_1 : decode cX11_areThere 1 = .ok (.getfield 30, 3) := by decide +kernel
theorem dX11_areThere_4 : decode cX11_areThere 4 = .ok (.iload_n 1, 1) := by decide +kernel
theorem dX11_areThere_5 : decode cX11_areThere 5 = .ok (.invokevirtual 131, 3) := by decide +kernel
theorem dX11_areThere_8 : decode cX11_areThere 8 = .ok (.ifCond .eq 18, 3) := by decide +kernel
theorem dX11_areThere_11 : decode cX11_areThere 11 = .ok (.aload_n 0, 1) := by decide +kernel
theorem dX11_areThere_12 : decode cX11_areThere 12 = .ok (.getfield 30, 3) := by decide +kernel
theorem dX11_areThere_15 : decode cX11_areThere 15 = .ok (.iload_n 2, 1) := by decide +kernel
theorem dX11_areThere_16 : decode cX11_areThere 16 = .ok (.invokevirtual 149, 3) := by decide +kernel
theorem dX11_areThere_19 : decode cX11_areThere 19 = .ok (.ifCond .eq 7, 3) := by decide +kernel
theorem dX11_areThere_22 : decode cX11_areThere 22 = .ok (.iconst 1, 1) := by decide +kernel
theorem dX11_areThere_23 : decode cX11_areThere 23 = .ok (.goto 4, 3) := by decide +kernel
theorem dX11_areThere_26 : decode cX11_areThere 26 = .ok (.iconst 0, 1) := by decide +kernel
theorem dX11_areThere_27 : decode cX11_areThere 27 = .ok (.ireturn, 1) := by decide +kernel
theorem dX11_isWithin_0 : decode cX11_isWithin 0 = .ok (.iload_n 0, 1) := by decide +kernel
theorem dX11_isWithin_1 : decode cX11_isWithin 1 = .ok (.iload_n 1, 1) := by decide +kernel
theorem dX11_isWithin_2 : decode cX11_isWithin 2 = .ok (.if_icmp .lt 12, 3) := by decide +kernel
theorem dX11_isWithin_5 : decode cX11_isWithin 5 = .ok (.iload_n 0, 1) := by decide +kernel
theorem dX11_isWithin_6 : decode cX11_isWithin 6 = .ok (.iload_n 2, 1) := by decide +kernel
theorem dX11_isWithin_7 : decode cX11_isWithin 7 = .ok (.if_icmp .gt 7, 3) := by decide +kernel
theorem dX11_isWithin_10 : decode cX11_isWithin 10 = .ok (.iconst 1, 1) := by decide +kernel
theorem dX11_isWithin_11 : decode cX11_isWithin 11 = .ok (.goto 4, 3) := by decide +kernel
theorem dX11_isWithin_14 : decode cX11_isWithin 14 = .ok (.iconst 0, 1) := by decide +kernel
theorem dX11_isWithin_15 : decode cX11_isWithin 15 = .ok (.ireturn, 1) := by decide +kernel
theorem dX11_send_0 : decode cX11_send 0 = .ok (.aload_n 0, 1) := by decide +kernel
theorem dX11_send_1 : decode cX11_send 1 = .ok (.getfield 30, 3) := by decide +kernel
theorem dX11_send_4 : decode cX11_send 4 = .ok (.iload_n 1, 1) := by decide +kernel
theorem dX11_send_5 : decode cX11_send 5 = .ok (.invokevirtual 131, 3) := by decide +kernel
theorem dX11_send_8 : decode cX11_send 8 = .ok (.ifCond .eq 19, 3) := by decide +kernel
theorem dX11_send_11 : decode cX11_send 11 = .ok (.iload_n 2, 1) := by decide +kernel
theorem dX11_send_12 : decode cX11_send 12 = .ok (.iconst (-1), 1) := by decide +kernel
theorem dX11_send_13 : decode cX11_send 13 = .ok (.if_icmp .eq 16, 3) := by decide +kernel
theorem dX11_send_16 : decode cX11_send 16 = .ok (.aload_n 0, 1) := by decide +kernel
theorem dX11_send_17 : decode cX11_send 17 = .ok (.getfield 30, 3) := by decide +kernel
theorem dX11_send_20 : decode cX11_send 20 = .ok (.iload_n 2, 1) := by decide +kernel
theorem dX11_send_21 : decode cX11_send 21 = .ok (.invokevirtual 149, 3) := by decide +kernel
theorem dX11_send_24 : decode cX11_send 24 = .ok (.ifCond .ne 5, 3) := by decide +kernel
theorem dX11_send_27 : decode cX11_send 27 = .ok (.iconst 0, 1) := by decide +kernel
theorem dX11_send_28 : decode cX11_send 28 = .ok (.ireturn, 1) := by decide +kernel
theorem dX11_send_29 : decode cX11_send 29 = .ok (.iload_n 2, 1) := by decide +kernel
theorem dX11_send_30 : decode cX11_send 30 = .ok (.iconst (-1), 1) := by decide +kernel
theorem dX11_send_31 : decode cX11_send 31 = .ok (.if_icmp .eq 16, 3) := by decide +kernel
theorem dX11_send_34 : decode cX11_send 34 = .ok (.iload_n 2, 1) := by decide +kernel
theorem dX11_send_35 : decode cX11_send 35 = .ok (.aload_n 0, 1) := by decide +kernel
theorem dX11_send_36 : decode cX11_send 36 = .ok (.getfield 37, 3) := by decide +kernel
theorem dX11_send_39 : decode cX11_send 39 = .ok (.iconst 3, 1) := by decide +kernel
theorem dX11_send_40 : decode cX11_send 40 = .ok (.iload_n 1, 1) := by decide +kernel
theorem dX11_send_41 : decode cX11_send 41 = .ok (.invokevirtual 135, 3) := by decide +kernel
theorem dX11_send_44 : decode cX11_send 44 = .ok (.if_icmp .ne 7, 3) := by decide +kernel
theorem dX11_send_47 : decode cX11_send 47 = .ok (.iconst 1, 1) := by decide +kernel
theorem dX11_send_48 : decode cX11_send 48 = .ok (.goto 4, 3) := by decide +kernel
theorem dX11_send_51 : decode cX11_send 51 = .ok (.iconst 0, 1) := by decide +kernel
theorem dX11_send_52 : decode cX11_send 52 = .ok (.istore_n 3, 1) := by decide +kernel
theorem dX11_send_53 : decode cX11_send 53 = .ok (.iload_n 3, 1) := by decide +kernel
theorem dX11_send_54 : decode cX11_send 54 = .ok (.ifCond .eq 8, 3) := by decide +kernel
theorem dX11_send_57 : decode cX11_send 57 = .ok (.bipush (-2), 2) := by decide +kernel
theorem dX11_send_59 : decode cX11_send 59 = .ok (.goto 4, 3) := by decide +kernel
theorem dX11_send_62 : decode cX11_send 62 = .ok (.iload_n 2, 1) := by decide +kernel
theorem dX11_send_63 : decode cX11_send 63 = .ok (.istore 4, 2) := by decide +kernel
theorem dX11_send_65 : decode cX11_send 65 = .ok (.iload 4, 2) := by decide +kernel
theorem dX11_send_67 : decode cX11_send 67 = .ok (.aload_n 0, 1) := by decide +kernel
theorem dX11_send_68 : decode cX11_send 68 = .ok (.getfield 37, 3) := by decide +kernel
theorem dX11_send_71 : decode cX11_send 71 = .ok (.bipush 8, 2) := by decide +kernel
theorem dX11_send_73 : decode cX11_send 73 = .ok (.iload_n 1, 1) := by decide +kernel
theorem dX11_send_74 : decode cX11_send 74 = .ok (.invokevirtual 135, 3) := by decide +kernel
theorem dX11_send_77 : decode cX11_send 77 = .ok (.if_icmp .ne 5, 3) := by decide +kernel
theorem dX11_send_80 : decode cX11_send 80 = .ok (.iconst 0, 1) := by decide +kernel
theorem dX11_send_81 : decode cX11_send 81 = .ok (.ireturn, 1) := by decide +kernel
theorem dX11_send_82 : decode cX11_send 82 = .ok (.aload_n 0, 1) := by decide +kernel
theorem dX11_send_83 : decode cX11_send 83 = .ok (.getfield 47, 3) := by decide +kernel
theorem dX11_send_86 : decode cX11_send 86 = .ok (.aload_n 0, 1) := by decide +kernel
theorem dX11_send_87 : decode cX11_send 87 = .ok (.getfield 37, 3) := by decide +kernel
theorem dX11_send_90 : decode cX11_send 90 = .ok (.invokevirtual 224, 3) := by decide +kernel
theorem dX11_send_93 : decode cX11_send 93 = .ok (.aload_n 0, 1) := by decide +kernel
theorem dX11_send_94 : decode cX11_send 94 = .ok (.getfield 37, 3) := by decide +kernel
theorem dX11_send_97 : decode cX11_send 97 = .ok (.bipush 8, 2) := by decide +kernel
theorem dX11_send_99 : decode cX11_send 99 = .ok (.iload_n 1, 1) := by decide +kernel
theorem dX11_send_100 : decode cX11_send 100 = .ok (.iload 4, 2) := by decide +kernel
theorem dX11_send_102 : decode cX11_send 102 = .ok (.invokevirtual 228, 3) := by decide +kernel
theorem dX11_send_105 : decode cX11_send 105 = .ok (.iload_n 3, 1) := by decide +kernel
theorem dX11_send_106 : decode cX11_send 106 = .ok (.ifCond .eq 14, 3) := by decide +kernel
theorem dX11_send_109 : decode cX11_send 109 = .ok (.aload_n 0, 1) := by decide +kernel
theorem dX11_send_110 : decode cX11_send 110 = .ok (.getfield 37, 3) := by decide +kernel
theorem dX11_send_113 : decode cX11_send 113 = .ok (.bipush 13, 2) := by decide +kernel
theorem dX11_send_115 : decode cX11_send 115 = .ok (.iload_n 1, 1) := by decide +kernel
theorem dX11_send_116 : decode cX11_send 116 = .ok (.iconst 0, 1) := by decide +kernel
theorem dX11_send_117 : decode cX11_send 117 = .ok (.invokevirtual 228, 3) := by decide +kernel
theorem dX11_send_120 : decode cX11_send 120 = .ok (.iconst 1, 1) := by decide +kernel
theorem dX11_send_121 : decode cX11_send 121 = .ok (.ireturn, 1) := by decide +kernel
theorem dX11_mend_0 : decode cX11_mend 0 = .ok (.aload_n 0, 1) := by decide +kernel
theorem dX11_mend_1 : decode cX11_mend 1 = .ok (.getfield 30, 3) := by decide +kernel
theorem dX11_mend_4 : decode cX11_mend 4 = .ok (.iload_n 1, 1) := by decide +kernel
theorem dX11_mend_5 : decode cX11_mend 5 = .ok (.invokevirtual 149, 3) := by decide +kernel
theorem dX11_mend_8 : decode cX11_mend 8 = .ok (.ifCond .eq 14, 3) := by decide +kernel
theorem dX11_mend_11 : decode cX11_mend 11 = .ok (.aload_n 0, 1) := by decide +kernel
theorem dX11_mend_12 : decode cX11_mend 12 = .ok (.getfield 37, 3) := by decide +kernel
theorem dX11_mend_15 : decode cX11_mend 15 = .ok (.iload_n 1, 1) := by decide +kernel
theorem dX11_mend_16 : decode cX11_mend 16 = .ok (.invokevirtual 162, 3) := by decide +kernel
theorem dX11_mend_19 : decode cX11_mend 19 = .ok (.ifCond .eq 5, 3) := by decide +kernel
theorem dX11_mend_22 : decode cX11_mend 22 = .ok (.iconst 0, 1) := by decide +kernel
theorem dX11_mend_23 : decode cX11_mend 23 = .ok (.ireturn, 1) := by decide +kernel
theorem dX11_mend_24 : decode cX11_mend 24 = .ok (.aload_n 0, 1) := by decide +kernel
theorem dX11_mend_25 : decode cX11_mend 25 = .ok (.getfield 47, 3) := by decide +kernel
theorem dX11_mend_28 : decode cX11_mend 28 = .ok (.aload_n 0, 1) := by decide +kernel
theorem dX11_mend_29 : decode cX11_mend 29 = .ok (.getfield 37, 3) := by decide +kernel
theorem dX11_mend_32 : decode cX11_mend 32 = .ok (.invokevirtual 224, 3) := by decide +kernel
theorem dX11_mend_35 : decode cX11_mend 35 = .ok (.aload_n 0, 1) := by decide +kernel
theorem dX11_mend_36 : decode cX11_mend 36 = .ok (.getfield 37, 3) := by decide +kernel
theorem dX11_mend_39 : decode cX11_mend 39 = .ok (.iload_n 1, 1) := by decide +kernel
theorem dX11_mend_40 : decode cX11_mend 40 = .ok (.invokevirtual 232, 3) := by decide +kernel
theorem dX11_mend_43 : decode cX11_mend 43 = .ok (.iconst 1, 1) := by decide +kernel
theorem dX11_mend_44 : decode cX11_mend 44 = .ok (.ireturn, 1) := by decide +kernel
theorem dX11_bucket_0 : decode cX11_bucket 0 = .ok (.iload_n 1, 1) := by decide +kernel
theorem dX11_bucket_1 : decode cX11_bucket 1 = .ok (.iconst 0, 1) := by decide +kernel
theorem dX11_bucket_2 : decode cX11_bucket 2 = .ok (.bipush 99, 2) := by decide +kernel
theorem dX11_bucket_4 : decode cX11_bucket 4 = .ok (.invokestatic 235, 3) := by decide +kernel
theorem dX11_bucket_7 : decode cX11_bucket 7 = .ok (.ifCond .ne 5, 3) := by decide +kernel
theorem dX11_bucket_10 : decode cX11_bucket 10 = .ok (.iconst (-1), 1) := by decide +kernel
theorem dX11_bucket_11 : decode cX11_bucket 11 = .ok (.ireturn, 1) := by decide +kernel
theorem dX11_bucket_12 : decode cX11_bucket 12 = .ok (.aload_n 0, 1) := by decide +kernel
theorem dX11_bucket_13 : decode cX11_bucket 13 = .ok (.getfield 47, 3) := by decide +kernel
theorem dX11_bucket_16 : decode cX11_bucket 16 = .ok (.aload_n 0, 1) := by decide +kernel
theorem dX11_bucket_17 : decode cX11_bucket 17 = .ok (.getfield 37, 3) := by decide +kernel
theorem dX11_bucket_20 : decode cX11_bucket 20 = .ok (.invokevirtual 224, 3) := by decide +kernel
theorem dX11_bucket_23 : decode cX11_bucket 23 = .ok (.aload_n 0, 1) := by decide +kernel
theorem dX11_bucket_24 : decode cX11_bucket 24 = .ok (.getfield 56, 3) := by decide +kernel
theorem dX11_bucket_27 : decode cX11_bucket 27 = .ok (.aload_n 0, 1) := by decide +kernel
theorem dX11_bucket_28 : decode cX11_bucket 28 = .ok (.getfield 37, 3) := by decide +kernel
theorem dX11_bucket_31 : decode cX11_bucket 31 = .ok (.iload_n 1, 1) := by decide +kernel
theorem dX11_bucket_32 : decode cX11_bucket 32 = .ok (.invokevirtual 239, 3) := by decide +kernel
theorem dX11_bucket_35 : decode cX11_bucket 35 = .ok (.ireturn, 1) := by decide +kernel
theorem dX11_minutes_0 : decode cX11_minutes 0 = .ok (.iload_n 1, 1) := by decide +kernel
theorem dX11_minutes_1 : decode cX11_minutes 1 = .ok (.iconst 0, 1) := by decide +kernel
theorem dX11_minutes_2 : decode cX11_minutes 2 = .ok (.bipush 60, 2) := by decide +kernel
theorem dX11_minutes_4 : decode cX11_minutes 4 = .ok (.invokestatic 235, 3) := by decide +kernel
theorem dX11_minutes_7 : decode cX11_minutes 7 = .ok (.ifCond .ne 5, 3) := by decide +kernel
theorem dX11_minutes_10 : decode cX11_minutes 10 = .ok (.iconst (-1), 1) := by decide +kernel
theorem dX11_minutes_11 : decode cX11_minutes 11 = .ok (.ireturn, 1) := by decide +kernel
theorem dX11_minutes_12 : decode cX11_minutes 12 = .ok (.iload_n 1, 1) := by decide +kernel
theorem dX11_minutes_13 : decode cX11_minutes 13 = .ok (.ifCond .le 14, 3) := by decide +kernel
theorem dX11_minutes_16 : decode cX11_minutes 16 = .ok (.aload_n 0, 1) := by decide +kernel
theorem dX11_minutes_17 : decode cX11_minutes 17 = .ok (.getfield 47, 3) := by decide +kernel
theorem dX11_minutes_20 : decode cX11_minutes 20 = .ok (.aload_n 0, 1) := by decide +kernel
theorem dX11_minutes_21 : decode cX11_minutes 21 = .ok (.getfield 37, 3) := by decide +kernel
theorem dX11_minutes_24 : decode cX11_minutes 24 = .ok (.invokevirtual 224, 3) := by decide +kernel
theorem dX11_minutes_27 : decode cX11_minutes 27 = .ok (.iconst 0, 1) := by decide +kernel
theorem dX11_minutes_28 : decode cX11_minutes 28 = .ok (.istore_n 2, 1) := by decide +kernel
theorem dX11_minutes_29 : decode cX11_minutes 29 = .ok (.iload_n 2, 1) := by decide +kernel
theorem dX11_minutes_30 : decode cX11_minutes 30 = .ok (.iload_n 1, 1) := by decide +kernel
theorem dX11_minutes_31 : decode cX11_minutes 31 = .ok (.if_icmp .ge 28, 3) := by decide +kernel
theorem dX11_minutes_34 : decode cX11_minutes 34 = .ok (.aload_n 0, 1) := by decide +kernel
theorem dX11_minutes_35 : decode cX11_minutes 35 = .ok (.getfield 56, 3) := by decide +kernel
theorem dX11_minutes_38 : decode cX11_minutes 38 = .ok (.aload_n 0, 1) := by decide +kernel
theorem dX11_minutes_39 : decode cX11_minutes 39 = .ok (.getfield 37, 3) := by decide +kernel
theorem dX11_minutes_42 : decode cX11_minutes 42 = .ok (.aload_n 0, 1) := by decide +kernel
theorem dX11_minutes_43 : decode cX11_minutes 43 = .ok (.getfield 30, 3) := by decide +kernel
theorem dX11_minutes_46 : decode cX11_minutes 46 = .ok (.getfield 242, 3) := by decide +kernel
theorem dX11_minutes_49 : decode cX11_minutes 49 = .ok (.iconst 1, 1) := by decide +kernel
theorem dX11_minutes_50 : decode cX11_minutes 50 = .ok (.invokevirtual 245, 3) := by decide +kernel
theorem dX11_minutes_53 : decode cX11_minutes 53 = .ok (.iinc 2 1, 3) := by decide +kernel
theorem dX11_minutes_56 : decode cX11_minutes 56 = .ok (.goto (-27), 3) := by decide +kernel
theorem dX11_minutes_59 : decode cX11_minutes 59 = .ok (.aload_n 0, 1) := by decide +kernel
theorem dX11_minutes_60 : decode cX11_minutes 60 = .ok (.getfield 37, 3) := by decide +kernel
theorem dX11_minutes_63 : decode cX11_minutes 63 = .ok (.invokevirtual 187, 3) := by decide +kernel
theorem dX11_minutes_66 : decode cX11_minutes 66 = .ok (.ireturn, 1) := by decide +kernel
theorem dX11_undo_0 : decode cX11_undo 0 = .ok (.aload_n 0, 1) := by decide +kernel
theorem dX11_undo_1 : decode cX11_undo 1 = .ok (.getfield 47, 3) := by decide +kernel
theorem dX11_undo_4 : decode cX11_undo 4 = .ok (.aload_n 0, 1) := by decide +kernel
theorem dX11_undo_5 : decode cX11_undo 5 = .ok (.getfield 37, 3) := by decide +kernel
theorem dX11_undo_8 : decode cX11_undo 8 = .ok (.invokevirtual 249, 3) := by decide +kernel
theorem dX11_undo_11 : decode cX11_undo 11 = .ok (.ireturn, 1) := by decide +kernel
theorem dX11_hold_0 : decode cX11_hold 0 = .ok (.aload_n 0, 1) := by decide +kernel
theorem dX11_hold_1 : decode cX11_hold 1 = .ok (.getfield 47, 3) := by decide +kernel
theorem dX11_hold_4 : decode cX11_hold 4 = .ok (.iload_n 1, 1) := by decide +kernel
theorem dX11_hold_5 : decode cX11_hold 5 = .ok (.aload_n 0, 1) := by decide +kernel
theorem dX11_hold_6 : decode cX11_hold 6 = .ok (.getfield 37, 3) := by decide +kernel
theorem dX11_hold_9 : decode cX11_hold 9 = .ok (.invokevirtual 253, 3) := by decide +kernel
theorem dX11_hold_12 : decode cX11_hold 12 = .ok (.ireturn, 1) := by decide +kernel
theorem dX11_restore_0 : decode cX11_restore 0 = .ok (.aload_n 0, 1) := by decide +kernel
theorem dX11_restore_1 : decode cX11_restore 1 = .ok (.getfield 47, 3) := by decide +kernel
theorem dX11_restore_4 : decode cX11_restore 4 = .ok (.iload_n 1, 1) := by decide +kernel
theorem dX11_restore_5 : decode cX11_restore 5 = .ok (.aload_n 0, 1) := by decide +kernel
theorem dX11_restore_6 : decode cX11_restore 6 = .ok (.getfield 37, 3) := by decide +kernel
theorem dX11_restore_9 : decode cX11_restore 9 = .ok (.invokevirtual 257, 3) := by decide +kernel
theorem dX11_restore_12 : decode cX11_restore 12 = .ok (.ireturn, 1) := by decide +kernel
theorem dX11_inTheWay_0 : decode cX11_inTheWay 0 = .ok (.aload_n 0, 1) := by decide +kernel
theorem dX11_inTheWay_1 : decode cX11_inTheWay 1 = .ok (.iload_n 1, 1) := by decide +kernel
theorem dX11_inTheWay_2 : decode cX11_inTheWay 2 = .ok (.iload_n 2, 1) := by decide +kernel
theorem dX11_inTheWay_3 : decode cX11_inTheWay 3 = .ok (.invokevirtual 168, 3) := by decide +kernel
theorem dX11_inTheWay_6 : decode cX11_inTheWay 6 = .ok (.ifCond .eq 19, 3) := by decide +kernel
theorem dX11_inTheWay_9 : decode cX11_inTheWay 9 = .ok (.aload_n 0, 1) := by decide +kernel
theorem dX11_inTheWay_10 : decode cX11_inTheWay 10 = .ok (.getfield 72, 3) := by decide +kernel
theorem dX11_inTheWay_13 : decode cX11_inTheWay 13 = .ok (.aload_n 0, 1) := by decide +kernel
theorem dX11_inTheWay_14 : decode cX11_inTheWay 14 = .ok (.getfield 37, 3) := by decide +kernel
theorem dX11_inTheWay_17 : decode cX11_inTheWay 17 = .ok (.iload_n 1, 1) := by decide +kernel
theorem dX11_inTheWay_18 : decode cX11_inTheWay 18 = .ok (.iload_n 2, 1) := by decide +kernel
theorem dX11_inTheWay_19 : decode cX11_inTheWay 19 = .ok (.invokevirtual 260, 3) := by decide +kernel
theorem dX11_inTheWay_22 : decode cX11_inTheWay 22 = .ok (.goto 4, 3) := by decide +kernel
theorem dX11_inTheWay_25 : decode cX11_inTheWay 25 = .ok (.iconst (-1), 1) := by decide +kernel
theorem dX11_inTheWay_26 : decode cX11_inTheWay 26 = .ok (.ireturn, 1) := by decide +kernel
theorem dX11_above_0 : decode cX11_above 0 = .ok (.aload_n 0, 1) := by decide +kernel
theorem dX11_above_1 : decode cX11_above 1 = .ok (.getfield 30, 3) := by decide +kernel
theorem dX11_above_4 : decode cX11_above 4 = .ok (.iload_n 1, 1) := by decide +kernel
theorem dX11_above_5 : decode cX11_above 5 = .ok (.invokevirtual 131, 3) := by decide +kernel
theorem dX11_above_8 : decode cX11_above 8 = .ok (.ifCond .eq 18, 3) := by decide +kernel
theorem dX11_above_11 : decode cX11_above 11 = .ok (.aload_n 0, 1) := by decide +kernel
theorem dX11_above_12 : decode cX11_above 12 = .ok (.getfield 72, 3) := by decide +kernel
theorem dX11_above_15 : decode cX11_above 15 = .ok (.aload_n 0, 1) := by decide +kernel
theorem dX11_above_16 : decode cX11_above 16 = .ok (.getfield 37, 3) := by decide +kernel
theorem dX11_above_19 : decode cX11_above 19 = .ok (.iload_n 1, 1) := by decide +kernel
theorem dX11_above_20 : decode cX11_above 20 = .ok (.invokevirtual 284, 3) := by decide +kernel
theorem dX11_above_23 : decode cX11_above 23 = .ok (.goto 4, 3) := by decide +kernel
theorem dX11_above_26 : decode cX11_above 26 = .ok (.iconst (-1), 1) := by decide +kernel
theorem dX11_above_27 : decode cX11_above 27 = .ok (.ireturn, 1) := by decide +kernel
theorem dX11_free_0 : decode cX11_free 0 = .ok (.iload_n 1, 1) := by decide +kernel
theorem dX11_free_1 : decode cX11_free 1 = .ok (.iconst 1, 1) := by decide +kernel
theorem dX11_free_2 : decode cX11_free 2 = .ok (.bipush 9, 2) := by decide +kernel
theorem dX11_free_4 : decode cX11_free 4 = .ok (.invokestatic 235, 3) := by decide +kernel
theorem dX11_free_7 : decode cX11_free 7 = .ok (.ifCond .eq 18, 3) := by decide +kernel
theorem dX11_free_10 : decode cX11_free 10 = .ok (.aload_n 0, 1) := by decide +kernel
theorem dX11_free_11 : decode cX11_free 11 = .ok (.getfield 72, 3) := by decide +kernel
theorem dX11_free_14 : decode cX11_free 14 = .ok (.aload_n 0, 1) := by decide +kernel
theorem dX11_free_15 : decode cX11_free 15 = .ok (.getfield 37, 3) := by decide +kernel
theorem dX11_free_18 : decode cX11_free 18 = .ok (.iload_n 1, 1) := by decide +kernel
theorem dX11_free_19 : decode cX11_free 19 = .ok (.invokevirtual 312, 3) := by decide +kernel
theorem dX11_free_22 : decode cX11_free 22 = .ok (.goto 4, 3) := by decide +kernel
theorem dX11_free_25 : decode cX11_free 25 = .ok (.iconst (-1), 1) := by decide +kernel
theorem dX11_free_26 : decode cX11_free 26 = .ok (.ireturn, 1) := by decide +kernel
theorem dX11_tell_0 : decode cX11_tell 0 = .ok (.aload_n 0, 1) := by decide +kernel
theorem dX11_tell_1 : decode cX11_tell 1 = .ok (.getfield 30, 3) := by decide +kernel
theorem dX11_tell_4 : decode cX11_tell 4 = .ok (.iload_n 1, 1) := by decide +kernel
theorem dX11_tell_5 : decode cX11_tell 5 = .ok (.invokevirtual 149, 3) := by decide +kernel
theorem dX11_tell_8 : decode cX11_tell 8 = .ok (.ifCond .eq 15, 3) := by decide +kernel
theorem dX11_tell_11 : decode cX11_tell 11 = .ok (.aload_n 0, 1) := by decide +kernel
theorem dX11_tell_12 : decode cX11_tell 12 = .ok (.getfield 86, 3) := by decide +kernel
theorem dX11_tell_15 : decode cX11_tell 15 = .ok (.iload_n 1, 1) := by decide +kernel
theorem dX11_tell_16 : decode cX11_tell 16 = .ok (.iload_n 2, 1) := by decide +kernel
theorem dX11_tell_17 : decode cX11_tell 17 = .ok (.invokevirtual 346, 3) := by decide +kernel
theorem dX11_tell_20 : decode cX11_tell 20 = .ok (.goto 4, 3) := by decide +kernel
theorem dX11_tell_23 : decode cX11_tell 23 = .ok (.iconst (-1), 1) := by decide +kernel
theorem dX11_tell_24 : decode cX11_tell 24 = .ok (.ireturn, 1) := by decide +kernel
theorem dX11_forget_0 : decode cX11_forget 0 = .ok (.aload_n 0, 1) := by decide +kernel
theorem dX11_forget_1 : decode cX11_forget 1 = .ok (.getfield 86, 3) := by decide +kernel
theorem dX11_forget_4 : decode cX11_forget 4 = .ok (.invokevirtual 129, 3) := by decide +kernel
theorem dX11_forget_7 : decode cX11_forget 7 = .ok (.ireturn, 1) := by decide +kernel
theorem dX11_at_0 : decode cX11_at 0 = .ok (.iload_n 1, 1) := by decide +kernel
theorem dX11_at_1 : decode cX11_at 1 = .ok (.ifCond .lt 15, 3) := by decide +kernel
theorem dX11_at_4 : decode cX11_at 4 = .ok (.iload_n 1, 1) := by decide +kernel
theorem dX11_at_5 : decode cX11_at 5 = .ok (.aload_n 0, 1) := by decide +kernel
theorem dX11_at_6 : decode cX11_at 6 = .ok (.arraylength, 1) := by decide +kernel
theorem dX11_at_7 : decode cX11_at 7 = .ok (.if_icmp .ge 9, 3) := by decide +kernel
theorem dX11_at_10 : decode cX11_at 10 = .ok (.aload_n 0, 1) := by decide +kernel
theorem dX11_at_11 : decode cX11_at 11 = .ok (.iload_n 1, 1) := by decide +kernel
theorem dX11_at_12 : decode cX11_at 12 = .ok (.iaload, 1) := by decide +kernel
theorem dX11_at_13 : decode cX11_at 13 = .ok (.goto 4, 3) := by decide +kernel
theorem dX11_at_16 : decode cX11_at 16 = .ok (.iconst 0, 1) := by decide +kernel
theorem dX11_at_17 : decode cX11_at 17 = .ok (.ireturn, 1) := by decide +kernel
theorem dX11_hasBit_0 : decode cX11_hasBit 0 = .ok (.iload_n 1, 1) := by decide +kernel
theorem dX11_hasBit_1 : decode cX11_hasBit 1 = .ok (.ifCond .lt 21, 3) := by decide +kernel
theorem dX11_hasBit_4 : decode cX11_hasBit 4 = .ok (.iload_n 1, 1) := by decide +kernel
theorem dX11_hasBit_5 : decode cX11_hasBit 5 = .ok (.bipush 32, 2) := by decide +kernel
theorem dX11_hasBit_7 : decode cX11_hasBit 7 = .ok (.if_icmp .ge 15, 3) := by decide +kernel
theorem dX11_hasBit_10 : decode cX11_hasBit 10 = .ok (.iload_n 0, 1) := by decide +kernel
theorem dX11_hasBit_11 : decode cX11_hasBit 11 = .ok (.iload_n 1, 1) := by decide +kernel
theorem dX11_hasBit_12 : decode cX11_hasBit 12 = .ok (.iushr, 1) := by decide +kernel
theorem dX11_hasBit_13 : decode cX11_hasBit 13 = .ok (.iconst 1, 1) := by decide +kernel
theorem dX11_hasBit_14 : decode cX11_hasBit 14 = .ok (.iand, 1) := by decide +kernel
theorem dX11_hasBit_15 : decode cX11_hasBit 15 = .ok (.ifCond .eq 7, 3) := by decide +kernel
theorem dX11_hasBit_18 : decode cX11_hasBit 18 = .ok (.iconst 1, 1) := by decide +kernel
theorem dX11_hasBit_19 : decode cX11_hasBit 19 = .ok (.goto 4, 3) := by decide +kernel
theorem dX11_hasBit_22 : decode cX11_hasBit 22 = .ok (.iconst 0, 1) := by decide +kernel
theorem dX11_hasBit_23 : decode cX11_hasBit 23 = .ok (.ireturn, 1) := by decide +kernel
theorem dX11_lot_0 : decode cX11_lot 0 = .ok (.iload_n 1, 1) := by decide +kernel
theorem dX11_lot_1 : decode cX11_lot 1 = .ok (.sipush 131, 3) := by decide +kernel
theorem dX11_lot_4 : decode cX11_lot 4 = .ok (.invokestatic 356, 3) := by decide +kernel
theorem dX11_lot_7 : decode cX11_lot 7 = .ok (.iload_n 2, 1) := by decide +kernel
theorem dX11_lot_8 : decode cX11_lot 8 = .ok (.invokestatic 356, 3) := by decide +kernel
theorem dX11_lot_11 : decode cX11_lot 11 = .ok (.istore_n 3, 1) := by decide +kernel
theorem dX11_lot_12 : decode cX11_lot 12 = .ok (.iload_n 0, 1) := by decide +kernel
theorem dX11_lot_13 : decode cX11_lot 13 = .ok (.ifCond .le 11, 3) := by decide +kernel
theorem dX11_lot_16 : decode cX11_lot 16 = .ok (.iload_n 3, 1) := by decide +kernel
theorem dX11_lot_17 : decode cX11_lot 17 = .ok (.iconst 1, 1) := by decide +kernel
theorem dX11_lot_18 : decode cX11_lot 18 = .ok (.iushr, 1) := by decide +kernel
theorem dX11_lot_19 : decode cX11_lot 19 = .ok (.iload_n 0, 1) := by decide +kernel
theorem dX11_lot_20 : decode cX11_lot 20 = .ok (.irem, 1) := by decide +kernel
theorem dX11_lot_21 : decode cX11_lot 21 = .ok (.goto 4, 3) := by decide +kernel
theorem dX11_lot_24 : decode cX11_lot 24 = .ok (.iconst 0, 1) := by decide +kernel
theorem dX11_lot_25 : decode cX11_lot 25 = .ok (.ireturn, 1) := by decide +kernel
theorem dX11_stirred_0 : decode cX11_stirred 0 = .ok (.iload_n 0, 1) := by decide +kernel
theorem dX11_stirred_1 : decode cX11_stirred 1 = .ok (.iload_n 1, 1) := by decide +kernel
theorem dX11_stirred_2 : decode cX11_stirred 2 = .ok (.ixor, 1) := by decide +kernel
theorem dX11_stirred_3 : decode cX11_stirred 3 = .ok (.ldc_w 359, 3) := by decide +kernel
theorem dX11_stirred_6 : decode cX11_stirred 6 = .ok (.imul, 1) := by decide +kernel
theorem dX11_stirred_7 : decode cX11_stirred 7 = .ok (.sipush 12345, 3) := by decide +kernel
theorem dX11_stirred_10 : decode cX11_stirred 10 = .ok (.iadd, 1) := by decide +kernel
theorem dX11_stirred_11 : decode cX11_stirred 11 = .ok (.istore_n 2, 1) := by decide +kernel
theorem dX11_stirred_12 : decode cX11_stirred 12 = .ok (.iload_n 2, 1) := by decide +kernel
theorem dX11_stirred_13 : decode cX11_stirred 13 = .ok (.iload_n 2, 1) := by decide +kernel
theorem dX11_stirred_14 : decode cX11_stirred 14 = .ok (.bipush 15, 2) := by decide +kernel
theorem dX11_stirred_16 : decode cX11_stirred 16 = .ok (.iushr, 1) := by decide +kernel
theorem dX11_stirred_17 : decode cX11_stirred 17 = .ok (.ixor, 1) := by decide +kernel
theorem dX11_stirred_18 : decode cX11_stirred 18 = .ok (.ireturn, 1) := by decide +kernel
theorem dJ7_fill_53178_0 : decode cJ7_fill_53178 0 = .ok (.iconst 0, 1) := by decide +kernel
theorem dJ7_fill_53178_1 : decode cJ7_fill_53178 1 = .ok (.istore_n 2, 1) := by decide +kernel
theorem dJ7_fill_53178_2 : decode cJ7_fill_53178 2 = .ok (.aload_n 0, 1) := by decide +kernel
theorem dJ7_fill_53178_3 : decode cJ7_fill_53178 3 = .ok (.arraylength, 1) := by decide +kernel
theorem dJ7_fill_53178_4 : decode cJ7_fill_53178 4 = .ok (.istore_n 3, 1) := by decide +kernel
theorem dJ7_fill_53178_5 : decode cJ7_fill_53178 5 = .ok (.iload_n 2, 1) := by decide +kernel
theorem dJ7_fill_53178_6 : decode cJ7_fill_53178 6 = .ok (.iload_n 3, 1) := by decide +kernel
theorem dJ7_fill_53178_7 : decode cJ7_fill_53178 7 = .ok (.if_icmp .ge 13, 3) := by decide +kernel
theorem dJ7_fill_53178_10 : decode cJ7_fill_53178 10 = .ok (.aload_n 0, 1) := by decide +kernel
theorem dJ7_fill_53178_11 : decode cJ7_fill_53178 11 = .ok (.iload_n 2, 1) := by decide +kernel
theorem dJ7_fill_53178_12 : decode cJ7_fill_53178 12 = .ok (.iload_n 1, 1) := by decide +kernel
theorem dJ7_fill_53178_13 : decode cJ7_fill_53178 13 = .ok (.iastore, 1) := by decide +kernel
theorem dJ7_fill_53178_14 : decode cJ7_fill_53178 14 = .ok (.iinc 2 1, 3) := by decide +kernel
theorem dJ7_fill_53178_17 : decode cJ7_fill_53178 17 = .ok (.goto (-12), 3) := by decide +kernel
theorem dJ7_fill_53178_20 : decode cJ7_fill_53178 20 = .ok (.return_, 1) := by decide +kernel

