theorem dX0_init_0 : decode cX0_init 0 = .ok (.aload_n 0, 1) := by decide +kernel
theorem dX0_init_1 : decode cX0_init 1 = .ok (.invokespecial 3, 3) := by decide +kernel
theorem dX0_init_4 : decode cX0_init 4 = .ok (.aload_n 0, 1) := by decide +kernel
theorem dX0_init_5 : decode cX0_init 5 = .ok (.iload_n 1, 1) := by decide +kernel
theorem dX0_init_6 : decode cX0_init 6 = .ok (.anewarray 9, 3) := by decide +kernel
theorem dX0_init_9 : decode cX0_init 9 = .ok (.putfield 11, 3) := by decide +kernel
theorem dX0_init_12 : decode cX0_init 12 = .ok (.iconst 0, 1) := by decide +kernel
theorem dX0_init_13 : decode cX0_init 13 = .ok (.istore 6, 2) := by decide +kernel
theorem dX0_init_15 : decode cX0_init 15 = .ok (.iload 6, 2) := by decide +kernel
theorem dX0_init_17 : decode cX0_init 17 = .ok (.iload_n 1, 1) := by decide +kernel
theorem dX0_init_18 : decode cX0_init 18 = .ok (.if_icmp .ge 23, 3) := by decide +kernel
theorem dX0_init_21 : decode cX0_init 21 = .ok (.aload_n 0, 1) := by decide +kernel
theorem dX0_init_22 : decode cX0_init 22 = .ok (.getfield 11, 3) := by decide +kernel
theorem dX0_init_25 : decode cX0_init 25 = .ok (.iload 6, 2) := by decide +kernel
theorem dX0_init_27 : decode cX0_init 27 = .ok (.new 9, 3) := by decide +kernel
theorem dX0_init_30 : decode cX0_init 30 = .ok (.dup, 1) := by decide +kernel
theorem dX0_init_31 : decode cX0_init 31 = .ok (.invokespecial 17, 3) := by decide +kernel
theorem dX0_init_34 : decode cX0_init 34 = .ok (.aastore, 1) := by decide +kernel
theorem dX0_init_35 : decode cX0_init 35 = .ok (.iinc 6 1, 3) := by decide +kernel
theorem dX0_init_38 : decode cX0_init 38 = .ok (.goto (-23), 3) := by decide +kernel
theorem dX0_init_41 : decode cX0_init 41 = .ok (.aload_n 0, 1) := by decide +kernel
theorem dX0_init_42 : decode cX0_init 42 = .ok (.iload_n 2, 1) := by decide +kernel
theorem dX0_init_43 : decode cX0_init 43 = .ok (.putfield 18, 3) := by decide +kernel
theorem dX0_init_46 : decode cX0_init 46 = .ok (.aload_n 0, 1) := by decide +kernel
theorem dX0_init_47 : decode cX0_init 47 = .ok (.iload_n 3, 1) := by decide +kernel
theorem dX0_init_48 : decode cX0_init 48 = .ok (.putfield 22, 3) := by decide +kernel
theorem dX0_init_51 : decode cX0_init 51 = .ok (.aload_n 0, 1) := by decide +kernel
theorem dX0_init_52 : decode cX0_init 52 = .ok (.iload 4, 2) := by decide +kernel
theorem dX0_init_54 : decode cX0_init 54 = .ok (.putfield 25, 3) := by decide +kernel
theorem dX0_init_57 : decode cX0_init 57 = .ok (.aload_n 0, 1) := by decide +kernel
theorem dX0_init_58 : decode cX0_init 58 = .ok (.iload 5, 2) := by decide +kernel
theorem dX0_init_60 : decode cX0_init 60 = .ok (.putfield 28, 3) := by decide +kernel
theorem dX0_init_63 : decode cX0_init 63 = .ok (.return_, 1) := by decide +kernel
theorem dX0_waitsForWork_0 : decode cX0_waitsForWork 0 = .ok (.aload_n 0, 1) := by decide +kernel
theorem dX0_waitsForWork_1 : decode cX0_waitsForWork 1 = .ok (.getfield 22, 3) := by decide +kernel
theorem dX0_waitsForWork_4 : decode cX0_waitsForWork 4 = .ok (.ifCond .le 19, 3) := by decide +kernel
theorem dX0_waitsForWork_7 : decode cX0_waitsForWork 7 = .ok (.aload_n 0, 1) := by decide +kernel
theorem dX0_waitsForWork_8 : decode cX0_waitsForWork 8 = .ok (.invokevirtual 31, 3) := by decide +kernel
theorem dX0_waitsForWork_11 : decode cX0_waitsForWork 11 = .ok (.aload_n 0, 1) := by decide +kernel
theorem dX0_waitsForWork_12 : decode cX0_waitsForWork 12 = .ok (.getfield 11, 3) := by decide +kernel
theorem dX0_waitsForWork_15 : decode cX0_waitsForWork 15 = .ok (.arraylength, 1) := by decide +kernel
theorem dX0_waitsForWork_16 : decode cX0_waitsForWork 16 = .ok (.if_icmp .ge 7, 3) := by decide +kernel
theorem dX0_waitsForWork_19 : decode cX0_waitsForWork 19 = .ok (.iconst 1, 1) := by decide +kernel
theorem dX0_waitsForWork_20 : decode cX0_waitsForWork 20 = .ok (.goto 4, 3) := by decide +kernel
theorem dX0_waitsForWork_23 : decode cX0_waitsForWork 23 = .ok (.iconst 0, 1) := by decide +kernel
theorem dX0_waitsForWork_24 : decode cX0_waitsForWork 24 = .ok (.ireturn, 1) := by decide +kernel
theorem dX0_goesBefore_0 : decode cX0_goesBefore 0 = .ok (.aload_n 0, 1) := by decide +kernel
theorem dX0_goesBefore_1 : decode cX0_goesBefore 1 = .ok (.getfield 25, 3) := by decide +kernel
theorem dX0_goesBefore_4 : decode cX0_goesBefore 4 = .ok (.aload_n 1, 1) := by decide +kernel
theorem dX0_goesBefore_5 : decode cX0_goesBefore 5 = .ok (.getfield 25, 3) := by decide +kernel
theorem dX0_goesBefore_8 : decode cX0_goesBefore 8 = .ok (.if_icmp .gt 25, 3) := by decide +kernel
theorem dX0_goesBefore_11 : decode cX0_goesBefore 11 = .ok (.aload_n 0, 1) := by decide +kernel
theorem dX0_goesBefore_12 : decode cX0_goesBefore 12 = .ok (.getfield 25, 3) := by decide +kernel
theorem dX0_goesBefore_15 : decode cX0_goesBefore 15 = .ok (.aload_n 1, 1) := by decide +kernel
theorem dX0_goesBefore_16 : decode cX0_goesBefore 16 = .ok (.getfield 25, 3) := by decide +kernel
theorem dX0_goesBefore_19 : decode cX0_goesBefore 19 = .ok (.if_icmp .ne 18, 3) := by decide +kernel
theorem dX0_goesBefore_22 : decode cX0_goesBefore 22 = .ok (.aload_n 0, 1) := by decide +kernel
theorem dX0_goesBefore_23 : decode cX0_goesBefore 23 = .ok (.getfield 22, 3) := by decide +kernel
theorem dX0_goesBefore_26 : decode cX0_goesBefore 26 = .ok (.aload_n 1, 1) := by decide +kernel
theorem dX0_goesBefore_27 : decode cX0_goesBefore 27 = .ok (.getfield 22, 3) := by decide +kernel
theorem dX0_goesBefore_30 : decode cX0_goesBefore 30 = .ok (.if_icmp .ge 7, 3) := by decide +kernel
theorem dX0_goesBefore_33 : decode cX0_goesBefore 33 = .ok (.iconst 1, 1) := by decide +kernel
theorem dX0_goesBefore_34 : decode cX0_goesBefore 34 = .ok (.goto 4, 3) := by decide +kernel
theorem dX0_goesBefore_37 : decode cX0_goesBefore 37 = .ok (.iconst 0, 1) := by decide +kernel
theorem dX0_goesBefore_38 : decode cX0_goesBefore 38 = .ok (.ireturn, 1) := by decide +kernel
theorem dX0_countShotPages_0 : decode cX0_countShotPages 0 = .ok (.iconst 0, 1) := by decide +kernel
theorem dX0_countShotPages_1 : decode cX0_countShotPages 1 = .ok (.istore_n 1, 1) := by decide +kernel
theorem dX0_countShotPages_2 : decode cX0_countShotPages 2 = .ok (.aload_n 0, 1) := by decide +kernel
theorem dX0_countShotPages_3 : decode cX0_countShotPages 3 = .ok (.getfield 11, 3) := by decide +kernel
theorem dX0_countShotPages_6 : decode cX0_countShotPages 6 = .ok (.astore_n 2, 1) := by decide +kernel
theorem dX0_countShotPages_7 : decode cX0_countShotPages 7 = .ok (.aload_n 2, 1) := by decide +kernel
theorem dX0_countShotPages_8 : decode cX0_countShotPages 8 = .ok (.arraylength, 1) := by decide +kernel
theorem dX0_countShotPages_9 : decode cX0_countShotPages 9 = .ok (.istore_n 3, 1) := by decide +kernel
theorem dX0_countShotPages_10 : decode cX0_countShotPages 10 = .ok (.iconst 0, 1) := by decide +kernel
theorem dX0_countShotPages_11 : decode cX0_countShotPages 11 = .ok (.istore 4, 2) := by decide +kernel
theorem dX0_countShotPages_13 : decode cX0_countShotPages 13 = .ok (.iload 4, 2) := by decide +kernel
theorem dX0_countShotPages_15 : decode cX0_countShotPages 15 = .ok (.iload_n 3, 1) := by decide +kernel
theorem dX0_countShotPages_16 : decode cX0_countShotPages 16 = .ok (.if_icmp .ge 31, 3) := by decide +kernel
theorem dX0_countShotPages_19 : decode cX0_countShotPages 19 = .ok (.aload_n 2, 1) := by decide +kernel
theorem dX0_countShotPages_20 : decode cX0_countShotPages 20 = .ok (.iload 4, 2) := by decide +kernel
theorem dX0_countShotPages_22 : decode cX0_countShotPages 22 = .ok (.aaload, 1) := by decide +kernel
theorem dX0_countShotPages_23 : decode cX0_countShotPages 23 = .ok (.astore 5, 2) := by decide +kernel
theorem dX0_countShotPages_25 : decode cX0_countShotPages 25 = .ok (.iload_n 1, 1) := by decide +kernel
theorem dX0_countShotPages_26 : decode cX0_countShotPages 26 = .ok (.aload 5, 2) := by decide +kernel
theorem dX0_countShotPages_28 : decode cX0_countShotPages 28 = .ok (.getfield 35, 3) := by decide +kernel
theorem dX0_countShotPages_31 : decode cX0_countShotPages 31 = .ok (.ifCond .eq 7, 3) := by decide +kernel
theorem dX0_countShotPages_34 : decode cX0_countShotPages 34 = .ok (.iconst 1, 1) := by decide +kernel
theorem dX0_countShotPages_35 : decode cX0_countShotPages 35 = .ok (.goto 4, 3) := by decide +kernel
theorem dX0_countShotPages_38 : decode cX0_countShotPages 38 = .ok (.iconst 0, 1) := by decide +kernel
theorem dX0_countShotPages_39 : decode cX0_countShotPages 39 = .ok (.iadd, 1) := by decide +kernel
theorem dX0_countShotPages_40 : decode cX0_countShotPages 40 = .ok (.istore_n 1, 1) := by decide +kernel
theorem dX0_countShotPages_41 : decode cX0_countShotPages 41 = .ok (.iinc 4 1, 3) := by decide +kernel
theorem dX0_countShotPages_44 : decode cX0_countShotPages 44 = .ok (.goto (-31), 3) := by decide +kernel
theorem dX0_countShotPages_47 : decode cX0_countShotPages 47 = .ok (.iload_n 1, 1) := by decide +kernel
theorem dX0_countShotPages_48 : decode cX0_countShotPages 48 = .ok (.ireturn, 1) := by decide +kernel
theorem dX0_countFaultyShots_0 : decode cX0_countFaultyShots 0 = .ok (.iconst 0, 1) := by decide +kernel
theorem dX0_countFaultyShots_1 : decode cX0_countFaultyShots 1 = .ok (.istore_n 1, 1) := by decide +kernel
theorem dX0_countFaultyShots_2 : decode cX0_countFaultyShots 2 = .ok (.aload_n 0, 1) := by decide +kernel
theorem dX0_countFaultyShots_3 : decode cX0_countFaultyShots 3 = .ok (.getfield 11, 3) := by decide +kernel
theorem dX0_countFaultyShots_6 : decode cX0_countFaultyShots 6 = .ok (.astore_n 2, 1) := by decide +kernel
theorem dX0_countFaultyShots_7 : decode cX0_countFaultyShots 7 = .ok (.aload_n 2, 1) := by decide +kernel
theorem dX0_countFaultyShots_8 : decode cX0_countFaultyShots 8 = .ok (.arraylength, 1) := by decide +kernel
theorem dX0_countFaultyShots_9 : decode cX0_countFaultyShots 9 = .ok (.istore_n 3, 1) := by decide +kernel
theorem dX0_countFaultyShots_10 : decode cX0_countFaultyShots 10 = .ok (.iconst 0, 1) := by decide +kernel
theorem dX0_countFaultyShots_11 : decode cX0_countFaultyShots 11 = .ok (.istore 4, 2) := by decide +kernel
theorem dX0_countFaultyShots_13 : decode cX0_countFaultyShots 13 = .ok (.iload 4, 2) := by decide +kernel
theorem dX0_countFaultyShots_15 : decode cX0_countFaultyShots 15 = .ok (.iload_n 3, 1) := by decide +kernel
theorem dX0_countFaultyShots_16 : decode cX0_countFaultyShots 16 = .ok (.if_icmp .ge 31, 3) := by decide +kernel
theorem dX0_countFaultyShots_19 : decode cX0_countFaultyShots 19 = .ok (.aload_n 2, 1) := by decide +kernel
theorem dX0_countFaultyShots_20 : decode cX0_countFaultyShots 20 = .ok (.iload 4, 2) := by decide +kernel
theorem dX0_countFaultyShots_22 : decode cX0_countFaultyShots 22 = .ok (.aaload, 1) := by decide +kernel
theorem dX0_countFaultyShots_23 : decode cX0_countFaultyShots 23 = .ok (.astore 5, 2) := by decide +kernel
theorem dX0_countFaultyShots_25 : decode cX0_countFaultyShots 25 = .ok (.iload_n 1, 1) := by decide +kernel
theorem dX0_countFaultyShots_26 : decode cX0_countFaultyShots 26 = .ok (.aload 5, 2) := by decide +kernel
theorem dX0_countFaultyShots_28 : decode cX0_countFaultyShots 28 = .ok (.getfield 39, 3) := by decide +kernel
theorem dX0_countFaultyShots_31 : decode cX0_countFaultyShots 31 = .ok (.ifCond .eq 7, 3) := by decide +kernel
theorem dX0_countFaultyShots_34 : decode cX0_countFaultyShots 34 = .ok (.iconst 1, 1) := by decide +kernel
theorem dX0_countFaultyShots_35 : decode cX0_countFaultyShots 35 = .ok (.goto 4, 3) := by decide +kernel
theorem dX0_countFaultyShots_38 : decode cX0_countFaultyShots 38 = .ok (.iconst 0, 1) := by decide +kernel
theorem dX0_countFaultyShots_39 : decode cX0_countFaultyShots 39 = .ok (.iadd, 1) := by decide +kernel
theorem dX0_countFaultyShots_40 : decode cX0_countFaultyShots 40 = .ok (.istore_n 1, 1) := by decide +kernel
theorem dX0_countFaultyShots_41 : decode cX0_countFaultyShots 41 = .ok (.iinc 4 1, 3) := by decide +kernel
theorem dX0_countFaultyShots_44 : decode cX0_countFaultyShots 44 = .ok (.goto (-31), 3) := by decide +kernel
theorem dX0_countFaultyShots_47 : decode cX0_countFaultyShots 47 = .ok (.iload_n 1, 1) := by decide +kernel
theorem dX0_countFaultyShots_48 : decode cX0_countFaultyShots 48 = .ok (.ireturn, 1) := by decide +kernel
theorem dX0_countLostPages_0 : decode cX0_countLostPages 0 = .ok (.iconst 0, 1) := by decide +kernel
theorem dX0_countLostPages_1 : decode cX0_countLostPages 1 = .ok (.istore_n 1, 1) := by decide +kernel
theorem dX0_countLostPages_2 : decode cX0_countLostPages 2 = .ok (.aload_n 0, 1) := by decide +kernel
theorem dX0_countLostPages_3 : decode cX0_countLostPages 3 = .ok (.getfield 11, 3) := by decide +kernel
theorem dX0_countLostPages_6 : decode cX0_countLostPages 6 = .ok (.astore_n 2, 1) := by decide +kernel
theorem dX0_countLostPages_7 : decode cX0_countLostPages 7 = .ok (.aload_n 2, 1) := by decide +kernel
theorem dX0_countLostPages_8 : decode cX0_countLostPages 8 = .ok (.arraylength, 1) := by decide +kernel
theorem dX0_countLostPages_9 : decode cX0_countLostPages 9 = .ok (.istore_n 3, 1) := by decide +kernel
theorem dX0_countLostPages_10 : decode cX0_countLostPages 10 = .ok (.iconst 0, 1) := by decide +kernel
theorem dX0_countLostPages_11 : decode cX0_countLostPages 11 = .ok (.istore 4, 2) := by decide +kernel
theorem dX0_countLostPages_13 : decode cX0_countLostPages 13 = .ok (.iload 4, 2) := by decide +kernel
theorem dX0_countLostPages_15 : decode cX0_countLostPages 15 = .ok (.iload_n 3, 1) := by decide +kernel
theorem dX0_countLostPages_16 : decode cX0_countLostPages 16 = .ok (.if_icmp .ge 31, 3) := by decide +kernel
theorem dX0_countLostPages_19 : decode cX0_countLostPages 19 = .ok (.aload_n 2, 1) := by decide +kernel
theorem dX0_countLostPages_20 : decode cX0_countLostPages 20 = .ok (.iload 4, 2) := by decide +kernel
theorem dX0_countLostPages_22 : decode cX0_countLostPages 22 = .ok (.aaload, 1) := by decide +kernel
theorem dX0_countLostPages_23 : decode cX0_countLostPages 23 = .ok (.astore 5, 2) := by decide +kernel
theorem dX0_countLostPages_25 : decode cX0_countLostPages 25 = .ok (.iload_n 1, 1) := by decide +kernel
theorem dX0_countLostPages_26 : decode cX0_countLostPages 26 = .ok (.aload 5, 2) := by decide +kernel
theorem dX0_countLostPages_28 : decode cX0_countLostPages 28 = .ok (.invokevirtual 42, 3) := by decide +kernel
theorem dX0_countLostPages_31 : decode cX0_countLostPages 31 = .ok (.ifCond .eq 7, 3) := by decide +kernel
theorem dX0_countLostPages_34 : decode cX0_countLostPages 34 = .ok (.iconst 1, 1) := by decide +kernel
theorem dX0_countLostPages_35 : decode cX0_countLostPages 35 = .ok (.goto 4, 3) := by decide +kernel
theorem dX0_countLostPages_38 : decode cX0_countLostPages 38 = .ok (.iconst 0, 1) := by decide +kernel
theorem dX0_countLostPages_39 : decode cX0_countLostPages 39 = .ok (.iadd, 1) := by decide +kernel
theorem dX0_countLostPages_40 : decode cX0_countLostPages 40 = .ok (.istore_n 1, 1) := by decide +kernel
theorem dX0_countLostPages_41 : decode cX0_countLostPages 41 = .ok (.iinc 4 1, 3) := by decide +kernel
theorem dX0_countLostPages_44 : decode cX0_countLostPages 44 = .ok (.goto (-31), 3) := by decide +kernel
theorem dX0_countLostPages_47 : decode cX0_countLostPages 47 = .ok (.iload_n 1, 1) := by decide +kernel
theorem dX0_countLostPages_48 : decode cX0_countLostPages 48 = .ok (.ireturn, 1) := by decide +kernel
theorem dX0_dropCopies_0 : decode cX0_dropCopies 0 = .ok (.iconst 0, 1) := by decide +kernel
theorem dX0_dropCopies_1 : decode cX0_dropCopies 1 = .ok (.istore_n 2, 1) := by decide +kernel
theorem dX0_dropCopies_2 : decode cX0_dropCopies 2 = .ok (.aload_n 0, 1) := by decide +kernel
theorem dX0_dropCopies_3 : decode cX0_dropCopies 3 = .ok (.getfield 11, 3) := by decide +kernel
theorem dX0_dropCopies_6 : decode cX0_dropCopies 6 = .ok (.astore_n 3, 1) := by decide +kernel
theorem dX0_dropCopies_7 : decode cX0_dropCopies 7 = .ok (.aload_n 3, 1) := by decide +kernel
theorem dX0_dropCopies_8 : decode cX0_dropCopies 8 = .ok (.arraylength, 1) := by decide +kernel
theorem dX0_dropCopies_9 : decode cX0_dropCopies 9 = .ok (.istore 4, 2) := by decide +kernel
theorem dX0_dropCopies_11 : decode cX0_dropCopies 11 = .ok (.iconst 0, 1) := by decide +kernel
theorem dX0_dropCopies_12 : decode cX0_dropCopies 12 = .ok (.istore 5, 2) := by decide +kernel
theorem dX0_dropCopies_14 : decode cX0_dropCopies 14 = .ok (.iload 5, 2) := by decide +kernel
theorem dX0_dropCopies_16 : decode cX0_dropCopies 16 = .ok (.iload 4, 2) := by decide +kernel
theorem dX0_dropCopies_18 : decode cX0_dropCopies 18 = .ok (.if_icmp .ge 41, 3) := by decide +kernel
theorem dX0_dropCopies_21 : decode cX0_dropCopies 21 = .ok (.aload_n 3, 1) := by decide +kernel
theorem dX0_dropCopies_22 : decode cX0_dropCopies 22 = .ok (.iload 5, 2) := by decide +kernel
theorem dX0_dropCopies_24 : decode cX0_dropCopies 24 = .ok (.aaload, 1) := by decide +kernel
theorem dX0_dropCopies_25 : decode cX0_dropCopies 25 = .ok (.astore 6, 2) := by decide +kernel
theorem dX0_dropCopies_27 : decode cX0_dropCopies 27 = .ok (.iload_n 2, 1) := by decide +kernel
theorem dX0_dropCopies_28 : decode cX0_dropCopies 28 = .ok (.aload 6, 2) := by decide +kernel
theorem dX0_dropCopies_30 : decode cX0_dropCopies 30 = .ok (.getfield 46, 3) := by decide +kernel
theorem dX0_dropCopies_33 : decode cX0_dropCopies 33 = .ok (.iload_n 1, 1) := by decide +kernel
theorem dX0_dropCopies_34 : decode cX0_dropCopies 34 = .ok (.baload, 1) := by decide +kernel
theorem dX0_dropCopies_35 : decode cX0_dropCopies 35 = .ok (.ifCond .eq 7, 3) := by decide +kernel
theorem dX0_dropCopies_38 : decode cX0_dropCopies 38 = .ok (.iconst 1, 1) := by decide +kernel
theorem dX0_dropCopies_39 : decode cX0_dropCopies 39 = .ok (.goto 4, 3) := by decide +kernel
theorem dX0_dropCopies_42 : decode cX0_dropCopies 42 = .ok (.iconst 0, 1) := by decide +kernel
theorem dX0_dropCopies_43 : decode cX0_dropCopies 43 = .ok (.iadd, 1) := by decide +kernel
theorem dX0_dropCopies_44 : decode cX0_dropCopies 44 = .ok (.istore_n 2, 1) := by decide +kernel
theorem dX0_dropCopies_45 : decode cX0_dropCopies 45 = .ok (.aload 6, 2) := by decide +kernel
theorem dX0_dropCopies_47 : decode cX0_dropCopies 47 = .ok (.getfield 46, 3) := by decide +kernel
theorem dX0_dropCopies_50 : decode cX0_dropCopies 50 = .ok (.iload_n 1, 1) := by decide +kernel
theorem dX0_dropCopies_51 : decode cX0_dropCopies 51 = .ok (.iconst 0, 1) := by decide +kernel
theorem dX0_dropCopies_52 : decode cX0_dropCopies 52 = .ok (.bastore, 1) := by decide +kernel
theorem dX0_dropCopies_53 : decode cX0_dropCopies 53 = .ok (.iinc 5 1, 3) := by decide +kernel
theorem dX0_dropCopies_56 : decode cX0_dropCopies 56 = .ok (.goto (-42), 3) := by decide +kernel
theorem dX0_dropCopies_59 : decode cX0_dropCopies 59 = .ok (.iload_n 2, 1) := by decide +kernel
theorem dX0_dropCopies_60 : decode cX0_dropCopies 60 = .ok (.ireturn, 1) := by decide +kernel
theorem dX0_placesKeyedBy_0 : decode cX0_placesKeyedBy 0 = .ok (.iconst 0, 1) := by decide +kernel
theorem dX0_placesKeyedBy_1 : decode cX0_placesKeyedBy 1 = .ok (.istore_n 2, 1) := by decide +kernel
theorem dX0_placesKeyedBy_2 : decode cX0_placesKeyedBy 2 = .ok (.aload_n 0, 1) := by decide +kernel
theorem dX0_placesKeyedBy_3 : decode cX0_placesKeyedBy 3 = .ok (.getfield 11, 3) := by decide +kernel
theorem dX0_placesKeyedBy_6 : decode cX0_placesKeyedBy 6 = .ok (.astore_n 3, 1) := by decide +kernel
theorem dX0_placesKeyedBy_7 : decode cX0_placesKeyedBy 7 = .ok (.aload_n 3, 1) := by decide +kernel
theorem dX0_placesKeyedBy_8 : decode cX0_placesKeyedBy 8 = .ok (.arraylength, 1) := by decide +kernel
theorem dX0_placesKeyedBy_9 : decode cX0_placesKeyedBy 9 = .ok (.istore 4, 2) := by decide +kernel
theorem dX0_placesKeyedBy_11 : decode cX0_placesKeyedBy 11 = .ok (.iconst 0, 1) := by decide +kernel
theorem dX0_placesKeyedBy_12 : decode cX0_placesKeyedBy 12 = .ok (.istore 5, 2) := by decide +kernel
theorem dX0_placesKeyedBy_14 : decode cX0_placesKeyedBy 14 = .ok (.iload 5, 2) := by decide +kernel
theorem dX0_placesKeyedBy_16 : decode cX0_placesKeyedBy 16 = .ok (.iload 4, 2) := by decide +kernel
theorem dX0_placesKeyedBy_18 : decode cX0_placesKeyedBy 18 = .ok (.if_icmp .ge 52, 3) := by decide +kernel
theorem dX0_placesKeyedBy_21 : decode cX0_placesKeyedBy 21 = .ok (.aload_n 3, 1) := by decide +kernel
theorem dX0_placesKeyedBy_22 : decode cX0_placesKeyedBy 22 = .ok (.iload 5, 2) := by decide +kernel
theorem dX0_placesKeyedBy_24 : decode cX0_placesKeyedBy 24 = .ok (.aaload, 1) := by decide +kernel
theorem dX0_placesKeyedBy_25 : decode cX0_placesKeyedBy 25 = .ok (.astore 6, 2) := by decide +kernel
theorem dX0_placesKeyedBy_27 : decode cX0_placesKeyedBy 27 = .ok (.iconst 0, 1) := by decide +kernel
theorem dX0_placesKeyedBy_28 : decode cX0_placesKeyedBy 28 = .ok (.istore 7, 2) := by decide +kernel
theorem dX0_placesKeyedBy_30 : decode cX0_placesKeyedBy 30 = .ok (.iload 7, 2) := by decide +kernel
theorem dX0_placesKeyedBy_32 : decode cX0_placesKeyedBy 32 = .ok (.iconst 4, 1) := by decide +kernel
theorem dX0_placesKeyedBy_33 : decode cX0_placesKeyedBy 33 = .ok (.if_icmp .ge 31, 3) := by decide +kernel
theorem dX0_placesKeyedBy_36 : decode cX0_placesKeyedBy 36 = .ok (.iload_n 2, 1) := by decide +kernel
theorem dX0_placesKeyedBy_37 : decode cX0_placesKeyedBy 37 = .ok (.aload 6, 2) := by decide +kernel
theorem dX0_placesKeyedBy_39 : decode cX0_placesKeyedBy 39 = .ok (.getfield 50, 3) := by decide +kernel
theorem dX0_placesKeyedBy_42 : decode cX0_placesKeyedBy 42 = .ok (.iload_n 1, 1) := by decide +kernel
theorem dX0_placesKeyedBy_43 : decode cX0_placesKeyedBy 43 = .ok (.aaload, 1) := by decide +kernel
theorem dX0_placesKeyedBy_44 : decode cX0_placesKeyedBy 44 = .ok (.iload 7, 2) := by decide +kernel
theorem dX0_placesKeyedBy_46 : decode cX0_placesKeyedBy 46 = .ok (.iaload, 1) := by decide +kernel
theorem dX0_placesKeyedBy_47 : decode cX0_placesKeyedBy 47 = .ok (.iconst (-1), 1) := by decide +kernel
theorem dX0_placesKeyedBy_48 : decode cX0_placesKeyedBy 48 = .ok (.if_icmp .eq 7, 3) := by decide +kernel
theorem dX0_placesKeyedBy_51 : decode cX0_placesKeyedBy 51 = .ok (.iconst 1, 1) := by decide +kernel
theorem dX0_placesKeyedBy_52 : decode cX0_placesKeyedBy 52 = .ok (.goto 4, 3) := by decide +kernel
theorem dX0_placesKeyedBy_55 : decode cX0_placesKeyedBy 55 = .ok (.iconst 0, 1) := by decide +kernel
theorem dX0_placesKeyedBy_56 : decode cX0_placesKeyedBy 56 = .ok (.iadd, 1) := by decide +kernel
theorem dX0_placesKeyedBy_57 : decode cX0_placesKeyedBy 57 = .ok (.istore_n 2, 1) := by decide +kernel
theorem dX0_placesKeyedBy_58 : decode cX0_placesKeyedBy 58 = .ok (.iinc 7 1, 3) := by decide +kernel
theorem dX0_placesKeyedBy_61 : decode cX0_placesKeyedBy 61 = .ok (.goto (-31), 3) := by decide +kernel
theorem dX0_placesKeyedBy_64 : decode cX0_placesKeyedBy 64 = .ok (.iinc 5 1, 3) := by decide +kernel
theorem dX0_placesKeyedBy_67 : decode cX0_placesKeyedBy 67 = .ok (.goto (-53), 3) := by decide +kernel
theorem dX0_placesKeyedBy_70 : decode cX0_placesKeyedBy 70 = .ok (.iload_n 2, 1) := by decide +kernel
theorem dX0_placesKeyedBy_71 : decode cX0_placesKeyedBy 71 = .ok (.ireturn, 1) := by decide +kernel
theorem dX0_goldKeyedBy_0 : decode cX0_goldKeyedBy 0 = .ok (.iconst 0, 1) := by decide +kernel
theorem dX0_goldKeyedBy_1 : decode cX0_goldKeyedBy 1 = .ok (.istore_n 2, 1) := by decide +kernel
theorem dX0_goldKeyedBy_2 : decode cX0_goldKeyedBy 2 = .ok (.aload_n 0, 1) := by decide +kernel
theorem dX0_goldKeyedBy_3 : decode cX0_goldKeyedBy 3 = .ok (.getfield 11, 3) := by decide +kernel
theorem dX0_goldKeyedBy_6 : decode cX0_goldKeyedBy 6 = .ok (.astore_n 3, 1) := by decide +kernel
theorem dX0_goldKeyedBy_7 : decode cX0_goldKeyedBy 7 = .ok (.aload_n 3, 1) := by decide +kernel
theorem dX0_goldKeyedBy_8 : decode cX0_goldKeyedBy 8 = .ok (.arraylength, 1) := by decide +kernel
theorem dX0_goldKeyedBy_9 : decode cX0_goldKeyedBy 9 = .ok (.istore 4, 2) := by decide +kernel
theorem dX0_goldKeyedBy_11 : decode cX0_goldKeyedBy 11 = .ok (.iconst 0, 1) := by decide +kernel
theorem dX0_goldKeyedBy_12 : decode cX0_goldKeyedBy 12 = .ok (.istore 5, 2) := by decide +kernel
theorem dX0_goldKeyedBy_14 : decode cX0_goldKeyedBy 14 = .ok (.iload 5, 2) := by decide +kernel
theorem dX0_goldKeyedBy_16 : decode cX0_goldKeyedBy 16 = .ok (.iload 4, 2) := by decide +kernel
theorem dX0_goldKeyedBy_18 : decode cX0_goldKeyedBy 18 = .ok (.if_icmp .ge 76, 3) := by decide +kernel
theorem dX0_goldKeyedBy_21 : decode cX0_goldKeyedBy 21 = .ok (.aload_n 3, 1) := by decide +kernel
theorem dX0_goldKeyedBy_22 : decode cX0_goldKeyedBy 22 = .ok (.iload 5, 2) := by decide +kernel
theorem dX0_goldKeyedBy_24 : decode cX0_goldKeyedBy 24 = .ok (.aaload, 1) := by decide +kernel
theorem dX0_goldKeyedBy_25 : decode cX0_goldKeyedBy 25 = .ok (.astore 6, 2) := by decide +kernel
theorem dX0_goldKeyedBy_27 : decode cX0_goldKeyedBy 27 = .ok (.iconst 0, 1) := by decide +kernel
theorem dX0_goldKeyedBy_28 : decode cX0_goldKeyedBy 28 = .ok (.istore 7, 2) := by decide +kernel
theorem dX0_goldKeyedBy_30 : decode cX0_goldKeyedBy 30 = .ok (.iload 7, 2) := by decide +kernel
theorem dX0_goldKeyedBy_32 : decode cX0_goldKeyedBy 32 = .ok (.iconst 4, 1) := by decide +kernel
theorem dX0_goldKeyedBy_33 : decode cX0_goldKeyedBy 33 = .ok (.if_icmp .ge 55, 3) := by decide +kernel
theorem dX0_goldKeyedBy_36 : decode cX0_goldKeyedBy 36 = .ok (.aload 6, 2) := by decide +kernel
theorem dX0_goldKeyedBy_38 : decode cX0_goldKeyedBy 38 = .ok (.getfield 54, 3) := by decide +kernel
theorem dX0_goldKeyedBy_41 : decode cX0_goldKeyedBy 41 = .ok (.iload 7, 2) := by decide +kernel
theorem dX0_goldKeyedBy_43 : decode cX0_goldKeyedBy 43 = .ok (.iaload, 1) := by decide +kernel
theorem dX0_goldKeyedBy_44 : decode cX0_goldKeyedBy 44 = .ok (.iconst (-1), 1) := by decide +kernel
theorem dX0_goldKeyedBy_45 : decode cX0_goldKeyedBy 45 = .ok (.if_icmp .eq 21, 3) := by decide +kernel
theorem dX0_goldKeyedBy_48 : decode cX0_goldKeyedBy 48 = .ok (.aload 6, 2) := by decide +kernel
theorem dX0_goldKeyedBy_50 : decode cX0_goldKeyedBy 50 = .ok (.getfield 50, 3) := by decide +kernel
theorem dX0_goldKeyedBy_53 : decode cX0_goldKeyedBy 53 = .ok (.iload_n 1, 1) := by decide +kernel
theorem dX0_goldKeyedBy_54 : decode cX0_goldKeyedBy 54 = .ok (.aaload, 1) := by decide +kernel
theorem dX0_goldKeyedBy_55 : decode cX0_goldKeyedBy 55 = .ok (.iload 7, 2) := by decide +kernel
theorem dX0_goldKeyedBy_57 : decode cX0_goldKeyedBy 57 = .ok (.iaload, 1) := by decide +kernel
theorem dX0_goldKeyedBy_58 : decode cX0_goldKeyedBy 58 = .ok (.iconst (-1), 1) := by decide +kernel
theorem dX0_goldKeyedBy_59 : decode cX0_goldKeyedBy 59 = .ok (.if_icmp .eq 7, 3) := by decide +kernel
theorem dX0_goldKeyedBy_62 : decode cX0_goldKeyedBy 62 = .ok (.iconst 1, 1) := by decide +kernel
theorem dX0_goldKeyedBy_63 : decode cX0_goldKeyedBy 63 = .ok (.goto 4, 3) := by decide +kernel
theorem dX0_goldKeyedBy_66 : decode cX0_goldKeyedBy 66 = .ok (.iconst 0, 1) := by decide +kernel
theorem dX0_goldKeyedBy_67 : decode cX0_goldKeyedBy 67 = .ok (.istore 8, 2) := by decide +kernel
theorem dX0_goldKeyedBy_69 : decode cX0_goldKeyedBy 69 = .ok (.iload_n 2, 1) := by decide +kernel
theorem dX0_goldKeyedBy_70 : decode cX0_goldKeyedBy 70 = .ok (.iload 8, 2) := by decide +kernel
theorem dX0_goldKeyedBy_72 : decode cX0_goldKeyedBy 72 = .ok (.ifCond .eq 7, 3) := by decide +kernel
theorem dX0_goldKeyedBy_75 : decode cX0_goldKeyedBy 75 = .ok (.iconst 1, 1) := by decide +kernel
theorem dX0_goldKeyedBy_76 : decode cX0_goldKeyedBy 76 = .ok (.goto 4, 3) := by decide +kernel
theorem dX0_goldKeyedBy_79 : decode cX0_goldKeyedBy 79 = .ok (.iconst 0, 1) := by decide +kernel
theorem dX0_goldKeyedBy_80 : decode cX0_goldKeyedBy 80 = .ok (.iadd, 1) := by decide +kernel
theorem dX0_goldKeyedBy_81 : decode cX0_goldKeyedBy 81 = .ok (.istore_n 2, 1) := by decide +kernel
theorem dX0_goldKeyedBy_82 : decode cX0_goldKeyedBy 82 = .ok (.iinc 7 1, 3) := by decide +kernel
theorem dX0_goldKeyedBy_85 : decode cX0_goldKeyedBy 85 = .ok (.goto (-55), 3) := by decide +kernel
theorem dX0_goldKeyedBy_88 : decode cX0_goldKeyedBy 88 = .ok (.iinc 5 1, 3) := by decide +kernel
theorem dX0_goldKeyedBy_91 : decode cX0_goldKeyedBy 91 = .ok (.goto (-77), 3) := by decide +kernel
theorem dX0_goldKeyedBy_94 : decode cX0_goldKeyedBy 94 = .ok (.iload_n 2, 1) := by decide +kernel
theorem dX0_goldKeyedBy_95 : decode cX0_goldKeyedBy 95 = .ok (.ireturn, 1) := by decide +kernel
theorem dX0_goldKeyedRightBy_0 : decode cX0_goldKeyedRightBy 0 = .ok (.iconst 0, 1) := by decide +kernel
theorem dX0_goldKeyedRightBy_1 : decode cX0_goldKeyedRightBy 1 = .ok (.istore_n 2, 1) := by decide +kernel
theorem dX0_goldKeyedRightBy_2 : decode cX0_goldKeyedRightBy 2 = .ok (.aload_n 0, 1) := by decide +kernel
theorem dX0_goldKeyedRightBy_3 : decode cX0_goldKeyedRightBy 3 = .ok (.getfield 11, 3) := by decide +kernel
theorem dX0_goldKeyedRightBy_6 : decode cX0_goldKeyedRightBy 6 = .ok (.astore_n 3, 1) := by decide +kernel
theorem dX0_goldKeyedRightBy_7 : decode cX0_goldKeyedRightBy 7 = .ok (.aload_n 3, 1) := by decide +kernel
theorem dX0_goldKeyedRightBy_8 : decode cX0_goldKeyedRightBy 8 = .ok (.arraylength, 1) := by decide +kernel
theorem dX0_goldKeyedRightBy_9 : decode cX0_goldKeyedRightBy 9 = .ok (.istore 4, 2) := by decide +kernel
theorem dX0_goldKeyedRightBy_11 : decode cX0_goldKeyedRightBy 11 = .ok (.iconst 0, 1) := by decide +kernel
theorem dX0_goldKeyedRightBy_12 : decode cX0_goldKeyedRightBy 12 = .ok (.istore 5, 2) := by decide +kernel
theorem dX0_goldKeyedRightBy_14 : decode cX0_goldKeyedRightBy 14 = .ok (.iload 5, 2) := by decide +kernel
theorem dX0_goldKeyedRightBy_16 : decode cX0_goldKeyedRightBy 16 = .ok (.iload 4, 2) := by decide +kernel
theorem dX0_goldKeyedRightBy_18 : decode cX0_goldKeyedRightBy 18 = .ok (.if_icmp .ge 83, 3) := by decide +kernel
theorem dX0_goldKeyedRightBy_21 : decode cX0_goldKeyedRightBy 21 = .ok (.aload_n 3, 1) := by decide +kernel
theorem dX0_goldKeyedRightBy_22 : decode cX0_goldKeyedRightBy 22 = .ok (.iload 5, 2) := by decide +kernel
theorem dX0_goldKeyedRightBy_24 : decode cX0_goldKeyedRightBy 24 = .ok (.aaload, 1) := by decide +kernel
theorem dX0_goldKeyedRightBy_25 : decode cX0_goldKeyedRightBy 25 = .ok (.astore 6, 2) := by decide +kernel
theorem dX0_goldKeyedRightBy_27 : decode cX0_goldKeyedRightBy 27 = .ok (.iconst 0, 1) := by decide +kernel
theorem dX0_goldKeyedRightBy_28 : decode cX0_goldKeyedRightBy 28 = .ok (.istore 7, 2) := by decide +kernel
theorem dX0_goldKeyedRightBy_30 : decode cX0_goldKeyedRightBy 30 = .ok (.iload 7, 2) := by decide +kernel
theorem dX0_goldKeyedRightBy_32 : decode cX0_goldKeyedRightBy 32 = .ok (.iconst 4, 1) := by decide +kernel
theorem dX0_goldKeyedRightBy_33 : decode cX0_goldKeyedRightBy 33 = .ok (.if_icmp .ge 62, 3) := by decide +kernel
theorem dX0_goldKeyedRightBy_36 : decode cX0_goldKeyedRightBy 36 = .ok (.aload 6, 2) := by decide +kernel
theorem dX0_goldKeyedRightBy_38 : decode cX0_goldKeyedRightBy 38 = .ok (.getfield 54, 3) := by decide +kernel
theorem dX0_goldKeyedRightBy_41 : decode cX0_goldKeyedRightBy 41 = .ok (.iload 7, 2) := by decide +kernel
theorem dX0_goldKeyedRightBy_43 : decode cX0_goldKeyedRightBy 43 = .ok (.iaload, 1) := by decide +kernel
theorem dX0_goldKeyedRightBy_44 : decode cX0_goldKeyedRightBy 44 = .ok (.iconst (-1), 1) := by decide +kernel
theorem dX0_goldKeyedRightBy_45 : decode cX0_goldKeyedRightBy 45 = .ok (.if_icmp .eq 28, 3) := by decide +kernel
theorem dX0_goldKeyedRightBy_48 : decode cX0_goldKeyedRightBy 48 = .ok (.aload 6, 2) := by decide +kernel
theorem dX0_goldKeyedRightBy_50 : decode cX0_goldKeyedRightBy 50 = .ok (.getfield 54, 3) := by decide +kernel
theorem dX0_goldKeyedRightBy_53 : decode cX0_goldKeyedRightBy 53 = .ok (.iload 7, 2) := by decide +kernel
theorem dX0_goldKeyedRightBy_55 : decode cX0_goldKeyedRightBy 55 = .ok (.iaload, 1) := by decide +kernel
theorem dX0_goldKeyedRightBy_56 : decode cX0_goldKeyedRightBy 56 = .ok (.aload 6, 2) := by decide +kernel
theorem dX0_goldKeyedRightBy_58 : decode cX0_goldKeyedRightBy 58 = .ok (.getfield 50, 3) := by decide +kernel
theorem dX0_goldKeyedRightBy_61 : decode cX0_goldKeyedRightBy 61 = .ok (.iload_n 1, 1) := by decide +kernel
theorem dX0_goldKeyedRightBy_62 : decode cX0_goldKeyedRightBy 62 = .ok (.aaload, 1) := by decide +kernel
theorem dX0_goldKeyedRightBy_63 : decode cX0_goldKeyedRightBy 63 = .ok (.iload 7, 2) := by decide +kernel
theorem dX0_goldKeyedRightBy_65 : decode cX0_goldKeyedRightBy 65 = .ok (.iaload, 1) := by decide +kernel
theorem dX0_goldKeyedRightBy_66 : decode cX0_goldKeyedRightBy 66 = .ok (.if_icmp .ne 7, 3) := by decide +kernel
theorem dX0_goldKeyedRightBy_69 : decode cX0_goldKeyedRightBy 69 = .ok (.iconst 1, 1) := by decide +kernel
theorem dX0_goldKeyedRightBy_70 : decode cX0_goldKeyedRightBy 70 = .ok (.goto 4, 3) := by decide +kernel
theorem dX0_goldKeyedRightBy_73 : decode cX0_goldKeyedRightBy 73 = .ok (.iconst 0, 1) := by decide +kernel
theorem dX0_goldKeyedRightBy_74 : decode cX0_goldKeyedRightBy 74 = .ok (.istore 8, 2) := by decide +kernel
theorem dX0_goldKeyedRightBy_76 : decode cX0_goldKeyedRightBy 76 = .ok (.iload_n 2, 1) := by decide +kernel
theorem dX0_goldKeyedRightBy_77 : decode cX0_goldKeyedRightBy 77 = .ok (.iload 8, 2) := by decide +kernel
theorem dX0_goldKeyedRightBy_79 : decode cX0_goldKeyedRightBy 79 = .ok (.ifCond .eq 7, 3) := by decide +kernel
theorem dX0_goldKeyedRightBy_82 : decode cX0_goldKeyedRightBy 82 = .ok (.iconst 1, 1) := by decide +kernel
theorem dX0_goldKeyedRightBy_83 : decode cX0_goldKeyedRightBy 83 = .ok (.goto 4, 3) := by decide +kernel
theorem dX0_goldKeyedRightBy_86 : decode cX0_goldKeyedRightBy 86 = .ok (.iconst 0, 1) := by decide +kernel
theorem dX0_goldKeyedRightBy_87 : decode cX0_goldKeyedRightBy 87 = .ok (.iadd, 1) := by decide +kernel
theorem dX0_goldKeyedRightBy_88 : decode cX0_goldKeyedRightBy 88 = .ok (.istore_n 2, 1) := by decide +kernel
theorem dX0_goldKeyedRightBy_89 : decode cX0_goldKeyedRightBy 89 = .ok (.iinc 7 1, 3) := by decide +kernel
theorem dX0_goldKeyedRightBy_92 : decode cX0_goldKeyedRightBy 92 = .ok (.goto (-62), 3) := by decide +kernel
theorem dX0_goldKeyedRightBy_95 : decode cX0_goldKeyedRightBy 95 = .ok (.iinc 5 1, 3) := by decide +kernel
theorem dX0_goldKeyedRightBy_98 : decode cX0_goldKeyedRightBy 98 = .ok (.goto (-84), 3) := by decide +kernel
theorem dX0_goldKeyedRightBy_101 : decode cX0_goldKeyedRightBy 101 = .ok (.iload_n 2, 1) := by decide +kernel
theorem dX0_goldKeyedRightBy_102 : decode cX0_goldKeyedRightBy 102 = .ok (.ireturn, 1) := by decide +kernel
theorem dX1_init_0 : decode cX1_init 0 = .ok (.aload_n 0, 1) := by decide +kernel
theorem dX1_init_1 : decode cX1_init 1 = .ok (.invokespecial 3, 3) := by decide +kernel
theorem dX1_init_4 : decode cX1_init 4 = .ok (.aload_n 0, 1) := by decide +kernel
theorem dX1_init_5 : decode cX1_init 5 = .ok (.bipush 26, 2) := by decide +kernel
theorem dX1_init_7 : decode cX1_init 7 = .ok (.newarray .int, 2) := by decide +kernel
theorem dX1_init_9 : decode cX1_init 9 = .ok (.putfield 9, 3) := by decide +kernel
theorem dX1_init_12 : decode cX1_init 12 = .ok (.return_, 1) := by decide +kernel
theorem dX1_clear_0 : decode cX1_clear 0 = .ok (.aload_n 0, 1) := by decide +kernel
theorem dX1_clear_1 : decode cX1_clear 1 = .ok (.getfield 9, 3) := by decide +kernel
theorem dX1_clear_4 : decode cX1_clear 4 = .ok (.iconst 0, 1) := by decide +kernel
theorem dX1_clear_5 : decode cX1_clear 5 = .ok (.invokestatic 15, 3) := by decide +kernel
theorem dX1_clear_8 : decode cX1_clear 8 = .ok (.aload_n 0, 1) := by decide +kernel
theorem dX1_clear_9 : decode cX1_clear 9 = .ok (.iconst 0, 1) := by decide +kernel
theorem dX1_clear_10 : decode cX1_clear 10 = .ok (.putfield 21, 3) := by decide +kernel
theorem dX1_clear_13 : decode cX1_clear 13 = .ok (.return_, 1) := by decide +kernel
theorem dX1_put_0 : decode cX1_put 0 = .ok (.iload_n 1, 1) := by decide +kernel
theorem dX1_put_1 : decode cX1_put 1 = .ok (.ifCond .lt 31, 3) := by decide +kernel
theorem dX1_put_4 : decode cX1_put 4 = .ok (.iload_n 1, 1) := by decide +kernel
theorem dX1_put_5 : decode cX1_put 5 = .ok (.bipush 26, 2) := by decide +kernel
theorem dX1_put_7 : decode cX1_put 7 = .ok (.if_icmp .ge 25, 3) := by decide +kernel
theorem dX1_put_10 : decode cX1_put 10 = .ok (.aload_n 0, 1) := by decide +kernel
theorem dX1_put_11 : decode cX1_put 11 = .ok (.getfield 9, 3) := by decide +kernel
theorem dX1_put_14 : decode cX1_put 14 = .ok (.iload_n 1, 1) := by decide +kernel
theorem dX1_put_15 : decode cX1_put 15 = .ok (.dup2, 1) := by decide +kernel
theorem dX1_put_16 : decode cX1_put 16 = .ok (.iaload, 1) := by decide +kernel
theorem dX1_put_17 : decode cX1_put 17 = .ok (.iload_n 2, 1) := by decide +kernel
theorem dX1_put_18 : decode cX1_put 18 = .ok (.iadd, 1) := by decide +kernel
theorem dX1_put_19 : decode cX1_put 19 = .ok (.iastore, 1) := by decide +kernel
theorem dX1_put_20 : decode cX1_put 20 = .ok (.aload_n 0, 1) := by decide +kernel
theorem dX1_put_21 : decode cX1_put 21 = .ok (.dup, 1) := by decide +kernel
theorem dX1_put_22 : decode cX1_put 22 = .ok (.getfield 21, 3) := by decide +kernel
theorem dX1_put_25 : decode cX1_put 25 = .ok (.iconst 1, 1) := by decide +kernel
theorem dX1_put_26 : decode cX1_put 26 = .ok (.iload_n 1, 1) := by decide +kernel
theorem dX1_put_27 : decode cX1_put 27 = .ok (.ishl, 1) := by decide +kernel
theorem dX1_put_28 : decode cX1_put 28 = .ok (.ior, 1) := by decide +kernel
theorem dX1_put_29 : decode cX1_put 29 = .ok (.putfield 21, 3) := by decide +kernel
theorem dX1_put_32 : decode cX1_put 32 = .ok (.return_, 1) := by decide +kernel
theorem dX1_heaviestLetter_0 : decode cX1_heaviestLetter 0 = .ok (.iconst (-1), 1) := by decide +kernel
theorem dX1_heaviestLetter_1 : decode cX1_heaviestLetter 1 = .ok (.istore_n 1, 1) := by decide +kernel
theorem dX1_heaviestLetter_2 : decode cX1_heaviestLetter 2 = .ok (.iconst (-1), 1) := by decide +kernel
theorem dX1_heaviestLetter_3 : decode cX1_heaviestLetter 3 = .ok (.istore_n 2, 1) := by decide +kernel
theorem dX1_heaviestLetter_4 : decode cX1_heaviestLetter 4 = .ok (.iconst 0, 1) := by decide +kernel
theorem dX1_heaviestLetter_5 : decode cX1_heaviestLetter 5 = .ok (.istore_n 3, 1) := by decide +kernel
theorem dX1_heaviestLetter_6 : decode cX1_heaviestLetter 6 = .ok (.iload_n 3, 1) := by decide +kernel
theorem dX1_heaviestLetter_7 : decode cX1_heaviestLetter 7 = .ok (.bipush 26, 2) := by decide +kernel
theorem dX1_heaviestLetter_9 : decode cX1_heaviestLetter 9 = .ok (.if_icmp .ge 51, 3) := by decide +kernel
theorem dX1_heaviestLetter_12 : decode cX1_heaviestLetter 12 = .ok (.aload_n 0, 1) := by decide +kernel
theorem dX1_heaviestLetter_13 : decode cX1_heaviestLetter 13 = .ok (.getfield 21, 3) := by decide +kernel
theorem dX1_heaviestLetter_16 : decode cX1_heaviestLetter 16 = .ok (.iload_n 3, 1) := by decide +kernel
theorem dX1_heaviestLetter_17 : decode cX1_heaviestLetter 17 = .ok (.ishr, 1) := by decide +kernel
theorem dX1_heaviestLetter_18 : decode cX1_heaviestLetter 18 = .ok (.iconst 1, 1) := by decide +kernel
theorem dX1_heaviestLetter_19 : decode cX1_heaviestLetter 19 = .ok (.iand, 1) := by decide +kernel
theorem dX1_heaviestLetter_20 : decode cX1_heaviestLetter 20 = .ok (.ifCond .eq 7, 3) := by decide +kernel
theorem dX1_heaviestLetter_23 : decode cX1_heaviestLetter 23 = .ok (.iconst 1, 1) := by decide +kernel
theorem dX1_heaviestLetter_24 : decode cX1_heaviestLetter 24 = .ok (.goto 4, 3) := by decide +kernel
theorem dX1_heaviestLetter_27 : decode cX1_heaviestLetter 27 = .ok (.iconst 0, 1) := by decide +kernel
theorem dX1_heaviestLetter_28 : decode cX1_heaviestLetter 28 = .ok (.istore 4, 2) := by decide +kernel
theorem dX1_heaviestLetter_30 : decode cX1_heaviestLetter 30 = .ok (.iload 4, 2) := by decide +kernel
theorem dX1_heaviestLetter_32 : decode cX1_heaviestLetter 32 = .ok (.ifCond .eq 22, 3) := by decide +kernel
theorem dX1_heaviestLetter_35 : decode cX1_heaviestLetter 35 = .ok (.aload_n 0, 1) := by decide +kernel
theorem dX1_heaviestLetter_36 : decode cX1_heaviestLetter 36 = .ok (.getfield 9, 3) := by decide +kernel
theorem dX1_heaviestLetter_39 : decode cX1_heaviestLetter 39 = .ok (.iload_n 3, 1) := by decide +kernel
theorem dX1_heaviestLetter_40 : decode cX1_heaviestLetter 40 = .ok (.iaload, 1) := by decide +kernel
theorem dX1_heaviestLetter_41 : decode cX1_heaviestLetter 41 = .ok (.iload_n 2, 1) := by decide +kernel
theorem dX1_heaviestLetter_42 : decode cX1_heaviestLetter 42 = .ok (.if_icmp .le 12, 3) := by decide +kernel
theorem dX1_heaviestLetter_45 : decode cX1_heaviestLetter 45 = .ok (.iload_n 3, 1) := by decide +kernel
theorem dX1_heaviestLetter_46 : decode cX1_heaviestLetter 46 = .ok (.istore_n 1, 1) := by decide +kernel
theorem dX1_heaviestLetter_47 : decode cX1_heaviestLetter 47 = .ok (.aload_n 0, 1) := by decide +kernel
theorem dX1_heaviestLetter_48 : decode cX1_heaviestLetter 48 = .ok (.getfield 9, 3) := by decide +kernel
theorem dX1_heaviestLetter_51 : decode cX1_heaviestLetter 51 = .ok (.iload_n 3, 1) := by decide +kernel
theorem dX1_heaviestLetter_52 : decode cX1_heaviestLetter 52 = .ok (.iaload, 1) := by decide +kernel
theorem dX1_heaviestLetter_53 : decode cX1_heaviestLetter 53 = .ok (.istore_n 2, 1) := by decide +kernel
theorem dX1_heaviestLetter_54 : decode cX1_heaviestLetter 54 = .ok (.iinc 3 1, 3) := by decide +kernel
theorem dX1_heaviestLetter_57 : decode cX1_heaviestLetter 57 = .ok (.goto (-51), 3) := by decide +kernel
theorem dX1_heaviestLetter_60 : decode cX1_heaviestLetter 60 = .ok (.iload_n 1, 1) := by decide +kernel
theorem dX1_heaviestLetter_61 : decode cX1_heaviestLetter 61 = .ok (.ireturn, 1) := by decide +kernel
theorem dX1_doubtInHeaviest_0 : decode cX1_doubtInHeaviest 0 = .ok (.iconst 0, 1) := by decide +kernel
theorem dX1_doubtInHeaviest_1 : decode cX1_doubtInHeaviest 1 = .ok (.istore_n 1, 1) := by decide +kernel
theorem dX1_doubtInHeaviest_2 : decode cX1_doubtInHeaviest 2 = .ok (.iconst 0, 1) := by decide +kernel
theorem dX1_doubtInHeaviest_3 : decode cX1_doubtInHeaviest 3 = .ok (.istore_n 2, 1) := by decide +kernel
theorem dX1_doubtInHeaviest_4 : decode cX1_doubtInHeaviest 4 = .ok (.aload_n 0, 1) := by decide +kernel
theorem dX1_doubtInHeaviest_5 : decode cX1_doubtInHeaviest 5 = .ok (.getfield 9, 3) := by decide +kernel
theorem dX1_doubtInHeaviest_8 : decode cX1_doubtInHeaviest 8 = .ok (.astore_n 3, 1) := by decide +kernel
theorem dX1_doubtInHeaviest_9 : decode cX1_doubtInHeaviest 9 = .ok (.aload_n 3, 1) := by decide +kernel
theorem dX1_doubtInHeaviest_10 : decode cX1_doubtInHeaviest 10 = .ok (.arraylength, 1) := by decide +kernel
theorem dX1_doubtInHeaviest_11 : decode cX1_doubtInHeaviest 11 = .ok (.istore 4, 2) := by decide +kernel
theorem dX1_doubtInHeaviest_13 : decode cX1_doubtInHeaviest 13 = .ok (.iconst 0, 1) := by decide +kernel
theorem dX1_doubtInHeaviest_14 : decode cX1_doubtInHeaviest 14 = .ok (.istore 5, 2) := by decide +kernel
theorem dX1_doubtInHeaviest_16 : decode cX1_doubtInHeaviest 16 = .ok (.iload 5, 2) := by decide +kernel
theorem dX1_doubtInHeaviest_18 : decode cX1_doubtInHeaviest 18 = .ok (.iload 4, 2) := by decide +kernel
theorem dX1_doubtInHeaviest_20 : decode cX1_doubtInHeaviest 20 = .ok (.if_icmp .ge 27, 3) := by decide +kernel
theorem dX1_doubtInHeaviest_23 : decode cX1_doubtInHeaviest 23 = .ok (.aload_n 3, 1) := by decide +kernel
theorem dX1_doubtInHeaviest_24 : decode cX1_doubtInHeaviest 24 = .ok (.iload 5, 2) := by decide +kernel
theorem dX1_doubtInHeaviest_26 : decode cX1_doubtInHeaviest 26 = .ok (.iaload, 1) := by decide +kernel
theorem dX1_doubtInHeaviest_27 : decode cX1_doubtInHeaviest 27 = .ok (.istore 6, 2) := by decide +kernel
theorem dX1_doubtInHeaviest_29 : decode cX1_doubtInHeaviest 29 = .ok (.iload_n 1, 1) := by decide +kernel
theorem dX1_doubtInHeaviest_30 : decode cX1_doubtInHeaviest 30 = .ok (.iload 6, 2) := by decide +kernel
theorem dX1_doubtInHeaviest_32 : decode cX1_doubtInHeaviest 32 = .ok (.invokestatic 25, 3) := by decide +kernel
theorem dX1_doubtInHeaviest_35 : decode cX1_doubtInHeaviest 35 = .ok (.istore_n 1, 1) := by decide +kernel
theorem dX1_doubtInHeaviest_36 : decode cX1_doubtInHeaviest 36 = .ok (.iload_n 2, 1) := by decide +kernel
theorem dX1_doubtInHeaviest_37 : decode cX1_doubtInHeaviest 37 = .ok (.iload 6, 2) := by decide +kernel
theorem dX1_doubtInHeaviest_39 : decode cX1_doubtInHeaviest 39 = .ok (.iadd, 1) := by decide +kernel
theorem dX1_doubtInHeaviest_40 : decode cX1_doubtInHeaviest 40 = .ok (.istore_n 2, 1) := by decide +kernel
theorem dX1_doubtInHeaviest_41 : decode cX1_doubtInHeaviest 41 = .ok (.iinc 5 1, 3) := by decide +kernel
theorem dX1_doubtInHeaviest_44 : decode cX1_doubtInHeaviest 44 = .ok (.goto (-28), 3) := by decide +kernel
theorem dX1_doubtInHeaviest_47 : decode cX1_doubtInHeaviest 47 = .ok (.iload_n 2, 1) := by decide +kernel
theorem dX1_doubtInHeaviest_48 : decode cX1_doubtInHeaviest 48 = .ok (.ifCond .ne 8, 3) := by decide +kernel
theorem dX1_doubtInHeaviest_51 : decode cX1_doubtInHeaviest 51 = .ok (.bipush 100, 2) := by decide +kernel
theorem dX1_doubtInHeaviest_53 : decode cX1_doubtInHeaviest 53 = .ok (.goto 12, 3) := by decide +kernel
theorem dX1_doubtInHeaviest_56 : decode cX1_doubtInHeaviest 56 = .ok (.bipush 100, 2) := by decide +kernel
theorem dX1_doubtInHeaviest_58 : decode cX1_doubtInHeaviest 58 = .ok (.bipush 100, 2) := by decide +kernel
theorem dX1_doubtInHeaviest_60 : decode cX1_doubtInHeaviest 60 = .ok (.iload_n 1, 1) := by decide +kernel
theorem dX1_doubtInHeaviest_61 : decode cX1_doubtInHeaviest 61 = .ok (.imul, 1) := by decide +kernel
theorem dX1_doubtInHeaviest_62 : decode cX1_doubtInHeaviest 62 = .ok (.iload_n 2, 1) := by decide +kernel
theorem dX1_doubtInHeaviest_63 : decode cX1_doubtInHeaviest 63 = .ok (.idiv, 1) := by decide +kernel
theorem dX1_doubtInHeaviest_64 : decode cX1_doubtInHeaviest 64 = .ok (.isub, 1) := by decide +kernel
theorem dX1_doubtInHeaviest_65 : decode cX1_doubtInHeaviest 65 = .ok (.ireturn, 1) := by decide +kernel
theorem dX2_init_0 : decode cX2_init 0 = .ok (.aload_n 0, 1) := by decide +kernel
theorem dX2_init_1 : decode cX2_init 1 = .ok (.invokespecial 3, 3) := by decide +kernel
theorem dX2_init_4 : decode cX2_init 4 = .ok (.aload_n 0, 1) := by decide +kernel
theorem dX2_init_5 : decode cX2_init 5 = .ok (.iconst 4, 1) := by decide +kernel
theorem dX2_init_6 : decode cX2_init 6 = .ok (.newarray .boolean, 2) := by decide +kernel
theorem dX2_init_8 : decode cX2_init 8 = .ok (.putfield 9, 3) := by decide +kernel
theorem dX2_init_11 : decode cX2_init 11 = .ok (.aload_n 0, 1) := by decide +kernel
theorem dX2_init_12 : decode cX2_init 12 = .ok (.iconst 4, 1) := by decide +kernel
theorem dX2_init_13 : decode cX2_init 13 = .ok (.newarray .long, 2) := by decide +kernel
theorem dX2_init_15 : decode cX2_init 15 = .ok (.putfield 15, 3) := by decide +kernel
theorem dX2_init_18 : decode cX2_init 18 = .ok (.aload_n 0, 1) := by decide +kernel
theorem dX2_init_19 : decode cX2_init 19 = .ok (.iconst 4, 1) := by decide +kernel
theorem dX2_init_20 : decode cX2_init 20 = .ok (.newarray .int, 2) := by decide +kernel
theorem dX2_init_22 : decode cX2_init 22 = .ok (.putfield 19, 3) := by decide +kernel
theorem dX2_init_25 : decode cX2_init 25 = .ok (.aload_n 0, 1) := by decide +kernel
theorem dX2_init_26 : decode cX2_init 26 = .ok (.iconst 5, 1) := by decide +kernel
theorem dX2_init_27 : decode cX2_init 27 = .ok (.iconst 4, 1) := by decide +kernel
theorem dX2_init_28 : decode cX2_init 28 = .ok (.multianewarray 23 2, 4) := by decide +kernel
theorem dX2_init_32 : decode cX2_init 32 = .ok (.putfield 25, 3) := by decide +kernel
theorem dX2_init_35 : decode cX2_init 35 = .ok (.aload_n 0, 1) := by decide +kernel
theorem dX2_init_36 : decode cX2_init 36 = .ok (.getfield 19, 3) := by decide +kernel
theorem dX2_init_39 : decode cX2_init 39 = .ok (.iconst (-1), 1) := by decide +kernel
theorem dX2_init_40 : decode cX2_init 40 = .ok (.invokestatic 28, 3) := by decide +kernel
theorem dX2_init_43 : decode cX2_init 43 = .ok (.iconst 0, 1) := by decide +kernel
theorem dX2_init_44 : decode cX2_init 44 = .ok (.istore_n 1, 1) := by decide +kernel
theorem dX2_init_45 : decode cX2_init 45 = .ok (.iload_n 1, 1) := by decide +kernel
theorem dX2_init_46 : decode cX2_init 46 = .ok (.iconst 5, 1) := by decide +kernel
theorem dX2_init_47 : decode cX2_init 47 = .ok (.if_icmp .ge 19, 3) := by decide +kernel
theorem dX2_init_50 : decode cX2_init 50 = .ok (.aload_n 0, 1) := by decide +kernel
theorem dX2_init_51 : decode cX2_init 51 = .ok (.getfield 25, 3) := by decide +kernel
theorem dX2_init_54 : decode cX2_init 54 = .ok (.iload_n 1, 1) := by decide +kernel
theorem dX2_init_55 : decode cX2_init 55 = .ok (.aaload, 1) := by decide +kernel
theorem dX2_init_56 : decode cX2_init 56 = .ok (.iconst (-1), 1) := by decide +kernel
theorem dX2_init_57 : decode cX2_init 57 = .ok (.invokestatic 28, 3) := by decide +kernel
theorem dX2_init_60 : decode cX2_init 60 = .ok (.iinc 1 1, 3) := by decide +kernel
theorem dX2_init_63 : decode cX2_init 63 = .ok (.goto (-18), 3) := by decide +kernel
theorem dX2_init_66 : decode cX2_init 66 = .ok (.return_, 1) := by decide +kernel
theorem dX2_takeShot_0 : decode cX2_takeShot 0 = .ok (.aload_n 0, 1) := by decide +kernel
theorem dX2_takeShot_1 : decode cX2_takeShot 1 = .ok (.iconst 1, 1) := by decide +kernel
theorem dX2_takeShot_2 : decode cX2_takeShot 2 = .ok (.putfield 34, 3) := by decide +kernel
theorem dX2_takeShot_5 : decode cX2_takeShot 5 = .ok (.aload_n 0, 1) := by decide +kernel
theorem dX2_takeShot_6 : decode cX2_takeShot 6 = .ok (.iload_n 3, 1) := by decide +kernel
theorem dX2_takeShot_7 : decode cX2_takeShot 7 = .ok (.putfield 38, 3) := by decide +kernel
theorem dX2_takeShot_10 : decode cX2_takeShot 10 = .ok (.aload_n 0, 1) := by decide +kernel
theorem dX2_takeShot_11 : decode cX2_takeShot 11 = .ok (.iconst 0, 1) := by decide +kernel
theorem dX2_takeShot_12 : decode cX2_takeShot 12 = .ok (.putfield 41, 3) := by decide +kernel
theorem dX2_takeShot_15 : decode cX2_takeShot 15 = .ok (.aload_n 0, 1) := by decide +kernel
theorem dX2_takeShot_16 : decode cX2_takeShot 16 = .ok (.lload_n 1, 1) := by decide +kernel
theorem dX2_takeShot_17 : decode cX2_takeShot 17 = .ok (.putfield 44, 3) := by decide +kernel
theorem dX2_takeShot_20 : decode cX2_takeShot 20 = .ok (.return_, 1) := by decide +kernel
theorem dX2_putCopy_0 : decode cX2_putCopy 0 = .ok (.aload_n 0, 1) := by decide +kernel
theorem dX2_putCopy_1 : decode cX2_putCopy 1 = .ok (.getfield 9, 3) := by decide +kernel
theorem dX2_putCopy_4 : decode cX2_putCopy 4 = .ok (.iload_n 1, 1) := by decide +kernel
theorem dX2_putCopy_5 : decode cX2_putCopy 5 = .ok (.iconst 1, 1) := by decide +kernel
theorem dX2_putCopy_6 : decode cX2_putCopy 6 = .ok (.bastore, 1) := by decide +kernel
theorem dX2_putCopy_7 : decode cX2_putCopy 7 = .ok (.aload_n 0, 1) := by decide +kernel
theorem dX2_putCopy_8 : decode cX2_putCopy 8 = .ok (.getfield 15, 3) := by decide +kernel
theorem dX2_putCopy_11 : decode cX2_putCopy 11 = .ok (.iload_n 1, 1) := by decide +kernel
theorem dX2_putCopy_12 : decode cX2_putCopy 12 = .ok (.lload_n 2, 1) := by decide +kernel
theorem dX2_putCopy_13 : decode cX2_putCopy 13 = .ok (.lastore, 1) := by decide +kernel
theorem dX2_putCopy_14 : decode cX2_putCopy 14 = .ok (.return_, 1) := by decide +kernel
theorem dX2_flipBit_0 : decode cX2_flipBit 0 = .ok (.aload_n 0, 1) := by decide +kernel
theorem dX2_flipBit_1 : decode cX2_flipBit 1 = .ok (.getfield 15, 3) := by decide +kernel
theorem dX2_flipBit_4 : decode cX2_flipBit 4 = .ok (.iload_n 1, 1) := by decide +kernel
theorem dX2_flipBit_5 : decode cX2_flipBit 5 = .ok (.dup2, 1) := by decide +kernel
theorem dX2_flipBit_6 : decode cX2_flipBit 6 = .ok (.laload, 1) := by decide +kernel
theorem dX2_flipBit_7 : decode cX2_flipBit 7 = .ok (.lconst 1, 1) := by decide +kernel
theorem dX2_flipBit_8 : decode cX2_flipBit 8 = .ok (.iload_n 2, 1) := by decide +kernel
theorem dX2_flipBit_9 : decode cX2_flipBit 9 = .ok (.lshl, 1) := by decide +kernel
theorem dX2_flipBit_10 : decode cX2_flipBit 10 = .ok (.lxor, 1) := by decide +kernel
theorem dX2_flipBit_11 : decode cX2_flipBit 11 = .ok (.lastore, 1) := by decide +kernel
theorem dX2_flipBit_12 : decode cX2_flipBit 12 = .ok (.return_, 1) := by decide +kernel
theorem dX2_imageProof_0 : decode cX2_imageProof 0 = .ok (.aload_n 0, 1) := by decide +kernel
theorem dX2_imageProof_1 : decode cX2_imageProof 1 = .ok (.getfield 34, 3) := by decide +kernel
theorem dX2_imageProof_4 : decode cX2_imageProof 4 = .ok (.ifCond .eq 13, 3) := by decide +kernel
theorem dX2_imageProof_7 : decode cX2_imageProof 7 = .ok (.aload_n 0, 1) := by decide +kernel
theorem dX2_imageProof_8 : decode cX2_imageProof 8 = .ok (.getfield 44, 3) := by decide +kernel
theorem dX2_imageProof_11 : decode cX2_imageProof 11 = .ok (.invokestatic 48, 3) := by decide +kernel
theorem dX2_imageProof_14 : decode cX2_imageProof 14 = .ok (.goto 4, 3) := by decide +kernel
theorem dX2_imageProof_17 : decode cX2_imageProof 17 = .ok (.lconst 0, 1) := by decide +kernel
theorem dX2_imageProof_18 : decode cX2_imageProof 18 = .ok (.lreturn, 1) := by decide +kernel
theorem dX2_copyProof_0 : decode cX2_copyProof 0 = .ok (.aload_n 0, 1) := by decide +kernel
theorem dX2_copyProof_1 : decode cX2_copyProof 1 = .ok (.getfield 9, 3) := by decide +kernel
theorem dX2_copyProof_4 : decode cX2_copyProof 4 = .ok (.iload_n 1, 1) := by decide +kernel
theorem dX2_copyProof_5 : decode cX2_copyProof 5 = .ok (.baload, 1) := by decide +kernel
theorem dX2_copyProof_6 : decode cX2_copyProof 6 = .ok (.ifCond .eq 15, 3) := by decide +kernel
theorem dX2_copyProof_9 : decode cX2_copyProof 9 = .ok (.aload_n 0, 1) := by decide +kernel
theorem dX2_copyProof_10 : decode cX2_copyProof 10 = .ok (.getfield 15, 3) := by decide +kernel
theorem dX2_copyProof_13 : decode cX2_copyProof 13 = .ok (.iload_n 1, 1) := by decide +kernel
theorem dX2_copyProof_14 : decode cX2_copyProof 14 = .ok (.laload, 1) := by decide +kernel
theorem dX2_copyProof_15 : decode cX2_copyProof 15 = .ok (.invokestatic 48, 3) := by decide +kernel
theorem dX2_copyProof_18 : decode cX2_copyProof 18 = .ok (.goto 4, 3) := by decide +kernel
theorem dX2_copyProof_21 : decode cX2_copyProof 21 = .ok (.lconst 0, 1) := by decide +kernel
theorem dX2_copyProof_22 : decode cX2_copyProof 22 = .ok (.lreturn, 1) := by decide +kernel
theorem dX2_holdsIn_0 : decode cX2_holdsIn 0 = .ok (.aload_n 0, 1) := by decide +kernel
theorem dX2_holdsIn_1 : decode cX2_holdsIn 1 = .ok (.getfield 34, 3) := by decide +kernel
theorem dX2_holdsIn_4 : decode cX2_holdsIn 4 = .ok (.ifCond .eq 29, 3) := by decide +kernel
theorem dX2_holdsIn_7 : decode cX2_holdsIn 7 = .ok (.aload_n 0, 1) := by decide +kernel
theorem dX2_holdsIn_8 : decode cX2_holdsIn 8 = .ok (.getfield 9, 3) := by decide +kernel
theorem dX2_holdsIn_11 : decode cX2_holdsIn 11 = .ok (.iload_n 1, 1) := by decide +kernel
theorem dX2_holdsIn_12 : decode cX2_holdsIn 12 = .ok (.baload, 1) := by decide +kernel
theorem dX2_holdsIn_13 : decode cX2_holdsIn 13 = .ok (.ifCond .eq 20, 3) := by decide +kernel
theorem dX2_holdsIn_16 : decode cX2_holdsIn 16 = .ok (.aload_n 0, 1) := by decide +kernel
theorem dX2_holdsIn_17 : decode cX2_holdsIn 17 = .ok (.iload_n 1, 1) := by decide +kernel
theorem dX2_holdsIn_18 : decode cX2_holdsIn 18 = .ok (.invokevirtual 52, 3) := by decide +kernel
theorem dX2_holdsIn_21 : decode cX2_holdsIn 21 = .ok (.aload_n 0, 1) := by decide +kernel
theorem dX2_holdsIn_22 : decode cX2_holdsIn 22 = .ok (.invokevirtual 56, 3) := by decide +kernel
theorem dX2_holdsIn_25 : decode cX2_holdsIn 25 = .ok (.lcmp, 1) := by decide +kernel
theorem dX2_holdsIn_26 : decode cX2_holdsIn 26 = .ok (.ifCond .ne 7, 3) := by decide +kernel
theorem dX2_holdsIn_29 : decode cX2_holdsIn 29 = .ok (.iconst 1, 1) := by decide +kernel
theorem dX2_holdsIn_30 : decode cX2_holdsIn 30 = .ok (.goto 4, 3) := by decide +kernel
theorem dX2_holdsIn_33 : decode cX2_holdsIn 33 = .ok (.iconst 0, 1) := by decide +kernel
theorem dX2_holdsIn_34 : decode cX2_holdsIn 34 = .ok (.ireturn, 1) := by decide +kernel
theorem dX2_hasNoCopyLeft_0 : decode cX2_hasNoCopyLeft 0 = .ok (.aload_n 0, 1) := by decide +kernel
theorem dX2_hasNoCopyLeft_1 : decode cX2_hasNoCopyLeft 1 = .ok (.getfield 34, 3) := by decide +kernel
theorem dX2_hasNoCopyLeft_4 : decode cX2_hasNoCopyLeft 4 = .ok (.ifCond .eq 15, 3) := by decide +kernel
theorem dX2_hasNoCopyLeft_7 : decode cX2_hasNoCopyLeft 7 = .ok (.aload_n 0, 1) := by decide +kernel
theorem dX2_hasNoCopyLeft_8 : decode cX2_hasNoCopyLeft 8 = .ok (.invokevirtual 60, 3) := by decide +kernel
theorem dX2_hasNoCopyLeft_11 : decode cX2_hasNoCopyLeft 11 = .ok (.iconst (-1), 1) := by decide +kernel
theorem dX2_hasNoCopyLeft_12 : decode cX2_hasNoCopyLeft 12 = .ok (.if_icmp .ne 7, 3) := by decide +kernel
theorem dX2_hasNoCopyLeft_15 : decode cX2_hasNoCopyLeft 15 = .ok (.iconst 1, 1) := by decide +kernel
theorem dX2_hasNoCopyLeft_16 : decode cX2_hasNoCopyLeft 16 = .ok (.goto 4, 3) := by decide +kernel
theorem dX2_hasNoCopyLeft_19 : decode cX2_hasNoCopyLeft 19 = .ok (.iconst 0, 1) := by decide +kernel
theorem dX2_hasNoCopyLeft_20 : decode cX2_hasNoCopyLeft 20 = .ok (.ireturn, 1) := by decide +kernel
theorem dX2_mendIn_0 : decode cX2_mendIn 0 = .ok (.aload_n 0, 1) := by decide +kernel
theorem dX2_mendIn_1 : decode cX2_mendIn 1 = .ok (.getfield 34, 3) := by decide +kernel
theorem dX2_mendIn_4 : decode cX2_mendIn 4 = .ok (.ifCond .eq 11, 3) := by decide +kernel
theorem dX2_mendIn_7 : decode cX2_mendIn 7 = .ok (.aload_n 0, 1) := by decide +kernel
theorem dX2_mendIn_8 : decode cX2_mendIn 8 = .ok (.iload_n 1, 1) := by decide +kernel
theorem dX2_mendIn_9 : decode cX2_mendIn 9 = .ok (.invokevirtual 64, 3) := by decide +kernel
theorem dX2_mendIn_12 : decode cX2_mendIn 12 = .ok (.ifCond .eq 5, 3) := by decide +kernel
theorem dX2_mendIn_15 : decode cX2_mendIn 15 = .ok (.iconst 0, 1) := by decide +kernel
theorem dX2_mendIn_16 : decode cX2_mendIn 16 = .ok (.ireturn, 1) := by decide +kernel
theorem dX2_mendIn_17 : decode cX2_mendIn 17 = .ok (.aload_n 0, 1) := by decide +kernel
theorem dX2_mendIn_18 : decode cX2_mendIn 18 = .ok (.invokevirtual 60, 3) := by decide +kernel
theorem dX2_mendIn_21 : decode cX2_mendIn 21 = .ok (.istore_n 2, 1) := by decide +kernel
theorem dX2_mendIn_22 : decode cX2_mendIn 22 = .ok (.iload_n 2, 1) := by decide +kernel
theorem dX2_mendIn_23 : decode cX2_mendIn 23 = .ok (.iconst (-1), 1) := by decide +kernel
theorem dX2_mendIn_24 : decode cX2_mendIn 24 = .ok (.if_icmp .ne 5, 3) := by decide +kernel
theorem dX2_mendIn_27 : decode cX2_mendIn 27 = .ok (.iconst 0, 1) := by decide +kernel
theorem dX2_mendIn_28 : decode cX2_mendIn 28 = .ok (.ireturn, 1) := by decide +kernel
theorem dX2_mendIn_29 : decode cX2_mendIn 29 = .ok (.aload_n 0, 1) := by decide +kernel
theorem dX2_mendIn_30 : decode cX2_mendIn 30 = .ok (.iload_n 1, 1) := by decide +kernel
theorem dX2_mendIn_31 : decode cX2_mendIn 31 = .ok (.aload_n 0, 1) := by decide +kernel
theorem dX2_mendIn_32 : decode cX2_mendIn 32 = .ok (.getfield 15, 3) := by decide +kernel
theorem dX2_mendIn_35 : decode cX2_mendIn 35 = .ok (.iload_n 2, 1) := by decide +kernel
theorem dX2_mendIn_36 : decode cX2_mendIn 36 = .ok (.laload, 1) := by decide +kernel
theorem dX2_mendIn_37 : decode cX2_mendIn 37 = .ok (.invokevirtual 68, 3) := by decide +kernel
theorem dX2_mendIn_40 : decode cX2_mendIn 40 = .ok (.iconst 1, 1) := by decide +kernel
theorem dX2_mendIn_41 : decode cX2_mendIn 41 = .ok (.ireturn, 1) := by decide +kernel
theorem dX2_lowestVaultThatHolds_0 : decode cX2_lowestVaultThatHolds 0 = .ok (.iconst 0, 1) := by decide +kernel
theorem dX2_lowestVaultThatHolds_1 : decode cX2_lowestVaultThatHolds 1 = .ok (.istore_n 1, 1) := by decide +kernel
theorem dX2_lowestVaultThatHolds_2 : decode cX2_lowestVaultThatHolds 2 = .ok (.iload_n 1, 1) := by decide +kernel
theorem dX2_lowestVaultThatHolds_3 : decode cX2_lowestVaultThatHolds 3 = .ok (.iconst 4, 1) := by decide +kernel
theorem dX2_lowestVaultThatHolds_4 : decode cX2_lowestVaultThatHolds 4 = .ok (.if_icmp .ge 19, 3) := by decide +kernel
theorem dX2_lowestVaultThatHolds_7 : decode cX2_lowestVaultThatHolds 7 = .ok (.aload_n 0, 1) := by decide +kernel
theorem dX2_lowestVaultThatHolds_8 : decode cX2_lowestVaultThatHolds 8 = .ok (.iload_n 1, 1) := by decide +kernel
theorem dX2_lowestVaultThatHolds_9 : decode cX2_lowestVaultThatHolds 9 = .ok (.invokevirtual 64, 3) := by decide +kernel
theorem dX2_lowestVaultThatHolds_12 : decode cX2_lowestVaultThatHolds 12 = .ok (.ifCond .eq 5, 3) := by decide +kernel
theorem dX2_lowestVaultThatHolds_15 : decode cX2_lowestVaultThatHolds 15 = .ok (.iload_n 1, 1) := by decide +kernel
theorem dX2_lowestVaultThatHolds_16 : decode cX2_lowestVaultThatHolds 16 = .ok (.ireturn, 1) := by decide +kernel
theorem dX2_lowestVaultThatHolds_17 : decode cX2_lowestVaultThatHolds 17 = .ok (.iinc 1 1, 3) := by decide +kernel
theorem dX2_lowestVaultThatHolds_20 : decode cX2_lowestVaultThatHolds 20 = .ok (.goto (-18), 3) := by decide +kernel
theorem dX2_lowestVaultThatHolds_23 : decode cX2_lowestVaultThatHolds 23 = .ok (.iconst (-1), 1) := by decide +kernel
theorem dX2_lowestVaultThatHolds_24 : decode cX2_lowestVaultThatHolds 24 = .ok (.ireturn, 1) := by decide +kernel
theorem dX2_proofOf_0 : decode cX2_proofOf 0 = .ok (.lload_n 0, 1) := by decide +kernel
theorem dX2_proofOf_1 : decode cX2_proofOf 1 = .ok (.ldc2_w 72, 3) := by decide +kernel
theorem dX2_proofOf_4 : decode cX2_proofOf 4 = .ok (.lmul, 1) := by decide +kernel
theorem dX2_proofOf_5 : decode cX2_proofOf 5 = .ok (.ldc2_w 74, 3) := by decide +kernel
theorem dX2_proofOf_8 : decode cX2_proofOf 8 = .ok (.ladd, 1) := by decide +kernel
theorem dX2_proofOf_9 : decode cX2_proofOf 9 = .ok (.lreturn, 1) := by decide +kernel
theorem dX3_init_0 : decode cX3_init 0 = .ok (.aload_n 0, 1) := by decide +kernel
theorem dX3_init_1 : decode cX3_init 1 = .ok (.invokespecial 3, 3) := by decide +kernel
theorem dX3_init_4 : decode cX3_init 4 = .ok (.aload_n 0, 1) := by decide +kernel
theorem dX3_init_5 : decode cX3_init 5 = .ok (.bipush 7, 2) := by decide +kernel
theorem dX3_init_7 : decode cX3_init 7 = .ok (.newarray .int, 2) := by decide +kernel
theorem dX3_init_9 : decode cX3_init 9 = .ok (.putfield 9, 3) := by decide +kernel
theorem dX3_init_12 : decode cX3_init 12 = .ok (.return_, 1) := by decide +kernel
theorem dX3_pageAtPlace_0 : decode cX3_pageAtPlace 0 = .ok (.iload_n 1, 1) := by decide +kernel
theorem dX3_pageAtPlace_1 : decode cX3_pageAtPlace 1 = .ok (.ifCond .lt 12, 3) := by decide +kernel
theorem dX3_pageAtPlace_4 : decode cX3_pageAtPlace 4 = .ok (.iload_n 1, 1) := by decide +kernel
theorem dX3_pageAtPlace_5 : decode cX3_pageAtPlace 5 = .ok (.aload_n 0, 1) := by decide +kernel
theorem dX3_pageAtPlace_6 : decode cX3_pageAtPlace 6 = .ok (.getfield 9, 3) := by decide +kernel
theorem dX3_pageAtPlace_9 : decode cX3_pageAtPlace 9 = .ok (.arraylength, 1) := by decide +kernel
theorem dX3_pageAtPlace_10 : decode cX3_pageAtPlace 10 = .ok (.if_icmp .lt 7, 3) := by decide +kernel
theorem dX3_pageAtPlace_13 : decode cX3_pageAtPlace 13 = .ok (.iconst (-1), 1) := by decide +kernel
theorem dX3_pageAtPlace_14 : decode cX3_pageAtPlace 14 = .ok (.goto 9, 3) := by decide +kernel
theorem dX3_pageAtPlace_17 : decode cX3_pageAtPlace 17 = .ok (.aload_n 0, 1) := by decide +kernel
theorem dX3_pageAtPlace_18 : decode cX3_pageAtPlace 18 = .ok (.getfield 9, 3) := by decide +kernel
theorem dX3_pageAtPlace_21 : decode cX3_pageAtPlace 21 = .ok (.iload_n 1, 1) := by decide +kernel
theorem dX3_pageAtPlace_22 : decode cX3_pageAtPlace 22 = .ok (.iaload, 1) := by decide +kernel
theorem dX3_pageAtPlace_23 : decode cX3_pageAtPlace 23 = .ok (.ireturn, 1) := by decide +kernel
theorem dX3_findStepByStep_0 : decode cX3_findStepByStep 0 = .ok (.iconst 0, 1) := by decide +kernel
theorem dX3_findStepByStep_1 : decode cX3_findStepByStep 1 = .ok (.iconst 0, 1) := by decide +kernel
theorem dX3_findStepByStep_2 : decode cX3_findStepByStep 2 = .ok (.aload_n 1, 1) := by decide +kernel
theorem dX3_findStepByStep_3 : decode cX3_findStepByStep 3 = .ok (.aload_n 0, 1) := by decide +kernel
theorem dX3_findStepByStep_4 : decode cX3_findStepByStep 4 = .ok (.getfield 9, 3) := by decide +kernel
theorem dX3_findStepByStep_7 : decode cX3_findStepByStep 7 = .ok (.invokestatic 15, 3) := by decide +kernel
theorem dX3_findStepByStep_10 : decode cX3_findStepByStep 10 = .ok (.ireturn, 1) := by decide +kernel
theorem dX3_fillFrom_0 : decode cX3_fillFrom 0 = .ok (.iload_n 0, 1) := by decide +kernel
theorem dX3_fillFrom_1 : decode cX3_fillFrom 1 = .ok (.aload_n 2, 1) := by decide +kernel
theorem dX3_fillFrom_2 : decode cX3_fillFrom 2 = .ok (.arraylength, 1) := by decide +kernel
theorem dX3_fillFrom_3 : decode cX3_fillFrom 3 = .ok (.if_icmp .lt 5, 3) := by decide +kernel
theorem dX3_fillFrom_6 : decode cX3_fillFrom 6 = .ok (.iconst 1, 1) := by decide +kernel
theorem dX3_fillFrom_7 : decode cX3_fillFrom 7 = .ok (.ireturn, 1) := by decide +kernel
theorem dX3_fillFrom_8 : decode cX3_fillFrom 8 = .ok (.iload_n 0, 1) := by decide +kernel
theorem dX3_fillFrom_9 : decode cX3_fillFrom 9 = .ok (.aload_n 3, 1) := by decide +kernel
theorem dX3_fillFrom_10 : decode cX3_fillFrom 10 = .ok (.arraylength, 1) := by decide +kernel
theorem dX3_fillFrom_11 : decode cX3_fillFrom 11 = .ok (.if_icmp .lt 5, 3) := by decide +kernel
theorem dX3_fillFrom_14 : decode cX3_fillFrom 14 = .ok (.iconst 0, 1) := by decide +kernel
theorem dX3_fillFrom_15 : decode cX3_fillFrom 15 = .ok (.ireturn, 1) := by decide +kernel
theorem dX3_fillFrom_16 : decode cX3_fillFrom 16 = .ok (.iconst 0, 1) := by decide +kernel
theorem dX3_fillFrom_17 : decode cX3_fillFrom 17 = .ok (.istore 4, 2) := by decide +kernel
theorem dX3_fillFrom_19 : decode cX3_fillFrom 19 = .ok (.iload 4, 2) := by decide +kernel
theorem dX3_fillFrom_21 : decode cX3_fillFrom 21 = .ok (.aload_n 2, 1) := by decide +kernel
theorem dX3_fillFrom_22 : decode cX3_fillFrom 22 = .ok (.arraylength, 1) := by decide +kernel
theorem dX3_fillFrom_23 : decode cX3_fillFrom 23 = .ok (.if_icmp .ge 72, 3) := by decide +kernel
theorem dX3_fillFrom_26 : decode cX3_fillFrom 26 = .ok (.iload_n 1, 1) := by decide +kernel
theorem dX3_fillFrom_27 : decode cX3_fillFrom 27 = .ok (.iload 4, 2) := by decide +kernel
theorem dX3_fillFrom_29 : decode cX3_fillFrom 29 = .ok (.ishr, 1) := by decide +kernel
theorem dX3_fillFrom_30 : decode cX3_fillFrom 30 = .ok (.iconst 1, 1) := by decide +kernel
theorem dX3_fillFrom_31 : decode cX3_fillFrom 31 = .ok (.iand, 1) := by decide +kernel
theorem dX3_fillFrom_32 : decode cX3_fillFrom 32 = .ok (.ifCond .ne 7, 3) := by decide +kernel
theorem dX3_fillFrom_35 : decode cX3_fillFrom 35 = .ok (.iconst 1, 1) := by decide +kernel
theorem dX3_fillFrom_36 : decode cX3_fillFrom 36 = .ok (.goto 4, 3) := by decide +kernel
theorem dX3_fillFrom_39 : decode cX3_fillFrom 39 = .ok (.iconst 0, 1) := by decide +kernel
theorem dX3_fillFrom_40 : decode cX3_fillFrom 40 = .ok (.istore 5, 2) := by decide +kernel
theorem dX3_fillFrom_42 : decode cX3_fillFrom 42 = .ok (.iload 5, 2) := by decide +kernel
theorem dX3_fillFrom_44 : decode cX3_fillFrom 44 = .ok (.ifCond .eq 45, 3) := by decide +kernel
theorem dX3_fillFrom_47 : decode cX3_fillFrom 47 = .ok (.iload_n 0, 1) := by decide +kernel
theorem dX3_fillFrom_48 : decode cX3_fillFrom 48 = .ok (.ifCond .eq 17, 3) := by decide +kernel
theorem dX3_fillFrom_51 : decode cX3_fillFrom 51 = .ok (.aload_n 2, 1) := by decide +kernel
theorem dX3_fillFrom_52 : decode cX3_fillFrom 52 = .ok (.aload_n 3, 1) := by decide +kernel
theorem dX3_fillFrom_53 : decode cX3_fillFrom 53 = .ok (.iload_n 0, 1) := by decide +kernel
theorem dX3_fillFrom_54 : decode cX3_fillFrom 54 = .ok (.iconst 1, 1) := by decide +kernel
theorem dX3_fillFrom_55 : decode cX3_fillFrom 55 = .ok (.isub, 1) := by decide +kernel
theorem dX3_fillFrom_56 : decode cX3_fillFrom 56 = .ok (.iaload, 1) := by decide +kernel
theorem dX3_fillFrom_57 : decode cX3_fillFrom 57 = .ok (.iload 4, 2) := by decide +kernel
theorem dX3_fillFrom_59 : decode cX3_fillFrom 59 = .ok (.invokestatic 19, 3) := by decide +kernel
theorem dX3_fillFrom_62 : decode cX3_fillFrom 62 = .ok (.ifCond .eq 27, 3) := by decide +kernel
theorem dX3_fillFrom_65 : decode cX3_fillFrom 65 = .ok (.aload_n 3, 1) := by decide +kernel
theorem dX3_fillFrom_66 : decode cX3_fillFrom 66 = .ok (.iload_n 0, 1) := by decide +kernel
theorem dX3_fillFrom_67 : decode cX3_fillFrom 67 = .ok (.iload 4, 2) := by decide +kernel
theorem dX3_fillFrom_69 : decode cX3_fillFrom 69 = .ok (.iastore, 1) := by decide +kernel
theorem dX3_fillFrom_70 : decode cX3_fillFrom 70 = .ok (.iload_n 0, 1) := by decide +kernel
theorem dX3_fillFrom_71 : decode cX3_fillFrom 71 = .ok (.iconst 1, 1) := by decide +kernel
theorem dX3_fillFrom_72 : decode cX3_fillFrom 72 = .ok (.iadd, 1) := by decide +kernel
theorem dX3_fillFrom_73 : decode cX3_fillFrom 73 = .ok (.iload_n 1, 1) := by decide +kernel
theorem dX3_fillFrom_74 : decode cX3_fillFrom 74 = .ok (.iconst 1, 1) := by decide +kernel
theorem dX3_fillFrom_75 : decode cX3_fillFrom 75 = .ok (.iload 4, 2) := by decide +kernel
theorem dX3_fillFrom_77 : decode cX3_fillFrom 77 = .ok (.ishl, 1) := by decide +kernel
theorem dX3_fillFrom_78 : decode cX3_fillFrom 78 = .ok (.ior, 1) := by decide +kernel
theorem dX3_fillFrom_79 : decode cX3_fillFrom 79 = .ok (.aload_n 2, 1) := by decide +kernel
theorem dX3_fillFrom_80 : decode cX3_fillFrom 80 = .ok (.aload_n 3, 1) := by decide +kernel
theorem dX3_fillFrom_81 : decode cX3_fillFrom 81 = .ok (.invokestatic 15, 3) := by decide +kernel
theorem dX3_fillFrom_84 : decode cX3_fillFrom 84 = .ok (.ifCond .eq 5, 3) := by decide +kernel
theorem dX3_fillFrom_87 : decode cX3_fillFrom 87 = .ok (.iconst 1, 1) := by decide +kernel
theorem dX3_fillFrom_88 : decode cX3_fillFrom 88 = .ok (.ireturn, 1) := by decide +kernel
theorem dX3_fillFrom_89 : decode cX3_fillFrom 89 = .ok (.iinc 4 1, 3) := by decide +kernel
theorem dX3_fillFrom_92 : decode cX3_fillFrom 92 = .ok (.goto (-73), 3) := by decide +kernel
theorem dX3_fillFrom_95 : decode cX3_fillFrom 95 = .ok (.iconst 0, 1) := by decide +kernel
theorem dX3_fillFrom_96 : decode cX3_fillFrom 96 = .ok (.ireturn, 1) := by decide +kernel
theorem dX3_findByAllRows_0 : decode cX3_findByAllRows 0 = .ok (.aload_n 1, 1) := by decide +kernel
theorem dX3_findByAllRows_1 : decode cX3_findByAllRows 1 = .ok (.arraylength, 1) := by decide +kernel
theorem dX3_findByAllRows_2 : decode cX3_findByAllRows 2 = .ok (.istore_n 2, 1) := by decide +kernel
theorem dX3_findByAllRows_3 : decode cX3_findByAllRows 3 = .ok (.iload_n 2, 1) := by decide +kernel
theorem dX3_findByAllRows_4 : decode cX3_findByAllRows 4 = .ok (.aload_n 0, 1) := by decide +kernel
theorem dX3_findByAllRows_5 : decode cX3_findByAllRows 5 = .ok (.getfield 9, 3) := by decide +kernel
theorem dX3_findByAllRows_8 : decode cX3_findByAllRows 8 = .ok (.arraylength, 1) := by decide +kernel
theorem dX3_findByAllRows_9 : decode cX3_findByAllRows 9 = .ok (.if_icmp .le 5, 3) := by decide +kernel
theorem dX3_findByAllRows_12 : decode cX3_findByAllRows 12 = .ok (.iconst 0, 1) := by decide +kernel
theorem dX3_findByAllRows_13 : decode cX3_findByAllRows 13 = .ok (.ireturn, 1) := by decide +kernel
theorem dX3_findByAllRows_14 : decode cX3_findByAllRows 14 = .ok (.iconst 0, 1) := by decide +kernel
theorem dX3_findByAllRows_15 : decode cX3_findByAllRows 15 = .ok (.istore_n 3, 1) := by decide +kernel
theorem dX3_findByAllRows_16 : decode cX3_findByAllRows 16 = .ok (.iload_n 3, 1) := by decide +kernel
theorem dX3_findByAllRows_17 : decode cX3_findByAllRows 17 = .ok (.iload_n 2, 1) := by decide +kernel
theorem dX3_findByAllRows_18 : decode cX3_findByAllRows 18 = .ok (.if_icmp .ge 16, 3) := by decide +kernel
theorem dX3_findByAllRows_21 : decode cX3_findByAllRows 21 = .ok (.aload_n 0, 1) := by decide +kernel
theorem dX3_findByAllRows_22 : decode cX3_findByAllRows 22 = .ok (.getfield 9, 3) := by decide +kernel
theorem dX3_findByAllRows_25 : decode cX3_findByAllRows 25 = .ok (.iload_n 3, 1) := by decide +kernel
theorem dX3_findByAllRows_26 : decode cX3_findByAllRows 26 = .ok (.iload_n 3, 1) := by decide +kernel
theorem dX3_findByAllRows_27 : decode cX3_findByAllRows 27 = .ok (.iastore, 1) := by decide +kernel
theorem dX3_findByAllRows_28 : decode cX3_findByAllRows 28 = .ok (.iinc 3 1, 3) := by decide +kernel
theorem dX3_findByAllRows_31 : decode cX3_findByAllRows 31 = .ok (.goto (-15), 3) := by decide +kernel
theorem dX3_findByAllRows_34 : decode cX3_findByAllRows 34 = .ok (.iconst 0, 1) := by decide +kernel
theorem dX3_findByAllRows_35 : decode cX3_findByAllRows 35 = .ok (.istore_n 3, 1) := by decide +kernel
theorem dX3_findByAllRows_36 : decode cX3_findByAllRows 36 = .ok (.iload_n 3, 1) := by decide +kernel
theorem dX3_findByAllRows_37 : decode cX3_findByAllRows 37 = .ok (.sipush 5040, 3) := by decide +kernel
theorem dX3_findByAllRows_40 : decode cX3_findByAllRows 40 = .ok (.if_icmp .ge 29, 3) := by decide +kernel
theorem dX3_findByAllRows_43 : decode cX3_findByAllRows 43 = .ok (.aload_n 0, 1) := by decide +kernel
theorem dX3_findByAllRows_44 : decode cX3_findByAllRows 44 = .ok (.aload_n 1, 1) := by decide +kernel
theorem dX3_findByAllRows_45 : decode cX3_findByAllRows 45 = .ok (.invokevirtual 23, 3) := by decide +kernel
theorem dX3_findByAllRows_48 : decode cX3_findByAllRows 48 = .ok (.ifCond .eq 5, 3) := by decide +kernel
theorem dX3_findByAllRows_51 : decode cX3_findByAllRows 51 = .ok (.iconst 1, 1) := by decide +kernel
theorem dX3_findByAllRows_52 : decode cX3_findByAllRows 52 = .ok (.ireturn, 1) := by decide +kernel
theorem dX3_findByAllRows_53 : decode cX3_findByAllRows 53 = .ok (.aload_n 0, 1) := by decide +kernel
theorem dX3_findByAllRows_54 : decode cX3_findByAllRows 54 = .ok (.iload_n 2, 1) := by decide +kernel
theorem dX3_findByAllRows_55 : decode cX3_findByAllRows 55 = .ok (.invokevirtual 27, 3) := by decide +kernel
theorem dX3_findByAllRows_58 : decode cX3_findByAllRows 58 = .ok (.ifCond .ne 5, 3) := by decide +kernel
theorem dX3_findByAllRows_61 : decode cX3_findByAllRows 61 = .ok (.iconst 0, 1) := by decide +kernel
theorem dX3_findByAllRows_62 : decode cX3_findByAllRows 62 = .ok (.ireturn, 1) := by decide +kernel
theorem dX3_findByAllRows_63 : decode cX3_findByAllRows 63 = .ok (.iinc 3 1, 3) := by decide +kernel
theorem dX3_findByAllRows_66 : decode cX3_findByAllRows 66 = .ok (.goto (-30), 3) := by decide +kernel
theorem dX3_findByAllRows_69 : decode cX3_findByAllRows 69 = .ok (.iconst 0, 1) := by decide +kernel
theorem dX3_findByAllRows_70 : decode cX3_findByAllRows 70 = .ok (.ireturn, 1) := by decide +kernel
theorem dX3_isOrderOf_0 : decode cX3_isOrderOf 0 = .ok (.iconst 1, 1) := by decide +kernel
theorem dX3_isOrderOf_1 : decode cX3_isOrderOf 1 = .ok (.istore_n 2, 1) := by decide +kernel
theorem dX3_isOrderOf_2 : decode cX3_isOrderOf 2 = .ok (.iload_n 2, 1) := by decide +kernel
theorem dX3_isOrderOf_3 : decode cX3_isOrderOf 3 = .ok (.aload_n 1, 1) := by decide +kernel
theorem dX3_isOrderOf_4 : decode cX3_isOrderOf 4 = .ok (.arraylength, 1) := by decide +kernel
theorem dX3_isOrderOf_5 : decode cX3_isOrderOf 5 = .ok (.if_icmp .ge 32, 3) := by decide +kernel
theorem dX3_isOrderOf_8 : decode cX3_isOrderOf 8 = .ok (.aload_n 1, 1) := by decide +kernel
theorem dX3_isOrderOf_9 : decode cX3_isOrderOf 9 = .ok (.aload_n 0, 1) := by decide +kernel
theorem dX3_isOrderOf_10 : decode cX3_isOrderOf 10 = .ok (.getfield 9, 3) := by decide +kernel
theorem dX3_isOrderOf_13 : decode cX3_isOrderOf 13 = .ok (.iload_n 2, 1) := by decide +kernel
theorem dX3_isOrderOf_14 : decode cX3_isOrderOf 14 = .ok (.iconst 1, 1) := by decide +kernel
theorem dX3_isOrderOf_15 : decode cX3_isOrderOf 15 = .ok (.isub, 1) := by decide +kernel
theorem dX3_isOrderOf_16 : decode cX3_isOrderOf 16 = .ok (.iaload, 1) := by decide +kernel
theorem dX3_isOrderOf_17 : decode cX3_isOrderOf 17 = .ok (.aload_n 0, 1) := by decide +kernel
theorem dX3_isOrderOf_18 : decode cX3_isOrderOf 18 = .ok (.getfield 9, 3) := by decide +kernel
theorem dX3_isOrderOf_21 : decode cX3_isOrderOf 21 = .ok (.iload_n 2, 1) := by decide +kernel
theorem dX3_isOrderOf_22 : decode cX3_isOrderOf 22 = .ok (.iaload, 1) := by decide +kernel
theorem dX3_isOrderOf_23 : decode cX3_isOrderOf 23 = .ok (.invokestatic 19, 3) := by decide +kernel
theorem dX3_isOrderOf_26 : decode cX3_isOrderOf 26 = .ok (.ifCond .ne 5, 3) := by decide +kernel
theorem dX3_isOrderOf_29 : decode cX3_isOrderOf 29 = .ok (.iconst 0, 1) := by decide +kernel
theorem dX3_isOrderOf_30 : decode cX3_isOrderOf 30 = .ok (.ireturn, 1) := by decide +kernel
theorem dX3_isOrderOf_31 : decode cX3_isOrderOf 31 = .ok (.iinc 2 1, 3) := by decide +kernel
theorem dX3_isOrderOf_34 : decode cX3_isOrderOf 34 = .ok (.goto (-32), 3) := by decide +kernel
theorem dX3_isOrderOf_37 : decode cX3_isOrderOf 37 = .ok (.iconst 1, 1) := by decide +kernel
theorem dX3_isOrderOf_38 : decode cX3_isOrderOf 38 = .ok (.ireturn, 1) := by decide +kernel
theorem dX3_leadsTo_0 : decode cX3_leadsTo 0 = .ok (.iload_n 1, 1) := by decide +kernel
theorem dX3_leadsTo_1 : decode cX3_leadsTo 1 = .ok (.ifCond .lt 19, 3) := by decide +kernel
theorem dX3_leadsTo_4 : decode cX3_leadsTo 4 = .ok (.iload_n 1, 1) := by decide +kernel
theorem dX3_leadsTo_5 : decode cX3_leadsTo 5 = .ok (.aload_n 0, 1) := by decide +kernel
theorem dX3_leadsTo_6 : decode cX3_leadsTo 6 = .ok (.arraylength, 1) := by decide +kernel
theorem dX3_leadsTo_7 : decode cX3_leadsTo 7 = .ok (.if_icmp .ge 13, 3) := by decide +kernel
theorem dX3_leadsTo_10 : decode cX3_leadsTo 10 = .ok (.iload_n 2, 1) := by decide +kernel
theorem dX3_leadsTo_11 : decode cX3_leadsTo 11 = .ok (.ifCond .lt 9, 3) := by decide +kernel
theorem dX3_leadsTo_14 : decode cX3_leadsTo 14 = .ok (.iload_n 2, 1) := by decide +kernel
theorem dX3_leadsTo_15 : decode cX3_leadsTo 15 = .ok (.aload_n 0, 1) := by decide +kernel
theorem dX3_leadsTo_16 : decode cX3_leadsTo 16 = .ok (.arraylength, 1) := by decide +kernel
theorem dX3_leadsTo_17 : decode cX3_leadsTo 17 = .ok (.if_icmp .lt 5, 3) := by decide +kernel
theorem dX3_leadsTo_20 : decode cX3_leadsTo 20 = .ok (.iconst 0, 1) := by decide +kernel
theorem dX3_leadsTo_21 : decode cX3_leadsTo 21 = .ok (.ireturn, 1) := by decide +kernel
theorem dX3_leadsTo_22 : decode cX3_leadsTo 22 = .ok (.aload_n 0, 1) := by decide +kernel
theorem dX3_leadsTo_23 : decode cX3_leadsTo 23 = .ok (.iload_n 1, 1) := by decide +kernel
theorem dX3_leadsTo_24 : decode cX3_leadsTo 24 = .ok (.aaload, 1) := by decide +kernel
theorem dX3_leadsTo_25 : decode cX3_leadsTo 25 = .ok (.getfield 31, 3) := by decide +kernel
theorem dX3_leadsTo_28 : decode cX3_leadsTo 28 = .ok (.aload_n 0, 1) := by decide +kernel
theorem dX3_leadsTo_29 : decode cX3_leadsTo 29 = .ok (.iload_n 2, 1) := by decide +kernel
theorem dX3_leadsTo_30 : decode cX3_leadsTo 30 = .ok (.aaload, 1) := by decide +kernel
theorem dX3_leadsTo_31 : decode cX3_leadsTo 31 = .ok (.getfield 37, 3) := by decide +kernel
theorem dX3_leadsTo_34 : decode cX3_leadsTo 34 = .ok (.if_icmp .ne 7, 3) := by decide +kernel
theorem dX3_leadsTo_37 : decode cX3_leadsTo 37 = .ok (.iconst 1, 1) := by decide +kernel
theorem dX3_leadsTo_38 : decode cX3_leadsTo 38 = .ok (.goto 4, 3) := by decide +kernel
theorem dX3_leadsTo_41 : decode cX3_leadsTo 41 = .ok (.iconst 0, 1) := by decide +kernel
theorem dX3_leadsTo_42 : decode cX3_leadsTo 42 = .ok (.ireturn, 1) := by decide +kernel
theorem dX3_stepToNextRow_0 : decode cX3_stepToNextRow 0 = .ok (.iload_n 1, 1) := by decide +kernel
theorem dX3_stepToNextRow_1 : decode cX3_stepToNextRow 1 = .ok (.iconst 2, 1) := by decide +kernel
theorem dX3_stepToNextRow_2 : decode cX3_stepToNextRow 2 = .ok (.isub, 1) := by decide +kernel
theorem dX3_stepToNextRow_3 : decode cX3_stepToNextRow 3 = .ok (.istore_n 2, 1) := by decide +kernel
theorem dX3_stepToNextRow_4 : decode cX3_stepToNextRow 4 = .ok (.iload_n 2, 1) := by decide +kernel
theorem dX3_stepToNextRow_5 : decode cX3_stepToNextRow 5 = .ok (.ifCond .lt 26, 3) := by decide +kernel
theorem dX3_stepToNextRow_8 : decode cX3_stepToNextRow 8 = .ok (.aload_n 0, 1) := by decide +kernel
theorem dX3_stepToNextRow_9 : decode cX3_stepToNextRow 9 = .ok (.getfield 9, 3) := by decide +kernel
theorem dX3_stepToNextRow_12 : decode cX3_stepToNextRow 12 = .ok (.iload_n 2, 1) := by decide +kernel
theorem dX3_stepToNextRow_13 : decode cX3_stepToNextRow 13 = .ok (.iaload, 1) := by decide +kernel
theorem dX3_stepToNextRow_14 : decode cX3_stepToNextRow 14 = .ok (.aload_n 0, 1) := by decide +kernel
theorem dX3_stepToNextRow_15 : decode cX3_stepToNextRow 15 = .ok (.getfield 9, 3) := by decide +kernel
theorem dX3_stepToNextRow_18 : decode cX3_stepToNextRow 18 = .ok (.iload_n 2, 1) := by decide +kernel
theorem dX3_stepToNextRow_19 : decode cX3_stepToNextRow 19 = .ok (.iconst 1, 1) := by decide +kernel
theorem dX3_stepToNextRow_20 : decode cX3_stepToNextRow 20 = .ok (.iadd, 1) := by decide +kernel
theorem dX3_stepToNextRow_21 : decode cX3_stepToNextRow 21 = .ok (.iaload, 1) := by decide +kernel
theorem dX3_stepToNextRow_22 : decode cX3_stepToNextRow 22 = .ok (.if_icmp .le 9, 3) := by decide +kernel
theorem dX3_stepToNextRow_25 : decode cX3_stepToNextRow 25 = .ok (.iinc 2 (-1), 3) := by decide +kernel
theorem dX3_stepToNextRow_28 : decode cX3_stepToNextRow 28 = .ok (.goto (-24), 3) := by decide +kernel
theorem dX3_stepToNextRow_31 : decode cX3_stepToNextRow 31 = .ok (.iload_n 2, 1) := by decide +kernel
theorem dX3_stepToNextRow_32 : decode cX3_stepToNextRow 32 = .ok (.ifCond .ge 5, 3) := by decide +kernel
theorem dX3_stepToNextRow_35 : decode cX3_stepToNextRow 35 = .ok (.iconst 0, 1) := by decide +kernel
theorem dX3_stepToNextRow_36 : decode cX3_stepToNextRow 36 = .ok (.ireturn, 1) := by decide +kernel
theorem dX3_stepToNextRow_37 : decode cX3_stepToNextRow 37 = .ok (.iload_n 1, 1) := by decide +kernel
theorem dX3_stepToNextRow_38 : decode cX3_stepToNextRow 38 = .ok (.iconst 1, 1) := by decide +kernel
theorem dX3_stepToNextRow_39 : decode cX3_stepToNextRow 39 = .ok (.isub, 1) := by decide +kernel
theorem dX3_stepToNextRow_40 : decode cX3_stepToNextRow 40 = .ok (.istore_n 3, 1) := by decide +kernel
theorem dX3_stepToNextRow_41 : decode cX3_stepToNextRow 41 = .ok (.iload_n 3, 1) := by decide +kernel
theorem dX3_stepToNextRow_42 : decode cX3_stepToNextRow 42 = .ok (.iload_n 2, 1) := by decide +kernel
theorem dX3_stepToNextRow_43 : decode cX3_stepToNextRow 43 = .ok (.if_icmp .le 24, 3) := by decide +kernel
theorem dX3_stepToNextRow_46 : decode cX3_stepToNextRow 46 = .ok (.aload_n 0, 1) := by decide +kernel
theorem dX3_stepToNextRow_47 : decode cX3_stepToNextRow 47 = .ok (.getfield 9, 3) := by decide +kernel
theorem dX3_stepToNextRow_50 : decode cX3_stepToNextRow 50 = .ok (.iload_n 3, 1) := by decide +kernel
theorem dX3_stepToNextRow_51 : decode cX3_stepToNextRow 51 = .ok (.iaload, 1) := by decide +kernel
theorem dX3_stepToNextRow_52 : decode cX3_stepToNextRow 52 = .ok (.aload_n 0, 1) := by decide +kernel
theorem dX3_stepToNextRow_53 : decode cX3_stepToNextRow 53 = .ok (.getfield 9, 3) := by decide +kernel
theorem dX3_stepToNextRow_56 : decode cX3_stepToNextRow 56 = .ok (.iload_n 2, 1) := by decide +kernel
theorem dX3_stepToNextRow_57 : decode cX3_stepToNextRow 57 = .ok (.iaload, 1) := by decide +kernel
theorem dX3_stepToNextRow_58 : decode cX3_stepToNextRow 58 = .ok (.if_icmp .ge 9, 3) := by decide +kernel
theorem dX3_stepToNextRow_61 : decode cX3_stepToNextRow 61 = .ok (.iinc 3 (-1), 3) := by decide +kernel
theorem dX3_stepToNextRow_64 : decode cX3_stepToNextRow 64 = .ok (.goto (-23), 3) := by decide +kernel
theorem dX3_stepToNextRow_67 : decode cX3_stepToNextRow 67 = .ok (.aload_n 0, 1) := by decide +kernel
theorem dX3_stepToNextRow_68 : decode cX3_stepToNextRow 68 = .ok (.iload_n 2, 1) := by decide +kernel
theorem dX3_stepToNextRow_69 : decode cX3_stepToNextRow 69 = .ok (.iload_n 3, 1) := by decide +kernel
theorem dX3_stepToNextRow_70 : decode cX3_stepToNextRow 70 = .ok (.invokevirtual 40, 3) := by decide +kernel
theorem dX3_stepToNextRow_73 : decode cX3_stepToNextRow 73 = .ok (.iload_n 2, 1) := by decide +kernel
theorem dX3_stepToNextRow_74 : decode cX3_stepToNextRow 74 = .ok (.iconst 1, 1) := by decide +kernel
theorem dX3_stepToNextRow_75 : decode cX3_stepToNextRow 75 = .ok (.iadd, 1) := by decide +kernel
theorem dX3_stepToNextRow_76 : decode cX3_stepToNextRow 76 = .ok (.istore 4, 2) := by decide +kernel
theorem dX3_stepToNextRow_78 : decode cX3_stepToNextRow 78 = .ok (.iload_n 1, 1) := by decide +kernel
theorem dX3_stepToNextRow_79 : decode cX3_stepToNextRow 79 = .ok (.iconst 1, 1) := by decide +kernel
theorem dX3_stepToNextRow_80 : decode cX3_stepToNextRow 80 = .ok (.isub, 1) := by decide +kernel
theorem dX3_stepToNextRow_81 : decode cX3_stepToNextRow 81 = .ok (.istore 5, 2) := by decide +kernel
theorem dX3_stepToNextRow_83 : decode cX3_stepToNextRow 83 = .ok (.iload 4, 2) := by decide +kernel
theorem dX3_stepToNextRow_85 : decode cX3_stepToNextRow 85 = .ok (.iload 5, 2) := by decide +kernel
theorem dX3_stepToNextRow_87 : decode cX3_stepToNextRow 87 = .ok (.if_icmp .ge 20, 3) := by decide +kernel
theorem dX3_stepToNextRow_90 : decode cX3_stepToNextRow 90 = .ok (.aload_n 0, 1) := by decide +kernel
theorem dX3_stepToNextRow_91 : decode cX3_stepToNextRow 91 = .ok (.iload 4, 2) := by decide +kernel
theorem dX3_stepToNextRow_93 : decode cX3_stepToNextRow 93 = .ok (.iload 5, 2) := by decide +kernel
theorem dX3_stepToNextRow_95 : decode cX3_stepToNextRow 95 = .ok (.invokevirtual 40, 3) := by decide +kernel
theorem dX3_stepToNextRow_98 : decode cX3_stepToNextRow 98 = .ok (.iinc 4 1, 3) := by decide +kernel
theorem dX3_stepToNextRow_101 : decode cX3_stepToNextRow 101 = .ok (.iinc 5 (-1), 3) := by decide +kernel
theorem dX3_stepToNextRow_104 : decode cX3_stepToNextRow 104 = .ok (.goto (-21), 3) := by decide +kernel
theorem dX3_stepToNextRow_107 : decode cX3_stepToNextRow 107 = .ok (.iconst 1, 1) := by decide +kernel
theorem dX3_stepToNextRow_108 : decode cX3_stepToNextRow 108 = .ok (.ireturn, 1) := by decide +kernel
theorem dX3_swap_0 : decode cX3_swap 0 = .ok (.aload_n 0, 1) := by decide +kernel
theorem dX3_swap_1 : decode cX3_swap 1 = .ok (.getfield 9, 3) := by decide +kernel
theorem dX3_swap_4 : decode cX3_swap 4 = .ok (.iload_n 1, 1) := by decide +kernel
theorem dX3_swap_5 : decode cX3_swap 5 = .ok (.iaload, 1) := by decide +kernel
theorem dX3_swap_6 : decode cX3_swap 6 = .ok (.istore_n 3, 1) := by decide +kernel
theorem dX3_swap_7 : decode cX3_swap 7 = .ok (.aload_n 0, 1) := by decide +kernel
theorem dX3_swap_8 : decode cX3_swap 8 = .ok (.getfield 9, 3) := by decide +kernel
theorem dX3_swap_11 : decode cX3_swap 11 = .ok (.iload_n 1, 1) := by decide +kernel
theorem dX3_swap_12 : decode cX3_swap 12 = .ok (.aload_n 0, 1) := by decide +kernel
theorem dX3_swap_13 : decode cX3_swap 13 = .ok (.getfield 9, 3) := by decide +kernel
theorem dX3_swap_16 : decode cX3_swap 16 = .ok (.iload_n 2, 1) := by decide +kernel
theorem dX3_swap_17 : decode cX3_swap 17 = .ok (.iaload, 1) := by decide +kernel
theorem dX3_swap_18 : decode cX3_swap 18 = .ok (.iastore, 1) := by decide +kernel
theorem dX3_swap_19 : decode cX3_swap 19 = .ok (.aload_n 0, 1) := by decide +kernel
theorem dX3_swap_20 : decode cX3_swap 20 = .ok (.getfield 9, 3) := by decide +kernel
theorem dX3_swap_23 : decode cX3_swap 23 = .ok (.iload_n 2, 1) := by decide +kernel
theorem dX3_swap_24 : decode cX3_swap 24 = .ok (.iload_n 3, 1) := by decide +kernel
theorem dX3_swap_25 : decode cX3_swap 25 = .ok (.iastore, 1) := by decide +kernel
theorem dX3_swap_26 : decode cX3_swap 26 = .ok (.return_, 1) := by decide +kernel
theorem dX4_init_0 : decode cX4_init 0 = .ok (.aload_n 0, 1) := by decide +kernel
theorem dX4_init_1 : decode cX4_init 1 = .ok (.invokespecial 1, 3) := by decide +kernel
theorem dX4_init_4 : decode cX4_init 4 = .ok (.aload_n 0, 1) := by decide +kernel
theorem dX4_init_5 : decode cX4_init 5 = .ok (.bipush 32, 2) := by decide +kernel
theorem dX4_init_7 : decode cX4_init 7 = .ok (.newarray .long, 2) := by decide +kernel
theorem dX4_init_9 : decode cX4_init 9 = .ok (.putfield 9, 3) := by decide +kernel
theorem dX4_init_12 : decode cX4_init 12 = .ok (.aload_n 0, 1) := by decide +kernel
theorem dX4_init_13 : decode cX4_init 13 = .ok (.bipush 32, 2) := by decide +kernel
theorem dX4_init_15 : decode cX4_init 15 = .ok (.newarray .long, 2) := by decide +kernel
theorem dX4_init_17 : decode cX4_init 17 = .ok (.putfield 13, 3) := by decide +kernel
theorem dX4_init_20 : decode cX4_init 20 = .ok (.aload_n 0, 1) := by decide +kernel
theorem dX4_init_21 : decode cX4_init 21 = .ok (.bipush 32, 2) := by decide +kernel
theorem dX4_init_23 : decode cX4_init 23 = .ok (.newarray .boolean, 2) := by decide +kernel
theorem dX4_init_25 : decode cX4_init 25 = .ok (.putfield 16, 3) := by decide +kernel
theorem dX4_init_28 : decode cX4_init 28 = .ok (.return_, 1) := by decide +kernel
theorem dX4_plant_0 : decode cX4_plant 0 = .ok (.iconst 0, 1) := by decide +kernel
theorem dX4_plant_1 : decode cX4_plant 1 = .ok (.istore_n 3, 1) := by decide +kernel
theorem dX4_plant_2 : decode cX4_plant 2 = .ok (.iload_n 3, 1) := by decide +kernel
theorem dX4_plant_3 : decode cX4_plant 3 = .ok (.bipush 16, 2) := by decide +kernel
theorem dX4_plant_5 : decode cX4_plant 5 = .ok (.if_icmp .ge 71, 3) := by decide +kernel
theorem dX4_plant_8 : decode cX4_plant 8 = .ok (.iload_n 3, 1) := by decide +kernel
theorem dX4_plant_9 : decode cX4_plant 9 = .ok (.aload_n 1, 1) := by decide +kernel
theorem dX4_plant_10 : decode cX4_plant 10 = .ok (.arraylength, 1) := by decide +kernel
theorem dX4_plant_11 : decode cX4_plant 11 = .ok (.if_icmp .ge 7, 3) := by decide +kernel
theorem dX4_plant_14 : decode cX4_plant 14 = .ok (.iconst 1, 1) := by decide +kernel
theorem dX4_plant_15 : decode cX4_plant 15 = .ok (.goto 4, 3) := by decide +kernel
theorem dX4_plant_18 : decode cX4_plant 18 = .ok (.iconst 0, 1) := by decide +kernel
theorem dX4_plant_19 : decode cX4_plant 19 = .ok (.istore 4, 2) := by decide +kernel
theorem dX4_plant_21 : decode cX4_plant 21 = .ok (.aload_n 0, 1) := by decide +kernel
theorem dX4_plant_22 : decode cX4_plant 22 = .ok (.getfield 9, 3) := by decide +kernel
theorem dX4_plant_25 : decode cX4_plant 25 = .ok (.bipush 16, 2) := by decide +kernel
theorem dX4_plant_27 : decode cX4_plant 27 = .ok (.iload_n 3, 1) := by decide +kernel
theorem dX4_plant_28 : decode cX4_plant 28 = .ok (.iadd, 1) := by decide +kernel
theorem dX4_plant_29 : decode cX4_plant 29 = .ok (.iload 4, 2) := by decide +kernel
theorem dX4_plant_31 : decode cX4_plant 31 = .ok (.ifCond .eq 12, 3) := by decide +kernel
theorem dX4_plant_34 : decode cX4_plant 34 = .ok (.aload_n 1, 1) := by decide +kernel
theorem dX4_plant_35 : decode cX4_plant 35 = .ok (.iload_n 3, 1) := by decide +kernel
theorem dX4_plant_36 : decode cX4_plant 36 = .ok (.aaload, 1) := by decide +kernel
theorem dX4_plant_37 : decode cX4_plant 37 = .ok (.invokevirtual 20, 3) := by decide +kernel
theorem dX4_plant_40 : decode cX4_plant 40 = .ok (.goto 4, 3) := by decide +kernel
theorem dX4_plant_43 : decode cX4_plant 43 = .ok (.lconst 0, 1) := by decide +kernel
theorem dX4_plant_44 : decode cX4_plant 44 = .ok (.lastore, 1) := by decide +kernel
theorem dX4_plant_45 : decode cX4_plant 45 = .ok (.aload_n 0, 1) := by decide +kernel
theorem dX4_plant_46 : decode cX4_plant 46 = .ok (.getfield 13, 3) := by decide +kernel
theorem dX4_plant_49 : decode cX4_plant 49 = .ok (.bipush 16, 2) := by decide +kernel
theorem dX4_plant_51 : decode cX4_plant 51 = .ok (.iload_n 3, 1) := by decide +kernel
theorem dX4_plant_52 : decode cX4_plant 52 = .ok (.iadd, 1) := by decide +kernel
theorem dX4_plant_53 : decode cX4_plant 53 = .ok (.iload 4, 2) := by decide +kernel
theorem dX4_plant_55 : decode cX4_plant 55 = .ok (.ifCond .eq 13, 3) := by decide +kernel
theorem dX4_plant_58 : decode cX4_plant 58 = .ok (.aload_n 1, 1) := by decide +kernel
theorem dX4_plant_59 : decode cX4_plant 59 = .ok (.iload_n 3, 1) := by decide +kernel
theorem dX4_plant_60 : decode cX4_plant 60 = .ok (.aaload, 1) := by decide +kernel
theorem dX4_plant_61 : decode cX4_plant 61 = .ok (.iload_n 2, 1) := by decide +kernel
theorem dX4_plant_62 : decode cX4_plant 62 = .ok (.invokevirtual 26, 3) := by decide +kernel
theorem dX4_plant_65 : decode cX4_plant 65 = .ok (.goto 4, 3) := by decide +kernel
theorem dX4_plant_68 : decode cX4_plant 68 = .ok (.lconst 0, 1) := by decide +kernel
theorem dX4_plant_69 : decode cX4_plant 69 = .ok (.lastore, 1) := by decide +kernel
theorem dX4_plant_70 : decode cX4_plant 70 = .ok (.iinc 3 1, 3) := by decide +kernel
theorem dX4_plant_73 : decode cX4_plant 73 = .ok (.goto (-71), 3) := by decide +kernel
theorem dX4_plant_76 : decode cX4_plant 76 = .ok (.aload_n 0, 1) := by decide +kernel
theorem dX4_plant_77 : decode cX4_plant 77 = .ok (.getfield 9, 3) := by decide +kernel
theorem dX4_plant_80 : decode cX4_plant 80 = .ok (.invokestatic 30, 3) := by decide +kernel
theorem dX4_plant_83 : decode cX4_plant 83 = .ok (.aload_n 0, 1) := by decide +kernel
theorem dX4_plant_84 : decode cX4_plant 84 = .ok (.getfield 13, 3) := by decide +kernel
theorem dX4_plant_87 : decode cX4_plant 87 = .ok (.invokestatic 30, 3) := by decide +kernel
theorem dX4_plant_90 : decode cX4_plant 90 = .ok (.return_, 1) := by decide +kernel
theorem dX4_joinUpwards_0 : decode cX4_joinUpwards 0 = .ok (.bipush 15, 2) := by decide +kernel
theorem dX4_joinUpwards_2 : decode cX4_joinUpwards 2 = .ok (.istore_n 1, 1) := by decide +kernel
theorem dX4_joinUpwards_3 : decode cX4_joinUpwards 3 = .ok (.iload_n 1, 1) := by decide +kernel
theorem dX4_joinUpwards_4 : decode cX4_joinUpwards 4 = .ok (.iconst 1, 1) := by decide +kernel
theorem dX4_joinUpwards_5 : decode cX4_joinUpwards 5 = .ok (.if_icmp .lt 29, 3) := by decide +kernel
theorem dX4_joinUpwards_8 : decode cX4_joinUpwards 8 = .ok (.aload_n 0, 1) := by decide +kernel
theorem dX4_joinUpwards_9 : decode cX4_joinUpwards 9 = .ok (.iload_n 1, 1) := by decide +kernel
theorem dX4_joinUpwards_10 : decode cX4_joinUpwards 10 = .ok (.ldc2_w 34, 3) := by decide +kernel
theorem dX4_joinUpwards_13 : decode cX4_joinUpwards 13 = .ok (.aload_n 0, 1) := by decide +kernel
theorem dX4_joinUpwards_14 : decode cX4_joinUpwards 14 = .ok (.iconst 2, 1) := by decide +kernel
theorem dX4_joinUpwards_15 : decode cX4_joinUpwards 15 = .ok (.iload_n 1, 1) := by decide +kernel
theorem dX4_joinUpwards_16 : decode cX4_joinUpwards 16 = .ok (.imul, 1) := by decide +kernel
theorem dX4_joinUpwards_17 : decode cX4_joinUpwards 17 = .ok (.laload, 1) := by decide +kernel
theorem dX4_joinUpwards_18 : decode cX4_joinUpwards 18 = .ok (.lmul, 1) := by decide +kernel
theorem dX4_joinUpwards_19 : decode cX4_joinUpwards 19 = .ok (.aload_n 0, 1) := by decide +kernel
theorem dX4_joinUpwards_20 : decode cX4_joinUpwards 20 = .ok (.iconst 2, 1) := by decide +kernel
theorem dX4_joinUpwards_21 : decode cX4_joinUpwards 21 = .ok (.iload_n 1, 1) := by decide +kernel
theorem dX4_joinUpwards_22 : decode cX4_joinUpwards 22 = .ok (.imul, 1) := by decide +kernel
theorem dX4_joinUpwards_23 : decode cX4_joinUpwards 23 = .ok (.iconst 1, 1) := by decide +kernel
theorem dX4_joinUpwards_24 : decode cX4_joinUpwards 24 = .ok (.iadd, 1) := by decide +kernel
theorem dX4_joinUpwards_25 : decode cX4_joinUpwards 25 = .ok (.laload, 1) := by decide +kernel
theorem dX4_joinUpwards_26 : decode cX4_joinUpwards 26 = .ok (.ladd, 1) := by decide +kernel
theorem dX4_joinUpwards_27 : decode cX4_joinUpwards 27 = .ok (.lastore, 1) := by decide +kernel
theorem dX4_joinUpwards_28 : decode cX4_joinUpwards 28 = .ok (.iinc 1 (-1), 3) := by decide +kernel
theorem dX4_joinUpwards_31 : decode cX4_joinUpwards 31 = .ok (.goto (-28), 3) := by decide +kernel
theorem dX4_joinUpwards_34 : decode cX4_joinUpwards 34 = .ok (.return_, 1) := by decide +kernel
theorem dX4_findUnlikeLeaves_0 : decode cX4_findUnlikeLeaves 0 = .ok (.iconst 0, 1) := by decide +kernel
theorem dX4_findUnlikeLeaves_1 : decode cX4_findUnlikeLeaves 1 = .ok (.istore_n 1, 1) := by decide +kernel
theorem dX4_findUnlikeLeaves_2 : decode cX4_findUnlikeLeaves 2 = .ok (.iconst 0, 1) := by decide +kernel
theorem dX4_findUnlikeLeaves_3 : decode cX4_findUnlikeLeaves 3 = .ok (.istore_n 2, 1) := by decide +kernel
theorem dX4_findUnlikeLeaves_4 : decode cX4_findUnlikeLeaves 4 = .ok (.iconst 1, 1) := by decide +kernel
theorem dX4_findUnlikeLeaves_5 : decode cX4_findUnlikeLeaves 5 = .ok (.istore_n 3, 1) := by decide +kernel
theorem dX4_findUnlikeLeaves_6 : decode cX4_findUnlikeLeaves 6 = .ok (.iload_n 3, 1) := by decide +kernel
theorem dX4_findUnlikeLeaves_7 : decode cX4_findUnlikeLeaves 7 = .ok (.bipush 32, 2) := by decide +kernel
theorem dX4_findUnlikeLeaves_9 : decode cX4_findUnlikeLeaves 9 = .ok (.if_icmp .ge 101, 3) := by decide +kernel
theorem dX4_findUnlikeLeaves_12 : decode cX4_findUnlikeLeaves 12 = .ok (.iload_n 3, 1) := by decide +kernel
theorem dX4_findUnlikeLeaves_13 : decode cX4_findUnlikeLeaves 13 = .ok (.iconst 1, 1) := by decide +kernel
theorem dX4_findUnlikeLeaves_14 : decode cX4_findUnlikeLeaves 14 = .ok (.if_icmp .eq 14, 3) := by decide +kernel
theorem dX4_findUnlikeLeaves_17 : decode cX4_findUnlikeLeaves 17 = .ok (.aload_n 0, 1) := by decide +kernel
theorem dX4_findUnlikeLeaves_18 : decode cX4_findUnlikeLeaves 18 = .ok (.getfield 16, 3) := by decide +kernel
theorem dX4_findUnlikeLeaves_21 : decode cX4_findUnlikeLeaves 21 = .ok (.iload_n 3, 1) := by decide +kernel
theorem dX4_findUnlikeLeaves_22 : decode cX4_findUnlikeLeaves 22 = .ok (.iconst 2, 1) := by decide +kernel
theorem dX4_findUnlikeLeaves_23 : decode cX4_findUnlikeLeaves 23 = .ok (.idiv, 1) := by decide +kernel
theorem dX4_findUnlikeLeaves_24 : decode cX4_findUnlikeLeaves 24 = .ok (.baload, 1) := by decide +kernel
theorem dX4_findUnlikeLeaves_25 : decode cX4_findUnlikeLeaves 25 = .ok (.ifCond .eq 7, 3) := by decide +kernel
theorem dX4_findUnlikeLeaves_28 : decode cX4_findUnlikeLeaves 28 = .ok (.iconst 1, 1) := by decide +kernel
theorem dX4_findUnlikeLeaves_29 : decode cX4_findUnlikeLeaves 29 = .ok (.goto 4, 3) := by decide +kernel
theorem dX4_findUnlikeLeaves_32 : decode cX4_findUnlikeLeaves 32 = .ok (.iconst 0, 1) := by decide +kernel
theorem dX4_findUnlikeLeaves_33 : decode cX4_findUnlikeLeaves 33 = .ok (.istore 4, 2) := by decide +kernel
theorem dX4_findUnlikeLeaves_35 : decode cX4_findUnlikeLeaves 35 = .ok (.aload_n 0, 1) := by decide +kernel
theorem dX4_findUnlikeLeaves_36 : decode cX4_findUnlikeLeaves 36 = .ok (.getfield 16, 3) := by decide +kernel
theorem dX4_findUnlikeLeaves_39 : decode cX4_findUnlikeLeaves 39 = .ok (.iload_n 3, 1) := by decide +kernel
theorem dX4_findUnlikeLeaves_40 : decode cX4_findUnlikeLeaves 40 = .ok (.iload 4, 2) := by decide +kernel
theorem dX4_findUnlikeLeaves_42 : decode cX4_findUnlikeLeaves 42 = .ok (.ifCond .eq 23, 3) := by decide +kernel
theorem dX4_findUnlikeLeaves_45 : decode cX4_findUnlikeLeaves 45 = .ok (.aload_n 0, 1) := by decide +kernel
theorem dX4_findUnlikeLeaves_46 : decode cX4_findUnlikeLeaves 46 = .ok (.getfield 9, 3) := by decide +kernel
theorem dX4_findUnlikeLeaves_49 : decode cX4_findUnlikeLeaves 49 = .ok (.iload_n 3, 1) := by decide +kernel
theorem dX4_findUnlikeLeaves_50 : decode cX4_findUnlikeLeaves 50 = .ok (.laload, 1) := by decide +kernel
theorem dX4_findUnlikeLeaves_51 : decode cX4_findUnlikeLeaves 51 = .ok (.aload_n 0, 1) := by decide +kernel
theorem dX4_findUnlikeLeaves_52 : decode cX4_findUnlikeLeaves 52 = .ok (.getfield 13, 3) := by decide +kernel
theorem dX4_findUnlikeLeaves_55 : decode cX4_findUnlikeLeaves 55 = .ok (.iload_n 3, 1) := by decide +kernel
theorem dX4_findUnlikeLeaves_56 : decode cX4_findUnlikeLeaves 56 = .ok (.laload, 1) := by decide +kernel
theorem dX4_findUnlikeLeaves_57 : decode cX4_findUnlikeLeaves 57 = .ok (.lcmp, 1) := by decide +kernel
theorem dX4_findUnlikeLeaves_58 : decode cX4_findUnlikeLeaves 58 = .ok (.ifCond .eq 7, 3) := by decide +kernel
theorem dX4_findUnlikeLeaves_61 : decode cX4_findUnlikeLeaves 61 = .ok (.iconst 1, 1) := by decide +kernel
theorem dX4_findUnlikeLeaves_62 : decode cX4_findUnlikeLeaves 62 = .ok (.goto 4, 3) := by decide +kernel
theorem dX4_findUnlikeLeaves_65 : decode cX4_findUnlikeLeaves 65 = .ok (.iconst 0, 1) := by decide +kernel
theorem dX4_findUnlikeLeaves_66 : decode cX4_findUnlikeLeaves 66 = .ok (.bastore, 1) := by decide +kernel
theorem dX4_findUnlikeLeaves_67 : decode cX4_findUnlikeLeaves 67 = .ok (.iload_n 2, 1) := by decide +kernel
theorem dX4_findUnlikeLeaves_68 : decode cX4_findUnlikeLeaves 68 = .ok (.iload 4, 2) := by decide +kernel
theorem dX4_findUnlikeLeaves_70 : decode cX4_findUnlikeLeaves 70 = .ok (.ifCond .eq 7, 3) := by decide +kernel
theorem dX4_findUnlikeLeaves_73 : decode cX4_findUnlikeLeaves 73 = .ok (.iconst 1, 1) := by decide +kernel
theorem dX4_findUnlikeLeaves_74 : decode cX4_findUnlikeLeaves 74 = .ok (.goto 4, 3) := by decide +kernel
theorem dX4_findUnlikeLeaves_77 : decode cX4_findUnlikeLeaves 77 = .ok (.iconst 0, 1) := by decide +kernel
theorem dX4_findUnlikeLeaves_78 : decode cX4_findUnlikeLeaves 78 = .ok (.iadd, 1) := by decide +kernel
theorem dX4_findUnlikeLeaves_79 : decode cX4_findUnlikeLeaves 79 = .ok (.istore_n 2, 1) := by decide +kernel
theorem dX4_findUnlikeLeaves_80 : decode cX4_findUnlikeLeaves 80 = .ok (.aload_n 0, 1) := by decide +kernel
theorem dX4_findUnlikeLeaves_81 : decode cX4_findUnlikeLeaves 81 = .ok (.getfield 16, 3) := by decide +kernel
theorem dX4_findUnlikeLeaves_84 : decode cX4_findUnlikeLeaves 84 = .ok (.iload_n 3, 1) := by decide +kernel
theorem dX4_findUnlikeLeaves_85 : decode cX4_findUnlikeLeaves 85 = .ok (.baload, 1) := by decide +kernel
theorem dX4_findUnlikeLeaves_86 : decode cX4_findUnlikeLeaves 86 = .ok (.ifCond .eq 18, 3) := by decide +kernel
theorem dX4_findUnlikeLeaves_89 : decode cX4_findUnlikeLeaves 89 = .ok (.iload_n 3, 1) := by decide +kernel
theorem dX4_findUnlikeLeaves_90 : decode cX4_findUnlikeLeaves 90 = .ok (.bipush 16, 2) := by decide +kernel
theorem dX4_findUnlikeLeaves_92 : decode cX4_findUnlikeLeaves 92 = .ok (.if_icmp .lt 12, 3) := by decide +kernel
theorem dX4_findUnlikeLeaves_95 : decode cX4_findUnlikeLeaves 95 = .ok (.iload_n 1, 1) := by decide +kernel
theorem dX4_findUnlikeLeaves_96 : decode cX4_findUnlikeLeaves 96 = .ok (.iconst 1, 1) := by decide +kernel
theorem dX4_findUnlikeLeaves_97 : decode cX4_findUnlikeLeaves 97 = .ok (.iload_n 3, 1) := by decide +kernel
theorem dX4_findUnlikeLeaves_98 : decode cX4_findUnlikeLeaves 98 = .ok (.bipush 16, 2) := by decide +kernel
theorem dX4_findUnlikeLeaves_100 : decode cX4_findUnlikeLeaves 100 = .ok (.isub, 1) := by decide +kernel
theorem dX4_findUnlikeLeaves_101 : decode cX4_findUnlikeLeaves 101 = .ok (.ishl, 1) := by decide +kernel
theorem dX4_findUnlikeLeaves_102 : decode cX4_findUnlikeLeaves 102 = .ok (.ior, 1) := by decide +kernel
theorem dX4_findUnlikeLeaves_103 : decode cX4_findUnlikeLeaves 103 = .ok (.istore_n 1, 1) := by decide +kernel
theorem dX4_findUnlikeLeaves_104 : decode cX4_findUnlikeLeaves 104 = .ok (.iinc 3 1, 3) := by decide +kernel
theorem dX4_findUnlikeLeaves_107 : decode cX4_findUnlikeLeaves 107 = .ok (.goto (-101), 3) := by decide +kernel
theorem dX4_findUnlikeLeaves_110 : decode cX4_findUnlikeLeaves 110 = .ok (.aload_n 0, 1) := by decide +kernel
theorem dX4_findUnlikeLeaves_111 : decode cX4_findUnlikeLeaves 111 = .ok (.iload_n 2, 1) := by decide +kernel
theorem dX4_findUnlikeLeaves_112 : decode cX4_findUnlikeLeaves 112 = .ok (.putfield 36, 3) := by decide +kernel
theorem dX4_findUnlikeLeaves_115 : decode cX4_findUnlikeLeaves 115 = .ok (.iload_n 1, 1) := by decide +kernel
theorem dX4_findUnlikeLeaves_116 : decode cX4_findUnlikeLeaves 116 = .ok (.ireturn, 1) := by decide +kernel
theorem dX5_init_0 : decode cX5_init 0 = .ok (.aload_n 0, 1) := by decide +kernel
theorem dX5_init_1 : decode cX5_init 1 = .ok (.invokespecial 1, 3) := by decide +kernel
theorem dX5_init_4 : decode cX5_init 4 = .ok (.aload_n 0, 1) := by decide +kernel
theorem dX5_init_5 : decode cX5_init 5 = .ok (.bipush 6, 2) := by decide +kernel
theorem dX5_init_7 : decode cX5_init 7 = .ok (.anewarray 9, 3) := by decide +kernel
theorem dX5_init_10 : decode cX5_init 10 = .ok (.putfield 11, 3) := by decide +kernel
theorem dX5_init_13 : decode cX5_init 13 = .ok (.aload_n 0, 1) := by decide +kernel
theorem dX5_init_14 : decode cX5_init 14 = .ok (.iconst 4, 1) := by decide +kernel
theorem dX5_init_15 : decode cX5_init 15 = .ok (.newarray .boolean, 2) := by decide +kernel
theorem dX5_init_17 : decode cX5_init 17 = .ok (.putfield 15, 3) := by decide +kernel
theorem dX5_init_20 : decode cX5_init 20 = .ok (.aload_n 0, 1) := by decide +kernel
theorem dX5_init_21 : decode cX5_init 21 = .ok (.new 19, 3) := by decide +kernel
theorem dX5_init_24 : decode cX5_init 24 = .ok (.dup, 1) := by decide +kernel
theorem dX5_init_25 : decode cX5_init 25 = .ok (.invokespecial 21, 3) := by decide +kernel
theorem dX5_init_28 : decode cX5_init 28 = .ok (.putfield 22, 3) := by decide +kernel
theorem dX5_init_31 : decode cX5_init 31 = .ok (.aload_n 0, 1) := by decide +kernel
theorem dX5_init_32 : decode cX5_init 32 = .ok (.new 26, 3) := by decide +kernel
theorem dX5_init_35 : decode cX5_init 35 = .ok (.dup, 1) := by decide +kernel
theorem dX5_init_36 : decode cX5_init 36 = .ok (.invokespecial 28, 3) := by decide +kernel
theorem dX5_init_39 : decode cX5_init 39 = .ok (.putfield 29, 3) := by decide +kernel
theorem dX5_init_42 : decode cX5_init 42 = .ok (.aload_n 0, 1) := by decide +kernel
theorem dX5_init_43 : decode cX5_init 43 = .ok (.new 33, 3) := by decide +kernel
theorem dX5_init_46 : decode cX5_init 46 = .ok (.dup, 1) := by decide +kernel
theorem dX5_init_47 : decode cX5_init 47 = .ok (.invokespecial 35, 3) := by decide +kernel
theorem dX5_init_50 : decode cX5_init 50 = .ok (.putfield 36, 3) := by decide +kernel
theorem dX5_init_53 : decode cX5_init 53 = .ok (.aload_n 0, 1) := by decide +kernel
theorem dX5_init_54 : decode cX5_init 54 = .ok (.sipush 2000, 3) := by decide +kernel
theorem dX5_init_57 : decode cX5_init 57 = .ok (.putfield 40, 3) := by decide +kernel
theorem dX5_init_60 : decode cX5_init 60 = .ok (.aload_n 0, 1) := by decide +kernel
theorem dX5_init_61 : decode cX5_init 61 = .ok (.iconst 4, 1) := by decide +kernel
theorem dX5_init_62 : decode cX5_init 62 = .ok (.newarray .int, 2) := by decide +kernel
theorem dX5_init_64 : decode cX5_init 64 = .ok (.putfield 44, 3) := by decide +kernel
theorem dX5_init_67 : decode cX5_init 67 = .ok (.aload_n 0, 1) := by decide +kernel
theorem dX5_init_68 : decode cX5_init 68 = .ok (.getfield 44, 3) := by decide +kernel
theorem dX5_init_71 : decode cX5_init 71 = .ok (.bipush 70, 2) := by decide +kernel
theorem dX5_init_73 : decode cX5_init 73 = .ok (.invokestatic 48, 3) := by decide +kernel
theorem dX5_init_76 : decode cX5_init 76 = .ok (.return_, 1) := by decide +kernel
theorem dX5_book_0 : decode cX5_book 0 = .ok (.iload_n 1, 1) := by decide +kernel
theorem dX5_book_1 : decode cX5_book 1 = .ok (.iconst 1, 1) := by decide +kernel
theorem dX5_book_2 : decode cX5_book 2 = .ok (.bipush 12, 2) := by decide +kernel
theorem dX5_book_4 : decode cX5_book 4 = .ok (.invokestatic 54, 3) := by decide +kernel
theorem dX5_book_7 : decode cX5_book 7 = .ok (.iload_n 2, 1) := by decide +kernel
theorem dX5_book_8 : decode cX5_book 8 = .ok (.bipush 60, 2) := by decide +kernel
theorem dX5_book_10 : decode cX5_book 10 = .ok (.sipush 180, 3) := by decide +kernel
theorem dX5_book_13 : decode cX5_book 13 = .ok (.invokestatic 54, 3) := by decide +kernel
theorem dX5_book_16 : decode cX5_book 16 = .ok (.iload_n 3, 1) := by decide +kernel
theorem dX5_book_17 : decode cX5_book 17 = .ok (.iconst 1, 1) := by decide +kernel
theorem dX5_book_18 : decode cX5_book 18 = .ok (.bipush 60, 2) := by decide +kernel
theorem dX5_book_20 : decode cX5_book 20 = .ok (.invokestatic 54, 3) := by decide +kernel
theorem dX5_book_23 : decode cX5_book 23 = .ok (.iload 4, 2) := by decide +kernel
theorem dX5_book_25 : decode cX5_book 25 = .ok (.iconst 0, 1) := by decide +kernel
theorem dX5_book_26 : decode cX5_book 26 = .ok (.bipush 9, 2) := by decide +kernel
theorem dX5_book_28 : decode cX5_book 28 = .ok (.invokestatic 54, 3) := by decide +kernel
theorem dX5_book_31 : decode cX5_book 31 = .ok (.iload 5, 2) := by decide +kernel
theorem dX5_book_33 : decode cX5_book 33 = .ok (.iconst (-1), 1) := by decide +kernel
theorem dX5_book_34 : decode cX5_book 34 = .ok (.if_icmp .eq 14, 3) := by decide +kernel
theorem dX5_book_37 : decode cX5_book 37 = .ok (.iload 5, 2) := by decide +kernel
theorem dX5_book_39 : decode cX5_book 39 = .ok (.sipush 1500, 3) := by decide +kernel
theorem dX5_book_42 : decode cX5_book 42 = .ok (.sipush 3000, 3) := by decide +kernel
theorem dX5_book_45 : decode cX5_book 45 = .ok (.invokestatic 54, 3) := by decide +kernel
theorem dX5_book_48 : decode cX5_book 48 = .ok (.aload_n 0, 1) := by decide +kernel
theorem dX5_book_49 : decode cX5_book 49 = .ok (.getfield 58, 3) := by decide +kernel
theorem dX5_book_52 : decode cX5_book 52 = .ok (.istore 6, 2) := by decide +kernel
theorem dX5_book_54 : decode cX5_book 54 = .ok (.iload 6, 2) := by decide +kernel
theorem dX5_book_56 : decode cX5_book 56 = .ok (.ifCond .lt 10, 3) := by decide +kernel
theorem dX5_book_59 : decode cX5_book 59 = .ok (.iload 6, 2) := by decide +kernel
theorem dX5_book_61 : decode cX5_book 61 = .ok (.bipush 6, 2) := by decide +kernel
theorem dX5_book_63 : decode cX5_book 63 = .ok (.if_icmp .lt 13, 3) := by decide +kernel
theorem dX5_book_66 : decode cX5_book 66 = .ok (.new 61, 3) := by decide +kernel
theorem dX5_book_69 : decode cX5_book 69 = .ok (.dup, 1) := by decide +kernel
theorem dX5_book_70 : decode cX5_book 70 = .ok (.ldc 63, 2) := by decide +kernel
theorem dX5_book_72 : decode cX5_book 72 = .ok (.invokespecial 65, 3) := by decide +kernel
theorem dX5_book_75 : decode cX5_book 75 = .ok (.athrow, 1) := by decide +kernel
theorem dX5_book_76 : decode cX5_book 76 = .ok (.aload_n 0, 1) := by decide +kernel
theorem dX5_book_77 : decode cX5_book 77 = .ok (.getfield 11, 3) := by decide +kernel
theorem dX5_book_80 : decode cX5_book 80 = .ok (.iload 6, 2) := by decide +kernel
theorem dX5_book_82 : decode cX5_book 82 = .ok (.new 9, 3) := by decide +kernel
theorem dX5_book_85 : decode cX5_book 85 = .ok (.dup, 1) := by decide +kernel
theorem dX5_book_86 : decode cX5_book 86 = .ok (.iload_n 1, 1) := by decide +kernel
theorem dX5_book_87 : decode cX5_book 87 = .ok (.iload_n 2, 1) := by decide +kernel
theorem dX5_book_88 : decode cX5_book 88 = .ok (.iload_n 3, 1) := by decide +kernel
theorem dX5_book_89 : decode cX5_book 89 = .ok (.iload 4, 2) := by decide +kernel
theorem dX5_book_91 : decode cX5_book 91 = .ok (.iload 5, 2) := by decide +kernel
theorem dX5_book_93 : decode cX5_book 93 = .ok (.invokespecial 68, 3) := by decide +kernel
theorem dX5_book_96 : decode cX5_book 96 = .ok (.aastore, 1) := by decide +kernel
theorem dX5_book_97 : decode cX5_book 97 = .ok (.aload_n 0, 1) := by decide +kernel
theorem dX5_book_98 : decode cX5_book 98 = .ok (.iload 6, 2) := by decide +kernel
theorem dX5_book_100 : decode cX5_book 100 = .ok (.iconst 1, 1) := by decide +kernel
theorem dX5_book_101 : decode cX5_book 101 = .ok (.iadd, 1) := by decide +kernel
theorem dX5_book_102 : decode cX5_book 102 = .ok (.putfield 58, 3) := by decide +kernel
theorem dX5_book_105 : decode cX5_book 105 = .ok (.iload 6, 2) := by decide +kernel
theorem dX5_book_107 : decode cX5_book 107 = .ok (.ireturn, 1) := by decide +kernel
theorem dX5_next_0 : decode cX5_next 0 = .ok (.iconst (-1), 1) := by decide +kernel
theorem dX5_next_1 : decode cX5_next 1 = .ok (.istore_n 1, 1) := by decide +kernel
theorem dX5_next_2 : decode cX5_next 2 = .ok (.aconst_null, 1) := by decide +kernel
theorem dX5_next_3 : decode cX5_next 3 = .ok (.astore_n 2, 1) := by decide +kernel
theorem dX5_next_4 : decode cX5_next 4 = .ok (.iconst 0, 1) := by decide +kernel
theorem dX5_next_5 : decode cX5_next 5 = .ok (.istore_n 3, 1) := by decide +kernel
theorem dX5_next_6 : decode cX5_next 6 = .ok (.iload_n 3, 1) := by decide +kernel
theorem dX5_next_7 : decode cX5_next 7 = .ok (.bipush 6, 2) := by decide +kernel
theorem dX5_next_9 : decode cX5_next 9 = .ok (.if_icmp .ge 48, 3) := by decide +kernel
theorem dX5_next_12 : decode cX5_next 12 = .ok (.aload_n 0, 1) := by decide +kernel
theorem dX5_next_13 : decode cX5_next 13 = .ok (.getfield 11, 3) := by decide +kernel
theorem dX5_next_16 : decode cX5_next 16 = .ok (.iload_n 3, 1) := by decide +kernel
theorem dX5_next_17 : decode cX5_next 17 = .ok (.aaload, 1) := by decide +kernel
theorem dX5_next_18 : decode cX5_next 18 = .ok (.astore 4, 2) := by decide +kernel
theorem dX5_next_20 : decode cX5_next 20 = .ok (.aload 4, 2) := by decide +kernel
theorem dX5_next_22 : decode cX5_next 22 = .ok (.ifnull 29, 3) := by decide +kernel
theorem dX5_next_25 : decode cX5_next 25 = .ok (.aload 4, 2) := by decide +kernel
theorem dX5_next_27 : decode cX5_next 27 = .ok (.invokevirtual 71, 3) := by decide +kernel
theorem dX5_next_30 : decode cX5_next 30 = .ok (.ifCond .eq 21, 3) := by decide +kernel
theorem dX5_next_33 : decode cX5_next 33 = .ok (.aload_n 2, 1) := by decide +kernel
theorem dX5_next_34 : decode cX5_next 34 = .ok (.ifnull 12, 3) := by decide +kernel
theorem dX5_next_37 : decode cX5_next 37 = .ok (.aload 4, 2) := by decide +kernel
theorem dX5_next_39 : decode cX5_next 39 = .ok (.aload_n 2, 1) := by decide +kernel
theorem dX5_next_40 : decode cX5_next 40 = .ok (.invokevirtual 75, 3) := by decide +kernel
theorem dX5_next_43 : decode cX5_next 43 = .ok (.ifCond .eq 8, 3) := by decide +kernel
theorem dX5_next_46 : decode cX5_next 46 = .ok (.iload_n 3, 1) := by decide +kernel
theorem dX5_next_47 : decode cX5_next 47 = .ok (.istore_n 1, 1) := by decide +kernel
theorem dX5_next_48 : decode cX5_next 48 = .ok (.aload 4, 2) := by decide +kernel
theorem dX5_next_50 : decode cX5_next 50 = .ok (.astore_n 2, 1) := by decide +kernel
theorem dX5_next_51 : decode cX5_next 51 = .ok (.iinc 3 1, 3) := by decide +kernel
theorem dX5_next_54 : decode cX5_next 54 = .ok (.goto (-48), 3) := by decide +kernel
theorem dX5_next_57 : decode cX5_next 57 = .ok (.iload_n 1, 1) := by decide +kernel
theorem dX5_next_58 : decode cX5_next 58 = .ok (.ireturn, 1) := by decide +kernel
theorem dX5_shot_0 : decode cX5_shot 0 = .ok (.aload_n 0, 1) := by decide +kernel
theorem dX5_shot_1 : decode cX5_shot 1 = .ok (.iload_n 1, 1) := by decide +kernel
theorem dX5_shot_2 : decode cX5_shot 2 = .ok (.invokevirtual 79, 3) := by decide +kernel
theorem dX5_shot_5 : decode cX5_shot 5 = .ok (.astore 6, 2) := by decide +kernel
theorem dX5_shot_7 : decode cX5_shot 7 = .ok (.aload 6, 2) := by decide +kernel
theorem dX5_shot_9 : decode cX5_shot 9 = .ok (.iload_n 2, 1) := by decide +kernel
theorem dX5_shot_10 : decode cX5_shot 10 = .ok (.invokestatic 83, 3) := by decide +kernel
theorem dX5_shot_13 : decode cX5_shot 13 = .ok (.astore 7, 2) := by decide +kernel
theorem dX5_shot_15 : decode cX5_shot 15 = .ok (.iload_n 3, 1) := by decide +kernel
theorem dX5_shot_16 : decode cX5_shot 16 = .ok (.bipush 30, 2) := by decide +kernel
theorem dX5_shot_18 : decode cX5_shot 18 = .ok (.sipush 180, 3) := by decide +kernel
theorem dX5_shot_21 : decode cX5_shot 21 = .ok (.invokestatic 54, 3) := by decide +kernel
theorem dX5_shot_24 : decode cX5_shot 24 = .ok (.iload_n 3, 1) := by decide +kernel
theorem dX5_shot_25 : decode cX5_shot 25 = .ok (.bipush 90, 2) := by decide +kernel
theorem dX5_shot_27 : decode cX5_shot 27 = .ok (.if_icmp .le 7, 3) := by decide +kernel
theorem dX5_shot_30 : decode cX5_shot 30 = .ok (.iconst 2, 1) := by decide +kernel
theorem dX5_shot_31 : decode cX5_shot 31 = .ok (.goto 4, 3) := by decide +kernel
theorem dX5_shot_34 : decode cX5_shot 34 = .ok (.iconst 1, 1) := by decide +kernel
theorem dX5_shot_35 : decode cX5_shot 35 = .ok (.istore 8, 2) := by decide +kernel
theorem dX5_shot_37 : decode cX5_shot 37 = .ok (.iload_n 3, 1) := by decide +kernel
theorem dX5_shot_38 : decode cX5_shot 38 = .ok (.aload 6, 2) := by decide +kernel
theorem dX5_shot_40 : decode cX5_shot 40 = .ok (.getfield 87, 3) := by decide +kernel
theorem dX5_shot_43 : decode cX5_shot 43 = .ok (.if_icmp .le 13, 3) := by decide +kernel
theorem dX5_shot_46 : decode cX5_shot 46 = .ok (.new 61, 3) := by decide +kernel
theorem dX5_shot_49 : decode cX5_shot 49 = .ok (.dup, 1) := by decide +kernel
theorem dX5_shot_50 : decode cX5_shot 50 = .ok (.ldc 90, 2) := by decide +kernel
theorem dX5_shot_52 : decode cX5_shot 52 = .ok (.invokespecial 65, 3) := by decide +kernel
theorem dX5_shot_55 : decode cX5_shot 55 = .ok (.athrow, 1) := by decide +kernel
theorem dX5_shot_56 : decode cX5_shot 56 = .ok (.aload 6, 2) := by decide +kernel
theorem dX5_shot_58 : decode cX5_shot 58 = .ok (.getfield 92, 3) := by decide +kernel
theorem dX5_shot_61 : decode cX5_shot 61 = .ok (.iload 8, 2) := by decide +kernel
theorem dX5_shot_63 : decode cX5_shot 63 = .ok (.if_icmp .ge 13, 3) := by decide +kernel
theorem dX5_shot_66 : decode cX5_shot 66 = .ok (.new 61, 3) := by decide +kernel
theorem dX5_shot_69 : decode cX5_shot 69 = .ok (.dup, 1) := by decide +kernel
theorem dX5_shot_70 : decode cX5_shot 70 = .ok (.ldc 95, 2) := by decide +kernel
theorem dX5_shot_72 : decode cX5_shot 72 = .ok (.invokespecial 65, 3) := by decide +kernel
theorem dX5_shot_75 : decode cX5_shot 75 = .ok (.athrow, 1) := by decide +kernel
theorem dX5_shot_76 : decode cX5_shot 76 = .ok (.aload 7, 2) := by decide +kernel
theorem dX5_shot_78 : decode cX5_shot 78 = .ok (.getfield 97, 3) := by decide +kernel
theorem dX5_shot_81 : decode cX5_shot 81 = .ok (.ifCond .eq 21, 3) := by decide +kernel
theorem dX5_shot_84 : decode cX5_shot 84 = .ok (.aload 7, 2) := by decide +kernel
theorem dX5_shot_86 : decode cX5_shot 86 = .ok (.getfield 103, 3) := by decide +kernel
theorem dX5_shot_89 : decode cX5_shot 89 = .ok (.ifCond .ne 13, 3) := by decide +kernel
theorem dX5_shot_92 : decode cX5_shot 92 = .ok (.new 61, 3) := by decide +kernel
theorem dX5_shot_95 : decode cX5_shot 95 = .ok (.dup, 1) := by decide +kernel
theorem dX5_shot_96 : decode cX5_shot 96 = .ok (.ldc 106, 2) := by decide +kernel
theorem dX5_shot_98 : decode cX5_shot 98 = .ok (.invokespecial 65, 3) := by decide +kernel
theorem dX5_shot_101 : decode cX5_shot 101 = .ok (.athrow, 1) := by decide +kernel
theorem dX5_shot_102 : decode cX5_shot 102 = .ok (.aload 6, 2) := by decide +kernel
theorem dX5_shot_104 : decode cX5_shot 104 = .ok (.dup, 1) := by decide +kernel
theorem dX5_shot_105 : decode cX5_shot 105 = .ok (.getfield 92, 3) := by decide +kernel
theorem dX5_shot_108 : decode cX5_shot 108 = .ok (.iload 8, 2) := by decide +kernel
theorem dX5_shot_110 : decode cX5_shot 110 = .ok (.isub, 1) := by decide +kernel
theorem dX5_shot_111 : decode cX5_shot 111 = .ok (.putfield 92, 3) := by decide +kernel
theorem dX5_shot_114 : decode cX5_shot 114 = .ok (.aload 6, 2) := by decide +kernel
theorem dX5_shot_116 : decode cX5_shot 116 = .ok (.dup, 1) := by decide +kernel
theorem dX5_shot_117 : decode cX5_shot 117 = .ok (.getfield 108, 3) := by decide +kernel
theorem dX5_shot_120 : decode cX5_shot 120 = .ok (.iconst 1, 1) := by decide +kernel
theorem dX5_shot_121 : decode cX5_shot 121 = .ok (.iadd, 1) := by decide +kernel
theorem dX5_shot_122 : decode cX5_shot 122 = .ok (.putfield 108, 3) := by decide +kernel
theorem dX5_shot_125 : decode cX5_shot 125 = .ok (.aload 7, 2) := by decide +kernel
theorem dX5_shot_127 : decode cX5_shot 127 = .ok (.lload 4, 2) := by decide +kernel
theorem dX5_shot_129 : decode cX5_shot 129 = .ok (.aload_n 0, 1) := by decide +kernel
theorem dX5_shot_130 : decode cX5_shot 130 = .ok (.getfield 111, 3) := by decide +kernel
theorem dX5_shot_133 : decode cX5_shot 133 = .ok (.iconst 5, 1) := by decide +kernel
theorem dX5_shot_134 : decode cX5_shot 134 = .ok (.if_icmp .le 7, 3) := by decide +kernel
theorem dX5_shot_137 : decode cX5_shot 137 = .ok (.iconst 1, 1) := by decide +kernel
theorem dX5_shot_138 : decode cX5_shot 138 = .ok (.goto 4, 3) := by decide +kernel
theorem dX5_shot_141 : decode cX5_shot 141 = .ok (.iconst 0, 1) := by decide +kernel
theorem dX5_shot_142 : decode cX5_shot 142 = .ok (.invokevirtual 114, 3) := by decide +kernel
theorem dX5_shot_145 : decode cX5_shot 145 = .ok (.aload_n 0, 1) := by decide +kernel
theorem dX5_shot_146 : decode cX5_shot 146 = .ok (.dup, 1) := by decide +kernel
theorem dX5_shot_147 : decode cX5_shot 147 = .ok (.getfield 111, 3) := by decide +kernel
theorem dX5_shot_150 : decode cX5_shot 150 = .ok (.iconst 1, 1) := by decide +kernel
theorem dX5_shot_151 : decode cX5_shot 151 = .ok (.iadd, 1) := by decide +kernel
theorem dX5_shot_152 : decode cX5_shot 152 = .ok (.putfield 111, 3) := by decide +kernel
theorem dX5_shot_155 : decode cX5_shot 155 = .ok (.iconst 0, 1) := by decide +kernel
theorem dX5_shot_156 : decode cX5_shot 156 = .ok (.istore 9, 2) := by decide +kernel
theorem dX5_shot_158 : decode cX5_shot 158 = .ok (.iload 9, 2) := by decide +kernel
theorem dX5_shot_160 : decode cX5_shot 160 = .ok (.iconst 4, 1) := by decide +kernel
theorem dX5_shot_161 : decode cX5_shot 161 = .ok (.if_icmp .ge 28, 3) := by decide +kernel
theorem dX5_shot_164 : decode cX5_shot 164 = .ok (.aload_n 0, 1) := by decide +kernel
theorem dX5_shot_165 : decode cX5_shot 165 = .ok (.getfield 15, 3) := by decide +kernel
theorem dX5_shot_168 : decode cX5_shot 168 = .ok (.iload 9, 2) := by decide +kernel
theorem dX5_shot_170 : decode cX5_shot 170 = .ok (.baload, 1) := by decide +kernel
theorem dX5_shot_171 : decode cX5_shot 171 = .ok (.ifCond .ne 12, 3) := by decide +kernel
theorem dX5_shot_174 : decode cX5_shot 174 = .ok (.aload 7, 2) := by decide +kernel
theorem dX5_shot_176 : decode cX5_shot 176 = .ok (.iload 9, 2) := by decide +kernel
theorem dX5_shot_178 : decode cX5_shot 178 = .ok (.lload 4, 2) := by decide +kernel
theorem dX5_shot_180 : decode cX5_shot 180 = .ok (.invokevirtual 118, 3) := by decide +kernel
theorem dX5_shot_183 : decode cX5_shot 183 = .ok (.iinc 9 1, 3) := by decide +kernel
theorem dX5_shot_186 : decode cX5_shot 186 = .ok (.goto (-28), 3) := by decide +kernel
theorem dX5_shot_189 : decode cX5_shot 189 = .ok (.aload 6, 2) := by decide +kernel
theorem dX5_shot_191 : decode cX5_shot 191 = .ok (.getfield 92, 3) := by decide +kernel
theorem dX5_shot_194 : decode cX5_shot 194 = .ok (.ireturn, 1) := by decide +kernel
theorem dX5_look_0 : decode cX5_look 0 = .ok (.aload_n 0, 1) := by decide +kernel
theorem dX5_look_1 : decode cX5_look 1 = .ok (.iload_n 1, 1) := by decide +kernel
theorem dX5_look_2 : decode cX5_look 2 = .ok (.invokevirtual 79, 3) := by decide +kernel
theorem dX5_look_5 : decode cX5_look 5 = .ok (.iload_n 2, 1) := by decide +kernel
theorem dX5_look_6 : decode cX5_look 6 = .ok (.invokestatic 83, 3) := by decide +kernel
theorem dX5_look_9 : decode cX5_look 9 = .ok (.astore_n 3, 1) := by decide +kernel
theorem dX5_look_10 : decode cX5_look 10 = .ok (.aload_n 3, 1) := by decide +kernel
theorem dX5_look_11 : decode cX5_look 11 = .ok (.getfield 97, 3) := by decide +kernel
theorem dX5_look_14 : decode cX5_look 14 = .ok (.ifCond .ne 13, 3) := by decide +kernel
theorem dX5_look_17 : decode cX5_look 17 = .ok (.new 61, 3) := by decide +kernel
theorem dX5_look_20 : decode cX5_look 20 = .ok (.dup, 1) := by decide +kernel
theorem dX5_look_21 : decode cX5_look 21 = .ok (.ldc 122, 2) := by decide +kernel
theorem dX5_look_23 : decode cX5_look 23 = .ok (.invokespecial 65, 3) := by decide +kernel
theorem dX5_look_26 : decode cX5_look 26 = .ok (.athrow, 1) := by decide +kernel
theorem dX5_look_27 : decode cX5_look 27 = .ok (.aload_n 3, 1) := by decide +kernel
theorem dX5_look_28 : decode cX5_look 28 = .ok (.getfield 124, 3) := by decide +kernel
theorem dX5_look_31 : decode cX5_look 31 = .ok (.ifCond .eq 8, 3) := by decide +kernel
theorem dX5_look_34 : decode cX5_look 34 = .ok (.aload_n 3, 1) := by decide +kernel
theorem dX5_look_35 : decode cX5_look 35 = .ok (.iconst 1, 1) := by decide +kernel
theorem dX5_look_36 : decode cX5_look 36 = .ok (.putfield 103, 3) := by decide +kernel
theorem dX5_look_39 : decode cX5_look 39 = .ok (.aload_n 3, 1) := by decide +kernel
theorem dX5_look_40 : decode cX5_look 40 = .ok (.getfield 124, 3) := by decide +kernel
theorem dX5_look_43 : decode cX5_look 43 = .ok (.ireturn, 1) := by decide +kernel
theorem dX5_calibrate_0 : decode cX5_calibrate 0 = .ok (.aload_n 0, 1) := by decide +kernel
theorem dX5_calibrate_1 : decode cX5_calibrate 1 = .ok (.getfield 111, 3) := by decide +kernel
theorem dX5_calibrate_4 : decode cX5_calibrate 4 = .ok (.istore_n 1, 1) := by decide +kernel
theorem dX5_calibrate_5 : decode cX5_calibrate 5 = .ok (.aload_n 0, 1) := by decide +kernel
theorem dX5_calibrate_6 : decode cX5_calibrate 6 = .ok (.iconst 0, 1) := by decide +kernel
theorem dX5_calibrate_7 : decode cX5_calibrate 7 = .ok (.putfield 111, 3) := by decide +kernel
theorem dX5_calibrate_10 : decode cX5_calibrate 10 = .ok (.iload_n 1, 1) := by decide +kernel
theorem dX5_calibrate_11 : decode cX5_calibrate 11 = .ok (.ireturn, 1) := by decide +kernel
theorem dX5_rot_0 : decode cX5_rot 0 = .ok (.iload_n 1, 1) := by decide +kernel
theorem dX5_rot_1 : decode cX5_rot 1 = .ok (.invokestatic 127, 3) := by decide +kernel
theorem dX5_rot_4 : decode cX5_rot 4 = .ok (.aload_n 0, 1) := by decide +kernel
theorem dX5_rot_5 : decode cX5_rot 5 = .ok (.iload_n 2, 1) := by decide +kernel
theorem dX5_rot_6 : decode cX5_rot 6 = .ok (.invokevirtual 79, 3) := by decide +kernel
theorem dX5_rot_9 : decode cX5_rot 9 = .ok (.iload_n 3, 1) := by decide +kernel
theorem dX5_rot_10 : decode cX5_rot 10 = .ok (.invokestatic 83, 3) := by decide +kernel
theorem dX5_rot_13 : decode cX5_rot 13 = .ok (.astore 5, 2) := by decide +kernel
theorem dX5_rot_15 : decode cX5_rot 15 = .ok (.iload 4, 2) := by decide +kernel
theorem dX5_rot_17 : decode cX5_rot 17 = .ok (.iconst 0, 1) := by decide +kernel
theorem dX5_rot_18 : decode cX5_rot 18 = .ok (.bipush 63, 2) := by decide +kernel
theorem dX5_rot_20 : decode cX5_rot 20 = .ok (.invokestatic 54, 3) := by decide +kernel
theorem dX5_rot_23 : decode cX5_rot 23 = .ok (.aload 5, 2) := by decide +kernel
theorem dX5_rot_25 : decode cX5_rot 25 = .ok (.iload_n 1, 1) := by decide +kernel
theorem dX5_rot_26 : decode cX5_rot 26 = .ok (.invokestatic 131, 3) := by decide +kernel
theorem dX5_rot_29 : decode cX5_rot 29 = .ok (.aload 5, 2) := by decide +kernel
theorem dX5_rot_31 : decode cX5_rot 31 = .ok (.iload_n 1, 1) := by decide +kernel
theorem dX5_rot_32 : decode cX5_rot 32 = .ok (.iload 4, 2) := by decide +kernel
theorem dX5_rot_34 : decode cX5_rot 34 = .ok (.invokevirtual 135, 3) := by decide +kernel
theorem dX5_rot_37 : decode cX5_rot 37 = .ok (.aload 5, 2) := by decide +kernel
theorem dX5_rot_39 : decode cX5_rot 39 = .ok (.iload_n 1, 1) := by decide +kernel
theorem dX5_rot_40 : decode cX5_rot 40 = .ok (.invokevirtual 139, 3) := by decide +kernel
theorem dX5_rot_43 : decode cX5_rot 43 = .ok (.ireturn, 1) := by decide +kernel
theorem dX5_burn_0 : decode cX5_burn 0 = .ok (.aload_n 0, 1) := by decide +kernel
theorem dX5_burn_1 : decode cX5_burn 1 = .ok (.iload_n 1, 1) := by decide +kernel
theorem dX5_burn_2 : decode cX5_burn 2 = .ok (.invokevirtual 143, 3) := by decide +kernel
theorem dX5_burn_5 : decode cX5_burn 5 = .ok (.iconst 0, 1) := by decide +kernel
theorem dX5_burn_6 : decode cX5_burn 6 = .ok (.istore_n 2, 1) := by decide +kernel
theorem dX5_burn_7 : decode cX5_burn 7 = .ok (.aload_n 0, 1) := by decide +kernel
theorem dX5_burn_8 : decode cX5_burn 8 = .ok (.getfield 11, 3) := by decide +kernel
theorem dX5_burn_11 : decode cX5_burn 11 = .ok (.astore_n 3, 1) := by decide +kernel
theorem dX5_burn_12 : decode cX5_burn 12 = .ok (.aload_n 3, 1) := by decide +kernel
theorem dX5_burn_13 : decode cX5_burn 13 = .ok (.arraylength, 1) := by decide +kernel
theorem dX5_burn_14 : decode cX5_burn 14 = .ok (.istore 4, 2) := by decide +kernel
theorem dX5_burn_16 : decode cX5_burn 16 = .ok (.iconst 0, 1) := by decide +kernel
theorem dX5_burn_17 : decode cX5_burn 17 = .ok (.istore 5, 2) := by decide +kernel
theorem dX5_burn_19 : decode cX5_burn 19 = .ok (.iload 5, 2) := by decide +kernel
theorem dX5_burn_21 : decode cX5_burn 21 = .ok (.iload 4, 2) := by decide +kernel
theorem dX5_burn_23 : decode cX5_burn 23 = .ok (.if_icmp .ge 29, 3) := by decide +kernel
theorem dX5_burn_26 : decode cX5_burn 26 = .ok (.aload_n 3, 1) := by decide +kernel
theorem dX5_burn_27 : decode cX5_burn 27 = .ok (.iload 5, 2) := by decide +kernel
theorem dX5_burn_29 : decode cX5_burn 29 = .ok (.aaload, 1) := by decide +kernel
theorem dX5_burn_30 : decode cX5_burn 30 = .ok (.astore 6, 2) := by decide +kernel
theorem dX5_burn_32 : decode cX5_burn 32 = .ok (.aload 6, 2) := by decide +kernel
theorem dX5_burn_34 : decode cX5_burn 34 = .ok (.ifnull 12, 3) := by decide +kernel
theorem dX5_burn_37 : decode cX5_burn 37 = .ok (.iload_n 2, 1) := by decide +kernel
theorem dX5_burn_38 : decode cX5_burn 38 = .ok (.aload 6, 2) := by decide +kernel
theorem dX5_burn_40 : decode cX5_burn 40 = .ok (.iload_n 1, 1) := by decide +kernel
theorem dX5_burn_41 : decode cX5_burn 41 = .ok (.invokevirtual 146, 3) := by decide +kernel
theorem dX5_burn_44 : decode cX5_burn 44 = .ok (.iadd, 1) := by decide +kernel
theorem dX5_burn_45 : decode cX5_burn 45 = .ok (.istore_n 2, 1) := by decide +kernel
theorem dX5_burn_46 : decode cX5_burn 46 = .ok (.iinc 5 1, 3) := by decide +kernel
theorem dX5_burn_49 : decode cX5_burn 49 = .ok (.goto (-30), 3) := by decide +kernel
theorem dX5_burn_52 : decode cX5_burn 52 = .ok (.aload_n 0, 1) := by decide +kernel
theorem dX5_burn_53 : decode cX5_burn 53 = .ok (.getfield 15, 3) := by decide +kernel
theorem dX5_burn_56 : decode cX5_burn 56 = .ok (.iload_n 1, 1) := by decide +kernel
theorem dX5_burn_57 : decode cX5_burn 57 = .ok (.iconst 1, 1) := by decide +kernel
theorem dX5_burn_58 : decode cX5_burn 58 = .ok (.bastore, 1) := by decide +kernel
theorem dX5_burn_59 : decode cX5_burn 59 = .ok (.iload_n 2, 1) := by decide +kernel
theorem dX5_burn_60 : decode cX5_burn 60 = .ok (.ireturn, 1) := by decide +kernel
theorem dX5_build_0 : decode cX5_build 0 = .ok (.iload_n 1, 1) := by decide +kernel
theorem dX5_build_1 : decode cX5_build 1 = .ok (.invokestatic 127, 3) := by decide +kernel
theorem dX5_build_4 : decode cX5_build 4 = .ok (.aload_n 0, 1) := by decide +kernel
theorem dX5_build_5 : decode cX5_build 5 = .ok (.getfield 15, 3) := by decide +kernel
theorem dX5_build_8 : decode cX5_build 8 = .ok (.iload_n 1, 1) := by decide +kernel
theorem dX5_build_9 : decode cX5_build 9 = .ok (.baload, 1) := by decide +kernel
theorem dX5_build_10 : decode cX5_build 10 = .ok (.ifCond .ne 13, 3) := by decide +kernel
theorem dX5_build_13 : decode cX5_build 13 = .ok (.new 61, 3) := by decide +kernel
theorem dX5_build_16 : decode cX5_build 16 = .ok (.dup, 1) := by decide +kernel
theorem dX5_build_17 : decode cX5_build 17 = .ok (.ldc 150, 2) := by decide +kernel
theorem dX5_build_19 : decode cX5_build 19 = .ok (.invokespecial 65, 3) := by decide +kernel
theorem dX5_build_22 : decode cX5_build 22 = .ok (.athrow, 1) := by decide +kernel
theorem dX5_build_23 : decode cX5_build 23 = .ok (.aload_n 0, 1) := by decide +kernel
theorem dX5_build_24 : decode cX5_build 24 = .ok (.getfield 15, 3) := by decide +kernel
theorem dX5_build_27 : decode cX5_build 27 = .ok (.iload_n 1, 1) := by decide +kernel
theorem dX5_build_28 : decode cX5_build 28 = .ok (.iconst 0, 1) := by decide +kernel
theorem dX5_build_29 : decode cX5_build 29 = .ok (.bastore, 1) := by decide +kernel
theorem dX5_build_30 : decode cX5_build 30 = .ok (.return_, 1) := by decide +kernel
theorem dX5_check_0 : decode cX5_check 0 = .ok (.iload_n 1, 1) := by decide +kernel
theorem dX5_check_1 : decode cX5_check 1 = .ok (.invokestatic 127, 3) := by decide +kernel
theorem dX5_check_4 : decode cX5_check 4 = .ok (.aload_n 0, 1) := by decide +kernel
theorem dX5_check_5 : decode cX5_check 5 = .ok (.iload_n 2, 1) := by decide +kernel
theorem dX5_check_6 : decode cX5_check 6 = .ok (.invokevirtual 79, 3) := by decide +kernel
theorem dX5_check_9 : decode cX5_check 9 = .ok (.astore_n 3, 1) := by decide +kernel
theorem dX5_check_10 : decode cX5_check 10 = .ok (.aload_n 0, 1) := by decide +kernel
theorem dX5_check_11 : decode cX5_check 11 = .ok (.getfield 22, 3) := by decide +kernel
theorem dX5_check_14 : decode cX5_check 14 = .ok (.aload_n 3, 1) := by decide +kernel
theorem dX5_check_15 : decode cX5_check 15 = .ok (.getfield 152, 3) := by decide +kernel
theorem dX5_check_18 : decode cX5_check 18 = .ok (.iload_n 1, 1) := by decide +kernel
theorem dX5_check_19 : decode cX5_check 19 = .ok (.invokevirtual 156, 3) := by decide +kernel
theorem dX5_check_22 : decode cX5_check 22 = .ok (.aload_n 0, 1) := by decide +kernel
theorem dX5_check_23 : decode cX5_check 23 = .ok (.getfield 22, 3) := by decide +kernel
theorem dX5_check_26 : decode cX5_check 26 = .ok (.invokevirtual 160, 3) := by decide +kernel
theorem dX5_check_29 : decode cX5_check 29 = .ok (.ireturn, 1) := by decide +kernel
theorem dX5_looked_0 : decode cX5_looked 0 = .ok (.aload_n 0, 1) := by decide +kernel
theorem dX5_looked_1 : decode cX5_looked 1 = .ok (.getfield 22, 3) := by decide +kernel
theorem dX5_looked_4 : decode cX5_looked 4 = .ok (.getfield 164, 3) := by decide +kernel
theorem dX5_looked_7 : decode cX5_looked 7 = .ok (.ireturn, 1) := by decide +kernel
theorem dX5_mend_0 : decode cX5_mend 0 = .ok (.aload_n 0, 1) := by decide +kernel
theorem dX5_mend_1 : decode cX5_mend 1 = .ok (.iload_n 2, 1) := by decide +kernel
theorem dX5_mend_2 : decode cX5_mend 2 = .ok (.invokevirtual 79, 3) := by decide +kernel
theorem dX5_mend_5 : decode cX5_mend 5 = .ok (.astore_n 3, 1) := by decide +kernel
theorem dX5_mend_6 : decode cX5_mend 6 = .ok (.aload_n 0, 1) := by decide +kernel
theorem dX5_mend_7 : decode cX5_mend 7 = .ok (.iload_n 1, 1) := by decide +kernel
theorem dX5_mend_8 : decode cX5_mend 8 = .ok (.invokevirtual 143, 3) := by decide +kernel
theorem dX5_mend_11 : decode cX5_mend 11 = .ok (.iconst 0, 1) := by decide +kernel
theorem dX5_mend_12 : decode cX5_mend 12 = .ok (.istore 4, 2) := by decide +kernel
theorem dX5_mend_14 : decode cX5_mend 14 = .ok (.aload_n 3, 1) := by decide +kernel
theorem dX5_mend_15 : decode cX5_mend 15 = .ok (.getfield 152, 3) := by decide +kernel
theorem dX5_mend_18 : decode cX5_mend 18 = .ok (.astore 5, 2) := by decide +kernel
theorem dX5_mend_20 : decode cX5_mend 20 = .ok (.aload 5, 2) := by decide +kernel
theorem dX5_mend_22 : decode cX5_mend 22 = .ok (.arraylength, 1) := by decide +kernel
theorem dX5_mend_23 : decode cX5_mend 23 = .ok (.istore 6, 2) := by decide +kernel
theorem dX5_mend_25 : decode cX5_mend 25 = .ok (.iconst 0, 1) := by decide +kernel
theorem dX5_mend_26 : decode cX5_mend 26 = .ok (.istore 7, 2) := by decide +kernel
theorem dX5_mend_28 : decode cX5_mend 28 = .ok (.iload 7, 2) := by decide +kernel
theorem dX5_mend_30 : decode cX5_mend 30 = .ok (.iload 6, 2) := by decide +kernel
theorem dX5_mend_32 : decode cX5_mend 32 = .ok (.if_icmp .ge 28, 3) := by decide +kernel
theorem dX5_mend_35 : decode cX5_mend 35 = .ok (.aload 5, 2) := by decide +kernel
theorem dX5_mend_37 : decode cX5_mend 37 = .ok (.iload 7, 2) := by decide +kernel
theorem dX5_mend_39 : decode cX5_mend 39 = .ok (.aaload, 1) := by decide +kernel
theorem dX5_mend_40 : decode cX5_mend 40 = .ok (.astore 8, 2) := by decide +kernel
theorem dX5_mend_42 : decode cX5_mend 42 = .ok (.aload 8, 2) := by decide +kernel
theorem dX5_mend_44 : decode cX5_mend 44 = .ok (.iload_n 1, 1) := by decide +kernel
theorem dX5_mend_45 : decode cX5_mend 45 = .ok (.invokevirtual 167, 3) := by decide +kernel
theorem dX5_mend_48 : decode cX5_mend 48 = .ok (.ifCond .eq 6, 3) := by decide +kernel
theorem dX5_mend_51 : decode cX5_mend 51 = .ok (.iinc 4 1, 3) := by decide +kernel
theorem dX5_mend_54 : decode cX5_mend 54 = .ok (.iinc 7 1, 3) := by decide +kernel
theorem dX5_mend_57 : decode cX5_mend 57 = .ok (.goto (-29), 3) := by decide +kernel
theorem dX5_mend_60 : decode cX5_mend 60 = .ok (.iload 4, 2) := by decide +kernel
theorem dX5_mend_62 : decode cX5_mend 62 = .ok (.ireturn, 1) := by decide +kernel
theorem dX5_copy_0 : decode cX5_copy 0 = .ok (.iload_n 1, 1) := by decide +kernel
theorem dX5_copy_1 : decode cX5_copy 1 = .ok (.invokestatic 127, 3) := by decide +kernel
theorem dX5_copy_4 : decode cX5_copy 4 = .ok (.aload_n 0, 1) := by decide +kernel
theorem dX5_copy_5 : decode cX5_copy 5 = .ok (.iload_n 2, 1) := by decide +kernel
theorem dX5_copy_6 : decode cX5_copy 6 = .ok (.invokevirtual 79, 3) := by decide +kernel
theorem dX5_copy_9 : decode cX5_copy 9 = .ok (.iload_n 3, 1) := by decide +kernel
theorem dX5_copy_10 : decode cX5_copy 10 = .ok (.invokestatic 83, 3) := by decide +kernel
theorem dX5_copy_13 : decode cX5_copy 13 = .ok (.astore 4, 2) := by decide +kernel
theorem dX5_copy_15 : decode cX5_copy 15 = .ok (.aload 4, 2) := by decide +kernel
theorem dX5_copy_17 : decode cX5_copy 17 = .ok (.iload_n 1, 1) := by decide +kernel
theorem dX5_copy_18 : decode cX5_copy 18 = .ok (.invokestatic 131, 3) := by decide +kernel
theorem dX5_copy_21 : decode cX5_copy 21 = .ok (.aload 4, 2) := by decide +kernel
theorem dX5_copy_23 : decode cX5_copy 23 = .ok (.getfield 170, 3) := by decide +kernel
theorem dX5_copy_26 : decode cX5_copy 26 = .ok (.iload_n 1, 1) := by decide +kernel
theorem dX5_copy_27 : decode cX5_copy 27 = .ok (.laload, 1) := by decide +kernel
theorem dX5_copy_28 : decode cX5_copy 28 = .ok (.lreturn, 1) := by decide +kernel
theorem dX5_isLost_0 : decode cX5_isLost 0 = .ok (.aload_n 0, 1) := by decide +kernel
theorem dX5_isLost_1 : decode cX5_isLost 1 = .ok (.iload_n 1, 1) := by decide +kernel
theorem dX5_isLost_2 : decode cX5_isLost 2 = .ok (.invokevirtual 79, 3) := by decide +kernel
theorem dX5_isLost_5 : decode cX5_isLost 5 = .ok (.iload_n 2, 1) := by decide +kernel
theorem dX5_isLost_6 : decode cX5_isLost 6 = .ok (.invokestatic 83, 3) := by decide +kernel
theorem dX5_isLost_9 : decode cX5_isLost 9 = .ok (.invokevirtual 174, 3) := by decide +kernel
theorem dX5_isLost_12 : decode cX5_isLost 12 = .ok (.ireturn, 1) := by decide +kernel
theorem dX5_words_0 : decode cX5_words 0 = .ok (.aload_n 0, 1) := by decide +kernel
theorem dX5_words_1 : decode cX5_words 1 = .ok (.iload_n 1, 1) := by decide +kernel
theorem dX5_words_2 : decode cX5_words 2 = .ok (.invokevirtual 79, 3) := by decide +kernel
theorem dX5_words_5 : decode cX5_words 5 = .ok (.iload_n 2, 1) := by decide +kernel
theorem dX5_words_6 : decode cX5_words 6 = .ok (.invokestatic 83, 3) := by decide +kernel
theorem dX5_words_9 : decode cX5_words 9 = .ok (.astore 5, 2) := by decide +kernel
theorem dX5_words_11 : decode cX5_words 11 = .ok (.iload_n 3, 1) := by decide +kernel
theorem dX5_words_12 : decode cX5_words 12 = .ok (.iconst 0, 1) := by decide +kernel
theorem dX5_words_13 : decode cX5_words 13 = .ok (.bipush 99, 2) := by decide +kernel
theorem dX5_words_15 : decode cX5_words 15 = .ok (.invokestatic 54, 3) := by decide +kernel
theorem dX5_words_18 : decode cX5_words 18 = .ok (.iload 4, 2) := by decide +kernel
theorem dX5_words_20 : decode cX5_words 20 = .ok (.iconst 0, 1) := by decide +kernel
theorem dX5_words_21 : decode cX5_words 21 = .ok (.bipush 99, 2) := by decide +kernel
theorem dX5_words_23 : decode cX5_words 23 = .ok (.invokestatic 54, 3) := by decide +kernel
theorem dX5_words_26 : decode cX5_words 26 = .ok (.aload 5, 2) := by decide +kernel
theorem dX5_words_28 : decode cX5_words 28 = .ok (.iload_n 3, 1) := by decide +kernel
theorem dX5_words_29 : decode cX5_words 29 = .ok (.putfield 177, 3) := by decide +kernel
theorem dX5_words_32 : decode cX5_words 32 = .ok (.aload 5, 2) := by decide +kernel
theorem dX5_words_34 : decode cX5_words 34 = .ok (.iload 4, 2) := by decide +kernel
theorem dX5_words_36 : decode cX5_words 36 = .ok (.putfield 180, 3) := by decide +kernel
theorem dX5_words_39 : decode cX5_words 39 = .ok (.return_, 1) := by decide +kernel
theorem dX5_order_0 : decode cX5_order 0 = .ok (.aload_n 0, 1) := by decide +kernel
theorem dX5_order_1 : decode cX5_order 1 = .ok (.iload_n 1, 1) := by decide +kernel
theorem dX5_order_2 : decode cX5_order 2 = .ok (.iload_n 2, 1) := by decide +kernel
theorem dX5_order_3 : decode cX5_order 3 = .ok (.invokevirtual 183, 3) := by decide +kernel
theorem dX5_order_6 : decode cX5_order 6 = .ok (.astore_n 3, 1) := by decide +kernel
theorem dX5_order_7 : decode cX5_order 7 = .ok (.aload_n 0, 1) := by decide +kernel
theorem dX5_order_8 : decode cX5_order 8 = .ok (.getfield 29, 3) := by decide +kernel
theorem dX5_order_11 : decode cX5_order 11 = .ok (.aload_n 3, 1) := by decide +kernel
theorem dX5_order_12 : decode cX5_order 12 = .ok (.getfield 152, 3) := by decide +kernel
theorem dX5_order_15 : decode cX5_order 15 = .ok (.invokevirtual 187, 3) := by decide +kernel
theorem dX5_order_18 : decode cX5_order 18 = .ok (.ifCond .eq 14, 3) := by decide +kernel
theorem dX5_order_21 : decode cX5_order 21 = .ok (.aload_n 0, 1) := by decide +kernel
theorem dX5_order_22 : decode cX5_order 22 = .ok (.getfield 29, 3) := by decide +kernel
theorem dX5_order_25 : decode cX5_order 25 = .ok (.iload_n 2, 1) := by decide +kernel
theorem dX5_order_26 : decode cX5_order 26 = .ok (.invokevirtual 191, 3) := by decide +kernel
theorem dX5_order_29 : decode cX5_order 29 = .ok (.goto 4, 3) := by decide +kernel
theorem dX5_order_32 : decode cX5_order 32 = .ok (.iconst (-1), 1) := by decide +kernel
theorem dX5_order_33 : decode cX5_order 33 = .ok (.ireturn, 1) := by decide +kernel
theorem dX5_orderAnew_0 : decode cX5_orderAnew 0 = .ok (.aload_n 0, 1) := by decide +kernel
theorem dX5_orderAnew_1 : decode cX5_orderAnew 1 = .ok (.iload_n 1, 1) := by decide +kernel
theorem dX5_orderAnew_2 : decode cX5_orderAnew 2 = .ok (.iload_n 2, 1) := by decide +kernel
theorem dX5_orderAnew_3 : decode cX5_orderAnew 3 = .ok (.invokevirtual 183, 3) := by decide +kernel
theorem dX5_orderAnew_6 : decode cX5_orderAnew 6 = .ok (.astore_n 3, 1) := by decide +kernel
theorem dX5_orderAnew_7 : decode cX5_orderAnew 7 = .ok (.aload_n 0, 1) := by decide +kernel
theorem dX5_orderAnew_8 : decode cX5_orderAnew 8 = .ok (.getfield 29, 3) := by decide +kernel
theorem dX5_orderAnew_11 : decode cX5_orderAnew 11 = .ok (.aload_n 3, 1) := by decide +kernel
theorem dX5_orderAnew_12 : decode cX5_orderAnew 12 = .ok (.getfield 152, 3) := by decide +kernel
theorem dX5_orderAnew_15 : decode cX5_orderAnew 15 = .ok (.invokevirtual 194, 3) := by decide +kernel
theorem dX5_orderAnew_18 : decode cX5_orderAnew 18 = .ok (.ifCond .eq 14, 3) := by decide +kernel
theorem dX5_orderAnew_21 : decode cX5_orderAnew 21 = .ok (.aload_n 0, 1) := by decide +kernel
theorem dX5_orderAnew_22 : decode cX5_orderAnew 22 = .ok (.getfield 29, 3) := by decide +kernel
theorem dX5_orderAnew_25 : decode cX5_orderAnew 25 = .ok (.iload_n 2, 1) := by decide +kernel
theorem dX5_orderAnew_26 : decode cX5_orderAnew 26 = .ok (.invokevirtual 191, 3) := by decide +kernel
theorem dX5_orderAnew_29 : decode cX5_orderAnew 29 = .ok (.goto 4, 3) := by decide +kernel
theorem dX5_orderAnew_32 : decode cX5_orderAnew 32 = .ok (.iconst (-1), 1) := by decide +kernel
theorem dX5_orderAnew_33 : decode cX5_orderAnew 33 = .ok (.ireturn, 1) := by decide +kernel
theorem dX5_gold_0 : decode cX5_gold 0 = .ok (.aload_n 0, 1) := by decide +kernel
theorem dX5_gold_1 : decode cX5_gold 1 = .ok (.iload_n 1, 1) := by decide +kernel
theorem dX5_gold_2 : decode cX5_gold 2 = .ok (.invokevirtual 79, 3) := by decide +kernel
theorem dX5_gold_5 : decode cX5_gold 5 = .ok (.iload_n 2, 1) := by decide +kernel
theorem dX5_gold_6 : decode cX5_gold 6 = .ok (.invokestatic 83, 3) := by decide +kernel
theorem dX5_gold_9 : decode cX5_gold 9 = .ok (.astore 5, 2) := by decide +kernel
theorem dX5_gold_11 : decode cX5_gold 11 = .ok (.iload_n 3, 1) := by decide +kernel
theorem dX5_gold_12 : decode cX5_gold 12 = .ok (.invokestatic 197, 3) := by decide +kernel
theorem dX5_gold_15 : decode cX5_gold 15 = .ok (.iload 4, 2) := by decide +kernel
theorem dX5_gold_17 : decode cX5_gold 17 = .ok (.iconst 0, 1) := by decide +kernel
theorem dX5_gold_18 : decode cX5_gold 18 = .ok (.bipush 25, 2) := by decide +kernel
theorem dX5_gold_20 : decode cX5_gold 20 = .ok (.invokestatic 54, 3) := by decide +kernel
theorem dX5_gold_23 : decode cX5_gold 23 = .ok (.aload 5, 2) := by decide +kernel
theorem dX5_gold_25 : decode cX5_gold 25 = .ok (.getfield 200, 3) := by decide +kernel
theorem dX5_gold_28 : decode cX5_gold 28 = .ok (.iload_n 3, 1) := by decide +kernel
theorem dX5_gold_29 : decode cX5_gold 29 = .ok (.iaload, 1) := by decide +kernel
theorem dX5_gold_30 : decode cX5_gold 30 = .ok (.istore 6, 2) := by decide +kernel
theorem dX5_gold_32 : decode cX5_gold 32 = .ok (.aload 5, 2) := by decide +kernel
theorem dX5_gold_34 : decode cX5_gold 34 = .ok (.getfield 200, 3) := by decide +kernel
theorem dX5_gold_37 : decode cX5_gold 37 = .ok (.iload_n 3, 1) := by decide +kernel
theorem dX5_gold_38 : decode cX5_gold 38 = .ok (.iload 4, 2) := by decide +kernel
theorem dX5_gold_40 : decode cX5_gold 40 = .ok (.iastore, 1) := by decide +kernel
theorem dX5_gold_41 : decode cX5_gold 41 = .ok (.iload 6, 2) := by decide +kernel
theorem dX5_gold_43 : decode cX5_gold 43 = .ok (.ireturn, 1) := by decide +kernel
theorem dX5_key_0 : decode cX5_key 0 = .ok (.iload_n 1, 1) := by decide +kernel
theorem dX5_key_1 : decode cX5_key 1 = .ok (.invokestatic 203, 3) := by decide +kernel
theorem dX5_key_4 : decode cX5_key 4 = .ok (.aload_n 0, 1) := by decide +kernel
theorem dX5_key_5 : decode cX5_key 5 = .ok (.iload_n 2, 1) := by decide +kernel
theorem dX5_key_6 : decode cX5_key 6 = .ok (.invokevirtual 79, 3) := by decide +kernel
theorem dX5_key_9 : decode cX5_key 9 = .ok (.iload_n 3, 1) := by decide +kernel
theorem dX5_key_10 : decode cX5_key 10 = .ok (.invokestatic 83, 3) := by decide +kernel
theorem dX5_key_13 : decode cX5_key 13 = .ok (.astore 6, 2) := by decide +kernel
theorem dX5_key_15 : decode cX5_key 15 = .ok (.iload 4, 2) := by decide +kernel
theorem dX5_key_17 : decode cX5_key 17 = .ok (.invokestatic 197, 3) := by decide +kernel
theorem dX5_key_20 : decode cX5_key 20 = .ok (.iload 5, 2) := by decide +kernel
theorem dX5_key_22 : decode cX5_key 22 = .ok (.iconst 0, 1) := by decide +kernel
theorem dX5_key_23 : decode cX5_key 23 = .ok (.bipush 25, 2) := by decide +kernel
theorem dX5_key_25 : decode cX5_key 25 = .ok (.invokestatic 54, 3) := by decide +kernel
theorem dX5_key_28 : decode cX5_key 28 = .ok (.aload 6, 2) := by decide +kernel
theorem dX5_key_30 : decode cX5_key 30 = .ok (.getfield 206, 3) := by decide +kernel
theorem dX5_key_33 : decode cX5_key 33 = .ok (.iload_n 1, 1) := by decide +kernel
theorem dX5_key_34 : decode cX5_key 34 = .ok (.aaload, 1) := by decide +kernel
theorem dX5_key_35 : decode cX5_key 35 = .ok (.iload 4, 2) := by decide +kernel
theorem dX5_key_37 : decode cX5_key 37 = .ok (.iaload, 1) := by decide +kernel
theorem dX5_key_38 : decode cX5_key 38 = .ok (.istore 7, 2) := by decide +kernel
theorem dX5_key_40 : decode cX5_key 40 = .ok (.aload 6, 2) := by decide +kernel
theorem dX5_key_42 : decode cX5_key 42 = .ok (.getfield 206, 3) := by decide +kernel
theorem dX5_key_45 : decode cX5_key 45 = .ok (.iload_n 1, 1) := by decide +kernel
theorem dX5_key_46 : decode cX5_key 46 = .ok (.aaload, 1) := by decide +kernel
theorem dX5_key_47 : decode cX5_key 47 = .ok (.iload 4, 2) := by decide +kernel
theorem dX5_key_49 : decode cX5_key 49 = .ok (.iload 5, 2) := by decide +kernel
theorem dX5_key_51 : decode cX5_key 51 = .ok (.iastore, 1) := by decide +kernel
theorem dX5_key_52 : decode cX5_key 52 = .ok (.iload 7, 2) := by decide +kernel
theorem dX5_key_54 : decode cX5_key 54 = .ok (.ireturn, 1) := by decide +kernel
theorem dX5_trust_0 : decode cX5_trust 0 = .ok (.iload_n 1, 1) := by decide +kernel
theorem dX5_trust_1 : decode cX5_trust 1 = .ok (.invokestatic 203, 3) := by decide +kernel
theorem dX5_trust_4 : decode cX5_trust 4 = .ok (.aload_n 0, 1) := by decide +kernel
theorem dX5_trust_5 : decode cX5_trust 5 = .ok (.iload_n 1, 1) := by decide +kernel
theorem dX5_trust_6 : decode cX5_trust 6 = .ok (.invokevirtual 210, 3) := by decide +kernel
theorem dX5_trust_9 : decode cX5_trust 9 = .ok (.ireturn, 1) := by decide +kernel
theorem dX5_pay_0 : decode cX5_pay 0 = .ok (.iload_n 1, 1) := by decide +kernel
theorem dX5_pay_1 : decode cX5_pay 1 = .ok (.invokestatic 203, 3) := by decide +kernel
theorem dX5_pay_4 : decode cX5_pay 4 = .ok (.iconst 0, 1) := by decide +kernel
theorem dX5_pay_5 : decode cX5_pay 5 = .ok (.istore_n 2, 1) := by decide +kernel
theorem dX5_pay_6 : decode cX5_pay 6 = .ok (.aload_n 0, 1) := by decide +kernel
theorem dX5_pay_7 : decode cX5_pay 7 = .ok (.getfield 11, 3) := by decide +kernel
theorem dX5_pay_10 : decode cX5_pay 10 = .ok (.astore_n 3, 1) := by decide +kernel
theorem dX5_pay_11 : decode cX5_pay 11 = .ok (.aload_n 3, 1) := by decide +kernel
theorem dX5_pay_12 : decode cX5_pay 12 = .ok (.arraylength, 1) := by decide +kernel
theorem dX5_pay_13 : decode cX5_pay 13 = .ok (.istore 4, 2) := by decide +kernel
theorem dX5_pay_15 : decode cX5_pay 15 = .ok (.iconst 0, 1) := by decide +kernel
theorem dX5_pay_16 : decode cX5_pay 16 = .ok (.istore 5, 2) := by decide +kernel
theorem dX5_pay_18 : decode cX5_pay 18 = .ok (.iload 5, 2) := by decide +kernel
theorem dX5_pay_20 : decode cX5_pay 20 = .ok (.iload 4, 2) := by decide +kernel
theorem dX5_pay_22 : decode cX5_pay 22 = .ok (.if_icmp .ge 29, 3) := by decide +kernel
theorem dX5_pay_25 : decode cX5_pay 25 = .ok (.aload_n 3, 1) := by decide +kernel
theorem dX5_pay_26 : decode cX5_pay 26 = .ok (.iload 5, 2) := by decide +kernel
theorem dX5_pay_28 : decode cX5_pay 28 = .ok (.aaload, 1) := by decide +kernel
theorem dX5_pay_29 : decode cX5_pay 29 = .ok (.astore 6, 2) := by decide +kernel
theorem dX5_pay_31 : decode cX5_pay 31 = .ok (.aload 6, 2) := by decide +kernel
theorem dX5_pay_33 : decode cX5_pay 33 = .ok (.ifnull 12, 3) := by decide +kernel
theorem dX5_pay_36 : decode cX5_pay 36 = .ok (.iload_n 2, 1) := by decide +kernel
theorem dX5_pay_37 : decode cX5_pay 37 = .ok (.aload 6, 2) := by decide +kernel
theorem dX5_pay_39 : decode cX5_pay 39 = .ok (.iload_n 1, 1) := by decide +kernel
theorem dX5_pay_40 : decode cX5_pay 40 = .ok (.invokevirtual 213, 3) := by decide +kernel
theorem dX5_pay_43 : decode cX5_pay 43 = .ok (.iadd, 1) := by decide +kernel
theorem dX5_pay_44 : decode cX5_pay 44 = .ok (.istore_n 2, 1) := by decide +kernel
theorem dX5_pay_45 : decode cX5_pay 45 = .ok (.iinc 5 1, 3) := by decide +kernel
theorem dX5_pay_48 : decode cX5_pay 48 = .ok (.goto (-30), 3) := by decide +kernel
theorem dX5_pay_51 : decode cX5_pay 51 = .ok (.iload_n 2, 1) := by decide +kernel
theorem dX5_pay_52 : decode cX5_pay 52 = .ok (.aload_n 0, 1) := by decide +kernel
theorem dX5_pay_53 : decode cX5_pay 53 = .ok (.iload_n 1, 1) := by decide +kernel
theorem dX5_pay_54 : decode cX5_pay 54 = .ok (.invokevirtual 210, 3) := by decide +kernel
theorem dX5_pay_57 : decode cX5_pay 57 = .ok (.imul, 1) := by decide +kernel
theorem dX5_pay_58 : decode cX5_pay 58 = .ok (.bipush 10, 2) := by decide +kernel
theorem dX5_pay_60 : decode cX5_pay 60 = .ok (.idiv, 1) := by decide +kernel
theorem dX5_pay_61 : decode cX5_pay 61 = .ok (.ireturn, 1) := by decide +kernel
theorem dX5_read_0 : decode cX5_read 0 = .ok (.aload_n 0, 1) := by decide +kernel
theorem dX5_read_1 : decode cX5_read 1 = .ok (.iload_n 1, 1) := by decide +kernel
theorem dX5_read_2 : decode cX5_read 2 = .ok (.invokevirtual 79, 3) := by decide +kernel
theorem dX5_read_5 : decode cX5_read 5 = .ok (.iload_n 2, 1) := by decide +kernel
theorem dX5_read_6 : decode cX5_read 6 = .ok (.invokestatic 83, 3) := by decide +kernel
theorem dX5_read_9 : decode cX5_read 9 = .ok (.astore 4, 2) := by decide +kernel
theorem dX5_read_11 : decode cX5_read 11 = .ok (.iload_n 3, 1) := by decide +kernel
theorem dX5_read_12 : decode cX5_read 12 = .ok (.invokestatic 197, 3) := by decide +kernel
theorem dX5_read_15 : decode cX5_read 15 = .ok (.aload 4, 2) := by decide +kernel
theorem dX5_read_17 : decode cX5_read 17 = .ok (.getfield 200, 3) := by decide +kernel
theorem dX5_read_20 : decode cX5_read 20 = .ok (.iload_n 3, 1) := by decide +kernel
theorem dX5_read_21 : decode cX5_read 21 = .ok (.iaload, 1) := by decide +kernel
theorem dX5_read_22 : decode cX5_read 22 = .ok (.iconst (-1), 1) := by decide +kernel
theorem dX5_read_23 : decode cX5_read 23 = .ok (.if_icmp .eq 11, 3) := by decide +kernel
theorem dX5_read_26 : decode cX5_read 26 = .ok (.aload 4, 2) := by decide +kernel
theorem dX5_read_28 : decode cX5_read 28 = .ok (.getfield 200, 3) := by decide +kernel
theorem dX5_read_31 : decode cX5_read 31 = .ok (.iload_n 3, 1) := by decide +kernel
theorem dX5_read_32 : decode cX5_read 32 = .ok (.iaload, 1) := by decide +kernel
theorem dX5_read_33 : decode cX5_read 33 = .ok (.ireturn, 1) := by decide +kernel
theorem dX5_read_34 : decode cX5_read 34 = .ok (.aload_n 0, 1) := by decide +kernel
theorem dX5_read_35 : decode cX5_read 35 = .ok (.aload 4, 2) := by decide +kernel
theorem dX5_read_37 : decode cX5_read 37 = .ok (.iload_n 3, 1) := by decide +kernel
theorem dX5_read_38 : decode cX5_read 38 = .ok (.invokevirtual 216, 3) := by decide +kernel
theorem dX5_read_41 : decode cX5_read 41 = .ok (.aload_n 0, 1) := by decide +kernel
theorem dX5_read_42 : decode cX5_read 42 = .ok (.getfield 36, 3) := by decide +kernel
theorem dX5_read_45 : decode cX5_read 45 = .ok (.invokevirtual 219, 3) := by decide +kernel
theorem dX5_read_48 : decode cX5_read 48 = .ok (.ireturn, 1) := by decide +kernel
theorem dX5_doubt_0 : decode cX5_doubt 0 = .ok (.aload_n 0, 1) := by decide +kernel
theorem dX5_doubt_1 : decode cX5_doubt 1 = .ok (.iload_n 1, 1) := by decide +kernel
theorem dX5_doubt_2 : decode cX5_doubt 2 = .ok (.invokevirtual 79, 3) := by decide +kernel
theorem dX5_doubt_5 : decode cX5_doubt 5 = .ok (.iload_n 2, 1) := by decide +kernel
theorem dX5_doubt_6 : decode cX5_doubt 6 = .ok (.invokestatic 83, 3) := by decide +kernel
theorem dX5_doubt_9 : decode cX5_doubt 9 = .ok (.astore 4, 2) := by decide +kernel
theorem dX5_doubt_11 : decode cX5_doubt 11 = .ok (.iload_n 3, 1) := by decide +kernel
theorem dX5_doubt_12 : decode cX5_doubt 12 = .ok (.invokestatic 197, 3) := by decide +kernel
theorem dX5_doubt_15 : decode cX5_doubt 15 = .ok (.aload 4, 2) := by decide +kernel
theorem dX5_doubt_17 : decode cX5_doubt 17 = .ok (.getfield 200, 3) := by decide +kernel
theorem dX5_doubt_20 : decode cX5_doubt 20 = .ok (.iload_n 3, 1) := by decide +kernel
theorem dX5_doubt_21 : decode cX5_doubt 21 = .ok (.iaload, 1) := by decide +kernel
theorem dX5_doubt_22 : decode cX5_doubt 22 = .ok (.iconst (-1), 1) := by decide +kernel
theorem dX5_doubt_23 : decode cX5_doubt 23 = .ok (.if_icmp .eq 5, 3) := by decide +kernel
theorem dX5_doubt_26 : decode cX5_doubt 26 = .ok (.iconst 0, 1) := by decide +kernel
theorem dX5_doubt_27 : decode cX5_doubt 27 = .ok (.ireturn, 1) := by decide +kernel
theorem dX5_doubt_28 : decode cX5_doubt 28 = .ok (.aload_n 0, 1) := by decide +kernel
theorem dX5_doubt_29 : decode cX5_doubt 29 = .ok (.aload 4, 2) := by decide +kernel
theorem dX5_doubt_31 : decode cX5_doubt 31 = .ok (.iload_n 3, 1) := by decide +kernel
theorem dX5_doubt_32 : decode cX5_doubt 32 = .ok (.invokevirtual 216, 3) := by decide +kernel
theorem dX5_doubt_35 : decode cX5_doubt 35 = .ok (.aload_n 0, 1) := by decide +kernel
theorem dX5_doubt_36 : decode cX5_doubt 36 = .ok (.getfield 36, 3) := by decide +kernel
theorem dX5_doubt_39 : decode cX5_doubt 39 = .ok (.invokevirtual 222, 3) := by decide +kernel
theorem dX5_doubt_42 : decode cX5_doubt 42 = .ok (.ireturn, 1) := by decide +kernel
theorem dX5_pass_0 : decode cX5_pass 0 = .ok (.iload_n 1, 1) := by decide +kernel
theorem dX5_pass_1 : decode cX5_pass 1 = .ok (.iconst 1, 1) := by decide +kernel
theorem dX5_pass_2 : decode cX5_pass 2 = .ok (.bipush 100, 2) := by decide +kernel
theorem dX5_pass_4 : decode cX5_pass 4 = .ok (.invokestatic 54, 3) := by decide +kernel
theorem dX5_pass_7 : decode cX5_pass 7 = .ok (.aload_n 0, 1) := by decide +kernel
theorem dX5_pass_8 : decode cX5_pass 8 = .ok (.getfield 40, 3) := by decide +kernel
theorem dX5_pass_11 : decode cX5_pass 11 = .ok (.iload_n 1, 1) := by decide +kernel
theorem dX5_pass_12 : decode cX5_pass 12 = .ok (.iadd, 1) := by decide +kernel
theorem dX5_pass_13 : decode cX5_pass 13 = .ok (.sipush 4000, 3) := by decide +kernel
theorem dX5_pass_16 : decode cX5_pass 16 = .ok (.if_icmp .le 13, 3) := by decide +kernel
theorem dX5_pass_19 : decode cX5_pass 19 = .ok (.new 61, 3) := by decide +kernel
theorem dX5_pass_22 : decode cX5_pass 22 = .ok (.dup, 1) := by decide +kernel
theorem dX5_pass_23 : decode cX5_pass 23 = .ok (.ldc 225, 2) := by decide +kernel
theorem dX5_pass_25 : decode cX5_pass 25 = .ok (.invokespecial 65, 3) := by decide +kernel
theorem dX5_pass_28 : decode cX5_pass 28 = .ok (.athrow, 1) := by decide +kernel
theorem dX5_pass_29 : decode cX5_pass 29 = .ok (.aload_n 0, 1) := by decide +kernel
theorem dX5_pass_30 : decode cX5_pass 30 = .ok (.dup, 1) := by decide +kernel
theorem dX5_pass_31 : decode cX5_pass 31 = .ok (.getfield 40, 3) := by decide +kernel
theorem dX5_pass_34 : decode cX5_pass 34 = .ok (.iload_n 1, 1) := by decide +kernel
theorem dX5_pass_35 : decode cX5_pass 35 = .ok (.iadd, 1) := by decide +kernel
theorem dX5_pass_36 : decode cX5_pass 36 = .ok (.putfield 40, 3) := by decide +kernel
theorem dX5_pass_39 : decode cX5_pass 39 = .ok (.aload_n 0, 1) := by decide +kernel
theorem dX5_pass_40 : decode cX5_pass 40 = .ok (.getfield 40, 3) := by decide +kernel
theorem dX5_pass_43 : decode cX5_pass 43 = .ok (.ireturn, 1) := by decide +kernel
theorem dX5_term_0 : decode cX5_term 0 = .ok (.iload_n 1, 1) := by decide +kernel
theorem dX5_term_1 : decode cX5_term 1 = .ok (.invokestatic 227, 3) := by decide +kernel
theorem dX5_term_4 : decode cX5_term 4 = .ok (.iload_n 2, 1) := by decide +kernel
theorem dX5_term_5 : decode cX5_term 5 = .ok (.iconst 0, 1) := by decide +kernel
theorem dX5_term_6 : decode cX5_term 6 = .ok (.bipush 120, 2) := by decide +kernel
theorem dX5_term_8 : decode cX5_term 8 = .ok (.invokestatic 54, 3) := by decide +kernel
theorem dX5_term_11 : decode cX5_term 11 = .ok (.aload_n 0, 1) := by decide +kernel
theorem dX5_term_12 : decode cX5_term 12 = .ok (.getfield 44, 3) := by decide +kernel
theorem dX5_term_15 : decode cX5_term 15 = .ok (.iload_n 1, 1) := by decide +kernel
theorem dX5_term_16 : decode cX5_term 16 = .ok (.iaload, 1) := by decide +kernel
theorem dX5_term_17 : decode cX5_term 17 = .ok (.istore_n 3, 1) := by decide +kernel
theorem dX5_term_18 : decode cX5_term 18 = .ok (.aload_n 0, 1) := by decide +kernel
theorem dX5_term_19 : decode cX5_term 19 = .ok (.getfield 44, 3) := by decide +kernel
theorem dX5_term_22 : decode cX5_term 22 = .ok (.iload_n 1, 1) := by decide +kernel
theorem dX5_term_23 : decode cX5_term 23 = .ok (.iload_n 2, 1) := by decide +kernel
theorem dX5_term_24 : decode cX5_term 24 = .ok (.iastore, 1) := by decide +kernel
theorem dX5_term_25 : decode cX5_term 25 = .ok (.iload_n 3, 1) := by decide +kernel
theorem dX5_term_26 : decode cX5_term 26 = .ok (.ireturn, 1) := by decide +kernel
theorem dX5_died_0 : decode cX5_died 0 = .ok (.aload_n 0, 1) := by decide +kernel
theorem dX5_died_1 : decode cX5_died 1 = .ok (.iload_n 1, 1) := by decide +kernel
theorem dX5_died_2 : decode cX5_died 2 = .ok (.invokevirtual 79, 3) := by decide +kernel
theorem dX5_died_5 : decode cX5_died 5 = .ok (.astore_n 3, 1) := by decide +kernel
theorem dX5_died_6 : decode cX5_died 6 = .ok (.iload_n 2, 1) := by decide +kernel
theorem dX5_died_7 : decode cX5_died 7 = .ok (.sipush 1500, 3) := by decide +kernel
theorem dX5_died_10 : decode cX5_died 10 = .ok (.sipush 3000, 3) := by decide +kernel
theorem dX5_died_13 : decode cX5_died 13 = .ok (.invokestatic 54, 3) := by decide +kernel
theorem dX5_died_16 : decode cX5_died 16 = .ok (.aload_n 3, 1) := by decide +kernel
theorem dX5_died_17 : decode cX5_died 17 = .ok (.getfield 230, 3) := by decide +kernel
theorem dX5_died_20 : decode cX5_died 20 = .ok (.iconst (-1), 1) := by decide +kernel
theorem dX5_died_21 : decode cX5_died 21 = .ok (.if_icmp .eq 13, 3) := by decide +kernel
theorem dX5_died_24 : decode cX5_died 24 = .ok (.new 61, 3) := by decide +kernel
theorem dX5_died_27 : decode cX5_died 27 = .ok (.dup, 1) := by decide +kernel
theorem dX5_died_28 : decode cX5_died 28 = .ok (.ldc 233, 2) := by decide +kernel
theorem dX5_died_30 : decode cX5_died 30 = .ok (.invokespecial 65, 3) := by decide +kernel
theorem dX5_died_33 : decode cX5_died 33 = .ok (.athrow, 1) := by decide +kernel
theorem dX5_died_34 : decode cX5_died 34 = .ok (.aload_n 3, 1) := by decide +kernel
theorem dX5_died_35 : decode cX5_died 35 = .ok (.iload_n 2, 1) := by decide +kernel
theorem dX5_died_36 : decode cX5_died 36 = .ok (.putfield 230, 3) := by decide +kernel
theorem dX5_died_39 : decode cX5_died 39 = .ok (.return_, 1) := by decide +kernel
theorem dX5_search_0 : decode cX5_search 0 = .ok (.aload_n 0, 1) := by decide +kernel
theorem dX5_search_1 : decode cX5_search 1 = .ok (.iload_n 1, 1) := by decide +kernel
theorem dX5_search_2 : decode cX5_search 2 = .ok (.invokevirtual 79, 3) := by decide +kernel
theorem dX5_search_5 : decode cX5_search 5 = .ok (.astore_n 2, 1) := by decide +kernel
theorem dX5_search_6 : decode cX5_search 6 = .ok (.aload_n 2, 1) := by decide +kernel
theorem dX5_search_7 : decode cX5_search 7 = .ok (.getfield 235, 3) := by decide +kernel
theorem dX5_search_10 : decode cX5_search 10 = .ok (.istore_n 3, 1) := by decide +kernel
theorem dX5_search_11 : decode cX5_search 11 = .ok (.aload_n 2, 1) := by decide +kernel
theorem dX5_search_12 : decode cX5_search 12 = .ok (.iconst 1, 1) := by decide +kernel
theorem dX5_search_13 : decode cX5_search 13 = .ok (.putfield 235, 3) := by decide +kernel
theorem dX5_search_16 : decode cX5_search 16 = .ok (.iload_n 3, 1) := by decide +kernel
theorem dX5_search_17 : decode cX5_search 17 = .ok (.ireturn, 1) := by decide +kernel
theorem dX5_takeDown_0 : decode cX5_takeDown 0 = .ok (.aload_n 0, 1) := by decide +kernel
theorem dX5_takeDown_1 : decode cX5_takeDown 1 = .ok (.iload_n 1, 1) := by decide +kernel
theorem dX5_takeDown_2 : decode cX5_takeDown 2 = .ok (.invokevirtual 79, 3) := by decide +kernel
theorem dX5_takeDown_5 : decode cX5_takeDown 5 = .ok (.astore_n 3, 1) := by decide +kernel
theorem dX5_takeDown_6 : decode cX5_takeDown 6 = .ok (.aload_n 3, 1) := by decide +kernel
theorem dX5_takeDown_7 : decode cX5_takeDown 7 = .ok (.getfield 238, 3) := by decide +kernel
theorem dX5_takeDown_10 : decode cX5_takeDown 10 = .ok (.istore 4, 2) := by decide +kernel
theorem dX5_takeDown_12 : decode cX5_takeDown 12 = .ok (.aload_n 3, 1) := by decide +kernel
theorem dX5_takeDown_13 : decode cX5_takeDown 13 = .ok (.iload_n 2, 1) := by decide +kernel
theorem dX5_takeDown_14 : decode cX5_takeDown 14 = .ok (.putfield 238, 3) := by decide +kernel
theorem dX5_takeDown_17 : decode cX5_takeDown 17 = .ok (.iload 4, 2) := by decide +kernel
theorem dX5_takeDown_19 : decode cX5_takeDown 19 = .ok (.ireturn, 1) := by decide +kernel
theorem dX5_whyNot_0 : decode cX5_whyNot 0 = .ok (.aload_n 0, 1) := by decide +kernel
theorem dX5_whyNot_1 : decode cX5_whyNot 1 = .ok (.iload_n 1, 1) := by decide +kernel
theorem dX5_whyNot_2 : decode cX5_whyNot 2 = .ok (.invokevirtual 79, 3) := by decide +kernel
theorem dX5_whyNot_5 : decode cX5_whyNot 5 = .ok (.astore 4, 2) := by decide +kernel
theorem dX5_whyNot_7 : decode cX5_whyNot 7 = .ok (.aload 4, 2) := by decide +kernel
theorem dX5_whyNot_9 : decode cX5_whyNot 9 = .ok (.iload_n 2, 1) := by decide +kernel
theorem dX5_whyNot_10 : decode cX5_whyNot 10 = .ok (.invokestatic 83, 3) := by decide +kernel
theorem dX5_whyNot_13 : decode cX5_whyNot 13 = .ok (.astore 5, 2) := by decide +kernel
theorem dX5_whyNot_15 : decode cX5_whyNot 15 = .ok (.iload_n 3, 1) := by decide +kernel
theorem dX5_whyNot_16 : decode cX5_whyNot 16 = .ok (.invokestatic 227, 3) := by decide +kernel
theorem dX5_whyNot_19 : decode cX5_whyNot 19 = .ok (.aload 5, 2) := by decide +kernel
theorem dX5_whyNot_21 : decode cX5_whyNot 21 = .ok (.getfield 97, 3) := by decide +kernel
theorem dX5_whyNot_24 : decode cX5_whyNot 24 = .ok (.ifCond .ne 5, 3) := by decide +kernel
theorem dX5_whyNot_27 : decode cX5_whyNot 27 = .ok (.iconst 1, 1) := by decide +kernel
theorem dX5_whyNot_28 : decode cX5_whyNot 28 = .ok (.ireturn, 1) := by decide +kernel
theorem dX5_whyNot_29 : decode cX5_whyNot 29 = .ok (.aload 4, 2) := by decide +kernel
theorem dX5_whyNot_31 : decode cX5_whyNot 31 = .ok (.getfield 238, 3) := by decide +kernel
theorem dX5_whyNot_34 : decode cX5_whyNot 34 = .ok (.ifCond .eq 5, 3) := by decide +kernel
theorem dX5_whyNot_37 : decode cX5_whyNot 37 = .ok (.iconst 2, 1) := by decide +kernel
theorem dX5_whyNot_38 : decode cX5_whyNot 38 = .ok (.ireturn, 1) := by decide +kernel
theorem dX5_whyNot_39 : decode cX5_whyNot 39 = .ok (.aload 4, 2) := by decide +kernel
theorem dX5_whyNot_41 : decode cX5_whyNot 41 = .ok (.getfield 230, 3) := by decide +kernel
theorem dX5_whyNot_44 : decode cX5_whyNot 44 = .ok (.iconst (-1), 1) := by decide +kernel
theorem dX5_whyNot_45 : decode cX5_whyNot 45 = .ok (.if_icmp .ne 13, 3) := by decide +kernel
theorem dX5_whyNot_48 : decode cX5_whyNot 48 = .ok (.aload 4, 2) := by decide +kernel
theorem dX5_whyNot_50 : decode cX5_whyNot 50 = .ok (.getfield 235, 3) := by decide +kernel
theorem dX5_whyNot_53 : decode cX5_whyNot 53 = .ok (.ifCond .ne 5, 3) := by decide +kernel
theorem dX5_whyNot_56 : decode cX5_whyNot 56 = .ok (.iconst 3, 1) := by decide +kernel
theorem dX5_whyNot_57 : decode cX5_whyNot 57 = .ok (.ireturn, 1) := by decide +kernel
theorem dX5_whyNot_58 : decode cX5_whyNot 58 = .ok (.aload 4, 2) := by decide +kernel
theorem dX5_whyNot_60 : decode cX5_whyNot 60 = .ok (.getfield 230, 3) := by decide +kernel
theorem dX5_whyNot_63 : decode cX5_whyNot 63 = .ok (.iconst (-1), 1) := by decide +kernel
theorem dX5_whyNot_64 : decode cX5_whyNot 64 = .ok (.if_icmp .eq 24, 3) := by decide +kernel
theorem dX5_whyNot_67 : decode cX5_whyNot 67 = .ok (.aload_n 0, 1) := by decide +kernel
theorem dX5_whyNot_68 : decode cX5_whyNot 68 = .ok (.getfield 40, 3) := by decide +kernel
theorem dX5_whyNot_71 : decode cX5_whyNot 71 = .ok (.aload 4, 2) := by decide +kernel
theorem dX5_whyNot_73 : decode cX5_whyNot 73 = .ok (.getfield 230, 3) := by decide +kernel
theorem dX5_whyNot_76 : decode cX5_whyNot 76 = .ok (.aload_n 0, 1) := by decide +kernel
theorem dX5_whyNot_77 : decode cX5_whyNot 77 = .ok (.getfield 44, 3) := by decide +kernel
theorem dX5_whyNot_80 : decode cX5_whyNot 80 = .ok (.iload_n 3, 1) := by decide +kernel
theorem dX5_whyNot_81 : decode cX5_whyNot 81 = .ok (.iaload, 1) := by decide +kernel
theorem dX5_whyNot_82 : decode cX5_whyNot 82 = .ok (.iadd, 1) := by decide +kernel
theorem dX5_whyNot_83 : decode cX5_whyNot 83 = .ok (.if_icmp .gt 5, 3) := by decide +kernel
theorem dX5_whyNot_86 : decode cX5_whyNot 86 = .ok (.iconst 4, 1) := by decide +kernel
theorem dX5_whyNot_87 : decode cX5_whyNot 87 = .ok (.ireturn, 1) := by decide +kernel
theorem dX5_whyNot_88 : decode cX5_whyNot 88 = .ok (.aload 5, 2) := by decide +kernel
theorem dX5_whyNot_90 : decode cX5_whyNot 90 = .ok (.invokevirtual 174, 3) := by decide +kernel
theorem dX5_whyNot_93 : decode cX5_whyNot 93 = .ok (.ifCond .eq 7, 3) := by decide +kernel
theorem dX5_whyNot_96 : decode cX5_whyNot 96 = .ok (.iconst 5, 1) := by decide +kernel
theorem dX5_whyNot_97 : decode cX5_whyNot 97 = .ok (.goto 4, 3) := by decide +kernel
theorem dX5_whyNot_100 : decode cX5_whyNot 100 = .ok (.iconst 0, 1) := by decide +kernel
theorem dX5_whyNot_101 : decode cX5_whyNot 101 = .ok (.ireturn, 1) := by decide +kernel
theorem dX5_about_0 : decode cX5_about 0 = .ok (.aload_n 0, 1) := by decide +kernel
theorem dX5_about_1 : decode cX5_about 1 = .ok (.iload_n 1, 1) := by decide +kernel
theorem dX5_about_2 : decode cX5_about 2 = .ok (.invokevirtual 79, 3) := by decide +kernel
theorem dX5_about_5 : decode cX5_about 5 = .ok (.astore_n 3, 1) := by decide +kernel
theorem dX5_about_6 : decode cX5_about 6 = .ok (.iload_n 2, 1) := by decide +kernel
theorem dX5_about_7 : decode cX5_about 7 = .ok (.iconst 0, 1) := by decide +kernel
theorem dX5_about_8 : decode cX5_about 8 = .ok (.iconst 5, 1) := by decide +kernel
theorem dX5_about_9 : decode cX5_about 9 = .ok (.invokestatic 54, 3) := by decide +kernel
theorem dX5_about_12 : decode cX5_about 12 = .ok (.iload_n 2, 1) := by decide +kernel
theorem dX5_about_13 : decode cX5_about 13 = .ok (.tableswitch 60 1 5 #[35, 40, 45, 50, 55], 35) := by decide +kernel
theorem dX5_about_48 : decode cX5_about 48 = .ok (.aload_n 3, 1) := by decide +kernel
theorem dX5_about_49 : decode cX5_about 49 = .ok (.invokevirtual 241, 3) := by decide +kernel
theorem dX5_about_52 : decode cX5_about 52 = .ok (.ireturn, 1) := by decide +kernel
theorem dX5_about_53 : decode cX5_about 53 = .ok (.aload_n 3, 1) := by decide +kernel
theorem dX5_about_54 : decode cX5_about 54 = .ok (.invokevirtual 244, 3) := by decide +kernel
theorem dX5_about_57 : decode cX5_about 57 = .ok (.ireturn, 1) := by decide +kernel
theorem dX5_about_58 : decode cX5_about 58 = .ok (.aload_n 3, 1) := by decide +kernel
theorem dX5_about_59 : decode cX5_about 59 = .ok (.invokevirtual 247, 3) := by decide +kernel
theorem dX5_about_62 : decode cX5_about 62 = .ok (.ireturn, 1) := by decide +kernel
theorem dX5_about_63 : decode cX5_about 63 = .ok (.aload_n 3, 1) := by decide +kernel
theorem dX5_about_64 : decode cX5_about 64 = .ok (.getfield 230, 3) := by decide +kernel
theorem dX5_about_67 : decode cX5_about 67 = .ok (.ireturn, 1) := by decide +kernel
theorem dX5_about_68 : decode cX5_about 68 = .ok (.aload_n 3, 1) := by decide +kernel
theorem dX5_about_69 : decode cX5_about 69 = .ok (.getfield 108, 3) := by decide +kernel
theorem dX5_about_72 : decode cX5_about 72 = .ok (.ireturn, 1) := by decide +kernel
theorem dX5_about_73 : decode cX5_about 73 = .ok (.aload_n 3, 1) := by decide +kernel
theorem dX5_about_74 : decode cX5_about 74 = .ok (.getfield 92, 3) := by decide +kernel
theorem dX5_about_77 : decode cX5_about 77 = .ok (.ireturn, 1) := by decide +kernel
theorem dX5_needArgument_0 : decode cX5_needArgument 0 = .ok (.iload_n 0, 1) := by decide +kernel
theorem dX5_needArgument_1 : decode cX5_needArgument 1 = .ok (.iload_n 1, 1) := by decide +kernel
theorem dX5_needArgument_2 : decode cX5_needArgument 2 = .ok (.if_icmp .lt 8, 3) := by decide +kernel
theorem dX5_needArgument_5 : decode cX5_needArgument 5 = .ok (.iload_n 0, 1) := by decide +kernel
theorem dX5_needArgument_6 : decode cX5_needArgument 6 = .ok (.iload_n 2, 1) := by decide +kernel
theorem dX5_needArgument_7 : decode cX5_needArgument 7 = .ok (.if_icmp .le 13, 3) := by decide +kernel
theorem dX5_needArgument_10 : decode cX5_needArgument 10 = .ok (.new 250, 3) := by decide +kernel
theorem dX5_needArgument_13 : decode cX5_needArgument 13 = .ok (.dup, 1) := by decide +kernel
theorem dX5_needArgument_14 : decode cX5_needArgument 14 = .ok (.ldc 252, 2) := by decide +kernel
theorem dX5_needArgument_16 : decode cX5_needArgument 16 = .ok (.invokespecial 254, 3) := by decide +kernel
theorem dX5_needArgument_19 : decode cX5_needArgument 19 = .ok (.athrow, 1) := by decide +kernel
theorem dX5_needArgument_20 : decode cX5_needArgument 20 = .ok (.return_, 1) := by decide +kernel
theorem dX5_bookAt_0 : decode cX5_bookAt 0 = .ok (.iload_n 1, 1) := by decide +kernel
theorem dX5_bookAt_1 : decode cX5_bookAt 1 = .ok (.ifCond .lt 9, 3) := by decide +kernel
theorem dX5_bookAt_4 : decode cX5_bookAt 4 = .ok (.iload_n 1, 1) := by decide +kernel
theorem dX5_bookAt_5 : decode cX5_bookAt 5 = .ok (.bipush 6, 2) := by decide +kernel
theorem dX5_bookAt_7 : decode cX5_bookAt 7 = .ok (.if_icmp .lt 7, 3) := by decide +kernel
theorem dX5_bookAt_10 : decode cX5_bookAt 10 = .ok (.aconst_null, 1) := by decide +kernel
theorem dX5_bookAt_11 : decode cX5_bookAt 11 = .ok (.goto 9, 3) := by decide +kernel
theorem dX5_bookAt_14 : decode cX5_bookAt 14 = .ok (.aload_n 0, 1) := by decide +kernel
theorem dX5_bookAt_15 : decode cX5_bookAt 15 = .ok (.getfield 11, 3) := by decide +kernel
theorem dX5_bookAt_18 : decode cX5_bookAt 18 = .ok (.iload_n 1, 1) := by decide +kernel
theorem dX5_bookAt_19 : decode cX5_bookAt 19 = .ok (.aaload, 1) := by decide +kernel
theorem dX5_bookAt_20 : decode cX5_bookAt 20 = .ok (.astore_n 2, 1) := by decide +kernel
theorem dX5_bookAt_21 : decode cX5_bookAt 21 = .ok (.aload_n 2, 1) := by decide +kernel
theorem dX5_bookAt_22 : decode cX5_bookAt 22 = .ok (.ifnonnull 14, 3) := by decide +kernel
theorem dX5_bookAt_25 : decode cX5_bookAt 25 = .ok (.new 255, 3) := by decide +kernel
theorem dX5_bookAt_28 : decode cX5_bookAt 28 = .ok (.dup, 1) := by decide +kernel
theorem dX5_bookAt_29 : decode cX5_bookAt 29 = .ok (.ldc_w 257, 3) := by decide +kernel
theorem dX5_bookAt_32 : decode cX5_bookAt 32 = .ok (.invokespecial 259, 3) := by decide +kernel
theorem dX5_bookAt_35 : decode cX5_bookAt 35 = .ok (.athrow, 1) := by decide +kernel
theorem dX5_bookAt_36 : decode cX5_bookAt 36 = .ok (.aload_n 2, 1) := by decide +kernel
theorem dX5_bookAt_37 : decode cX5_bookAt 37 = .ok (.areturn, 1) := by decide +kernel
theorem dX5_pageAt_0 : decode cX5_pageAt 0 = .ok (.iload_n 1, 1) := by decide +kernel
theorem dX5_pageAt_1 : decode cX5_pageAt 1 = .ok (.ifCond .lt 12, 3) := by decide +kernel
theorem dX5_pageAt_4 : decode cX5_pageAt 4 = .ok (.iload_n 1, 1) := by decide +kernel
theorem dX5_pageAt_5 : decode cX5_pageAt 5 = .ok (.aload_n 0, 1) := by decide +kernel
theorem dX5_pageAt_6 : decode cX5_pageAt 6 = .ok (.getfield 152, 3) := by decide +kernel
theorem dX5_pageAt_9 : decode cX5_pageAt 9 = .ok (.arraylength, 1) := by decide +kernel
theorem dX5_pageAt_10 : decode cX5_pageAt 10 = .ok (.if_icmp .lt 14, 3) := by decide +kernel
theorem dX5_pageAt_13 : decode cX5_pageAt 13 = .ok (.new 255, 3) := by decide +kernel
theorem dX5_pageAt_16 : decode cX5_pageAt 16 = .ok (.dup, 1) := by decide +kernel
theorem dX5_pageAt_17 : decode cX5_pageAt 17 = .ok (.ldc_w 260, 3) := by decide +kernel
theorem dX5_pageAt_20 : decode cX5_pageAt 20 = .ok (.invokespecial 259, 3) := by decide +kernel
theorem dX5_pageAt_23 : decode cX5_pageAt 23 = .ok (.athrow, 1) := by decide +kernel
theorem dX5_pageAt_24 : decode cX5_pageAt 24 = .ok (.aload_n 0, 1) := by decide +kernel
theorem dX5_pageAt_25 : decode cX5_pageAt 25 = .ok (.getfield 152, 3) := by decide +kernel
theorem dX5_pageAt_28 : decode cX5_pageAt 28 = .ok (.iload_n 1, 1) := by decide +kernel
theorem dX5_pageAt_29 : decode cX5_pageAt 29 = .ok (.aaload, 1) := by decide +kernel
theorem dX5_pageAt_30 : decode cX5_pageAt 30 = .ok (.areturn, 1) := by decide +kernel
theorem dX5_needVault_0 : decode cX5_needVault 0 = .ok (.iload_n 0, 1) := by decide +kernel
theorem dX5_needVault_1 : decode cX5_needVault 1 = .ok (.ifCond .lt 8, 3) := by decide +kernel
theorem dX5_needVault_4 : decode cX5_needVault 4 = .ok (.iload_n 0, 1) := by decide +kernel
theorem dX5_needVault_5 : decode cX5_needVault 5 = .ok (.iconst 4, 1) := by decide +kernel
theorem dX5_needVault_6 : decode cX5_needVault 6 = .ok (.if_icmp .lt 14, 3) := by decide +kernel
theorem dX5_needVault_9 : decode cX5_needVault 9 = .ok (.new 255, 3) := by decide +kernel
theorem dX5_needVault_12 : decode cX5_needVault 12 = .ok (.dup, 1) := by decide +kernel
theorem dX5_needVault_13 : decode cX5_needVault 13 = .ok (.ldc_w 262, 3) := by decide +kernel
theorem dX5_needVault_16 : decode cX5_needVault 16 = .ok (.invokespecial 259, 3) := by decide +kernel
theorem dX5_needVault_19 : decode cX5_needVault 19 = .ok (.athrow, 1) := by decide +kernel
theorem dX5_needVault_20 : decode cX5_needVault 20 = .ok (.return_, 1) := by decide +kernel
theorem dX5_needStandingVault_0 : decode cX5_needStandingVault 0 = .ok (.iload_n 1, 1) := by decide +kernel
theorem dX5_needStandingVault_1 : decode cX5_needStandingVault 1 = .ok (.invokestatic 127, 3) := by decide +kernel
theorem dX5_needStandingVault_4 : decode cX5_needStandingVault 4 = .ok (.aload_n 0, 1) := by decide +kernel
theorem dX5_needStandingVault_5 : decode cX5_needStandingVault 5 = .ok (.getfield 15, 3) := by decide +kernel
theorem dX5_needStandingVault_8 : decode cX5_needStandingVault 8 = .ok (.iload_n 1, 1) := by decide +kernel
theorem dX5_needStandingVault_9 : decode cX5_needStandingVault 9 = .ok (.baload, 1) := by decide +kernel
theorem dX5_needStandingVault_10 : decode cX5_needStandingVault 10 = .ok (.ifCond .eq 14, 3) := by decide +kernel
theorem dX5_needStandingVault_13 : decode cX5_needStandingVault 13 = .ok (.new 61, 3) := by decide +kernel
theorem dX5_needStandingVault_16 : decode cX5_needStandingVault 16 = .ok (.dup, 1) := by decide +kernel
theorem dX5_needStandingVault_17 : decode cX5_needStandingVault 17 = .ok (.ldc_w 264, 3) := by decide +kernel
theorem dX5_needStandingVault_20 : decode cX5_needStandingVault 20 = .ok (.invokespecial 65, 3) := by decide +kernel
theorem dX5_needStandingVault_23 : decode cX5_needStandingVault 23 = .ok (.athrow, 1) := by decide +kernel
theorem dX5_needStandingVault_24 : decode cX5_needStandingVault 24 = .ok (.return_, 1) := by decide +kernel
theorem dX5_needCopy_0 : decode cX5_needCopy 0 = .ok (.aload_n 0, 1) := by decide +kernel
theorem dX5_needCopy_1 : decode cX5_needCopy 1 = .ok (.getfield 266, 3) := by decide +kernel
theorem dX5_needCopy_4 : decode cX5_needCopy 4 = .ok (.iload_n 1, 1) := by decide +kernel
theorem dX5_needCopy_5 : decode cX5_needCopy 5 = .ok (.baload, 1) := by decide +kernel
theorem dX5_needCopy_6 : decode cX5_needCopy 6 = .ok (.ifCond .ne 14, 3) := by decide +kernel
theorem dX5_needCopy_9 : decode cX5_needCopy 9 = .ok (.new 61, 3) := by decide +kernel
theorem dX5_needCopy_12 : decode cX5_needCopy 12 = .ok (.dup, 1) := by decide +kernel
theorem dX5_needCopy_13 : decode cX5_needCopy 13 = .ok (.ldc_w 269, 3) := by decide +kernel
theorem dX5_needCopy_16 : decode cX5_needCopy 16 = .ok (.invokespecial 65, 3) := by decide +kernel
theorem dX5_needCopy_19 : decode cX5_needCopy 19 = .ok (.athrow, 1) := by decide +kernel
theorem dX5_needCopy_20 : decode cX5_needCopy 20 = .ok (.return_, 1) := by decide +kernel
theorem dX5_needPlace_0 : decode cX5_needPlace 0 = .ok (.iload_n 0, 1) := by decide +kernel
theorem dX5_needPlace_1 : decode cX5_needPlace 1 = .ok (.ifCond .lt 8, 3) := by decide +kernel
theorem dX5_needPlace_4 : decode cX5_needPlace 4 = .ok (.iload_n 0, 1) := by decide +kernel
theorem dX5_needPlace_5 : decode cX5_needPlace 5 = .ok (.iconst 4, 1) := by decide +kernel
theorem dX5_needPlace_6 : decode cX5_needPlace 6 = .ok (.if_icmp .lt 14, 3) := by decide +kernel
theorem dX5_needPlace_9 : decode cX5_needPlace 9 = .ok (.new 255, 3) := by decide +kernel
theorem dX5_needPlace_12 : decode cX5_needPlace 12 = .ok (.dup, 1) := by decide +kernel
theorem dX5_needPlace_13 : decode cX5_needPlace 13 = .ok (.ldc_w 271, 3) := by decide +kernel
theorem dX5_needPlace_16 : decode cX5_needPlace 16 = .ok (.invokespecial 259, 3) := by decide +kernel
theorem dX5_needPlace_19 : decode cX5_needPlace 19 = .ok (.athrow, 1) := by decide +kernel
theorem dX5_needPlace_20 : decode cX5_needPlace 20 = .ok (.return_, 1) := by decide +kernel
theorem dX5_needKeyer_0 : decode cX5_needKeyer 0 = .ok (.iload_n 0, 1) := by decide +kernel
theorem dX5_needKeyer_1 : decode cX5_needKeyer 1 = .ok (.ifCond .lt 8, 3) := by decide +kernel
theorem dX5_needKeyer_4 : decode cX5_needKeyer 4 = .ok (.iload_n 0, 1) := by decide +kernel
theorem dX5_needKeyer_5 : decode cX5_needKeyer 5 = .ok (.iconst 5, 1) := by decide +kernel
theorem dX5_needKeyer_6 : decode cX5_needKeyer 6 = .ok (.if_icmp .lt 14, 3) := by decide +kernel
theorem dX5_needKeyer_9 : decode cX5_needKeyer 9 = .ok (.new 255, 3) := by decide +kernel
theorem dX5_needKeyer_12 : decode cX5_needKeyer 12 = .ok (.dup, 1) := by decide +kernel
theorem dX5_needKeyer_13 : decode cX5_needKeyer 13 = .ok (.ldc_w 273, 3) := by decide +kernel
theorem dX5_needKeyer_16 : decode cX5_needKeyer 16 = .ok (.invokespecial 259, 3) := by decide +kernel
theorem dX5_needKeyer_19 : decode cX5_needKeyer 19 = .ok (.athrow, 1) := by decide +kernel
theorem dX5_needKeyer_20 : decode cX5_needKeyer 20 = .ok (.return_, 1) := by decide +kernel
theorem dX5_needLand_0 : decode cX5_needLand 0 = .ok (.iload_n 0, 1) := by decide +kernel
theorem dX5_needLand_1 : decode cX5_needLand 1 = .ok (.ifCond .lt 8, 3) := by decide +kernel
theorem dX5_needLand_4 : decode cX5_needLand 4 = .ok (.iload_n 0, 1) := by decide +kernel
theorem dX5_needLand_5 : decode cX5_needLand 5 = .ok (.iconst 4, 1) := by decide +kernel
theorem dX5_needLand_6 : decode cX5_needLand 6 = .ok (.if_icmp .lt 14, 3) := by decide +kernel
theorem dX5_needLand_9 : decode cX5_needLand 9 = .ok (.new 255, 3) := by decide +kernel
theorem dX5_needLand_12 : decode cX5_needLand 12 = .ok (.dup, 1) := by decide +kernel
theorem dX5_needLand_13 : decode cX5_needLand 13 = .ok (.ldc_w 275, 3) := by decide +kernel
theorem dX5_needLand_16 : decode cX5_needLand 16 = .ok (.invokespecial 259, 3) := by decide +kernel
theorem dX5_needLand_19 : decode cX5_needLand 19 = .ok (.athrow, 1) := by decide +kernel
theorem dX5_needLand_20 : decode cX5_needLand 20 = .ok (.return_, 1) := by decide +kernel
theorem dX5_bookToOrder_0 : decode cX5_bookToOrder 0 = .ok (.aload_n 0, 1) := by decide +kernel
theorem dX5_bookToOrder_1 : decode cX5_bookToOrder 1 = .ok (.iload_n 1, 1) := by decide +kernel
theorem dX5_bookToOrder_2 : decode cX5_bookToOrder 2 = .ok (.invokevirtual 79, 3) := by decide +kernel
theorem dX5_bookToOrder_5 : decode cX5_bookToOrder 5 = .ok (.astore_n 3, 1) := by decide +kernel
theorem dX5_bookToOrder_6 : decode cX5_bookToOrder 6 = .ok (.iload_n 2, 1) := by decide +kernel
theorem dX5_bookToOrder_7 : decode cX5_bookToOrder 7 = .ok (.ifCond .lt 12, 3) := by decide +kernel
theorem dX5_bookToOrder_10 : decode cX5_bookToOrder 10 = .ok (.iload_n 2, 1) := by decide +kernel
theorem dX5_bookToOrder_11 : decode cX5_bookToOrder 11 = .ok (.aload_n 3, 1) := by decide +kernel
theorem dX5_bookToOrder_12 : decode cX5_bookToOrder 12 = .ok (.getfield 152, 3) := by decide +kernel
theorem dX5_bookToOrder_15 : decode cX5_bookToOrder 15 = .ok (.arraylength, 1) := by decide +kernel
theorem dX5_bookToOrder_16 : decode cX5_bookToOrder 16 = .ok (.if_icmp .lt 14, 3) := by decide +kernel
theorem dX5_bookToOrder_19 : decode cX5_bookToOrder 19 = .ok (.new 255, 3) := by decide +kernel
theorem dX5_bookToOrder_22 : decode cX5_bookToOrder 22 = .ok (.dup, 1) := by decide +kernel
theorem dX5_bookToOrder_23 : decode cX5_bookToOrder 23 = .ok (.ldc_w 277, 3) := by decide +kernel
theorem dX5_bookToOrder_26 : decode cX5_bookToOrder 26 = .ok (.invokespecial 259, 3) := by decide +kernel
theorem dX5_bookToOrder_29 : decode cX5_bookToOrder 29 = .ok (.athrow, 1) := by decide +kernel
theorem dX5_bookToOrder_30 : decode cX5_bookToOrder 30 = .ok (.aload_n 3, 1) := by decide +kernel
theorem dX5_bookToOrder_31 : decode cX5_bookToOrder 31 = .ok (.getfield 152, 3) := by decide +kernel
theorem dX5_bookToOrder_34 : decode cX5_bookToOrder 34 = .ok (.arraylength, 1) := by decide +kernel
theorem dX5_bookToOrder_35 : decode cX5_bookToOrder 35 = .ok (.bipush 7, 2) := by decide +kernel
theorem dX5_bookToOrder_37 : decode cX5_bookToOrder 37 = .ok (.if_icmp .le 14, 3) := by decide +kernel
theorem dX5_bookToOrder_40 : decode cX5_bookToOrder 40 = .ok (.new 61, 3) := by decide +kernel
theorem dX5_bookToOrder_43 : decode cX5_bookToOrder 43 = .ok (.dup, 1) := by decide +kernel
theorem dX5_bookToOrder_44 : decode cX5_bookToOrder 44 = .ok (.ldc_w 279, 3) := by decide +kernel
theorem dX5_bookToOrder_47 : decode cX5_bookToOrder 47 = .ok (.invokespecial 65, 3) := by decide +kernel
theorem dX5_bookToOrder_50 : decode cX5_bookToOrder 50 = .ok (.athrow, 1) := by decide +kernel
theorem dX5_bookToOrder_51 : decode cX5_bookToOrder 51 = .ok (.aload_n 3, 1) := by decide +kernel
theorem dX5_bookToOrder_52 : decode cX5_bookToOrder 52 = .ok (.areturn, 1) := by decide +kernel
theorem dX5_trustIn_0 : decode cX5_trustIn 0 = .ok (.iconst 0, 1) := by decide +kernel
theorem dX5_trustIn_1 : decode cX5_trustIn 1 = .ok (.istore_n 2, 1) := by decide +kernel
theorem dX5_trustIn_2 : decode cX5_trustIn 2 = .ok (.iconst 0, 1) := by decide +kernel
theorem dX5_trustIn_3 : decode cX5_trustIn 3 = .ok (.istore_n 3, 1) := by decide +kernel
theorem dX5_trustIn_4 : decode cX5_trustIn 4 = .ok (.aload_n 0, 1) := by decide +kernel
theorem dX5_trustIn_5 : decode cX5_trustIn 5 = .ok (.getfield 11, 3) := by decide +kernel
theorem dX5_trustIn_8 : decode cX5_trustIn 8 = .ok (.astore 4, 2) := by decide +kernel
theorem dX5_trustIn_10 : decode cX5_trustIn 10 = .ok (.aload 4, 2) := by decide +kernel
theorem dX5_trustIn_12 : decode cX5_trustIn 12 = .ok (.arraylength, 1) := by decide +kernel
theorem dX5_trustIn_13 : decode cX5_trustIn 13 = .ok (.istore 5, 2) := by decide +kernel
theorem dX5_trustIn_15 : decode cX5_trustIn 15 = .ok (.iconst 0, 1) := by decide +kernel
theorem dX5_trustIn_16 : decode cX5_trustIn 16 = .ok (.istore 6, 2) := by decide +kernel
theorem dX5_trustIn_18 : decode cX5_trustIn 18 = .ok (.iload 6, 2) := by decide +kernel
theorem dX5_trustIn_20 : decode cX5_trustIn 20 = .ok (.iload 5, 2) := by decide +kernel
theorem dX5_trustIn_22 : decode cX5_trustIn 22 = .ok (.if_icmp .ge 39, 3) := by decide +kernel
theorem dX5_trustIn_25 : decode cX5_trustIn 25 = .ok (.aload 4, 2) := by decide +kernel
theorem dX5_trustIn_27 : decode cX5_trustIn 27 = .ok (.iload 6, 2) := by decide +kernel
theorem dX5_trustIn_29 : decode cX5_trustIn 29 = .ok (.aaload, 1) := by decide +kernel
theorem dX5_trustIn_30 : decode cX5_trustIn 30 = .ok (.astore 7, 2) := by decide +kernel
theorem dX5_trustIn_32 : decode cX5_trustIn 32 = .ok (.aload 7, 2) := by decide +kernel
theorem dX5_trustIn_34 : decode cX5_trustIn 34 = .ok (.ifnull 21, 3) := by decide +kernel
theorem dX5_trustIn_37 : decode cX5_trustIn 37 = .ok (.iload_n 2, 1) := by decide +kernel
theorem dX5_trustIn_38 : decode cX5_trustIn 38 = .ok (.aload 7, 2) := by decide +kernel
theorem dX5_trustIn_40 : decode cX5_trustIn 40 = .ok (.iload_n 1, 1) := by decide +kernel
theorem dX5_trustIn_41 : decode cX5_trustIn 41 = .ok (.invokevirtual 281, 3) := by decide +kernel
theorem dX5_trustIn_44 : decode cX5_trustIn 44 = .ok (.iadd, 1) := by decide +kernel
theorem dX5_trustIn_45 : decode cX5_trustIn 45 = .ok (.istore_n 2, 1) := by decide +kernel
theorem dX5_trustIn_46 : decode cX5_trustIn 46 = .ok (.iload_n 3, 1) := by decide +kernel
theorem dX5_trustIn_47 : decode cX5_trustIn 47 = .ok (.aload 7, 2) := by decide +kernel
theorem dX5_trustIn_49 : decode cX5_trustIn 49 = .ok (.iload_n 1, 1) := by decide +kernel
theorem dX5_trustIn_50 : decode cX5_trustIn 50 = .ok (.invokevirtual 284, 3) := by decide +kernel
theorem dX5_trustIn_53 : decode cX5_trustIn 53 = .ok (.iadd, 1) := by decide +kernel
theorem dX5_trustIn_54 : decode cX5_trustIn 54 = .ok (.istore_n 3, 1) := by decide +kernel
theorem dX5_trustIn_55 : decode cX5_trustIn 55 = .ok (.iinc 6 1, 3) := by decide +kernel
theorem dX5_trustIn_58 : decode cX5_trustIn 58 = .ok (.goto (-40), 3) := by decide +kernel
theorem dX5_trustIn_61 : decode cX5_trustIn 61 = .ok (.iload_n 2, 1) := by decide +kernel
theorem dX5_trustIn_62 : decode cX5_trustIn 62 = .ok (.ifCond .ne 8, 3) := by decide +kernel
theorem dX5_trustIn_65 : decode cX5_trustIn 65 = .ok (.bipush 50, 2) := by decide +kernel
theorem dX5_trustIn_67 : decode cX5_trustIn 67 = .ok (.goto 9, 3) := by decide +kernel
theorem dX5_trustIn_70 : decode cX5_trustIn 70 = .ok (.bipush 100, 2) := by decide +kernel
theorem dX5_trustIn_72 : decode cX5_trustIn 72 = .ok (.iload_n 3, 1) := by decide +kernel
theorem dX5_trustIn_73 : decode cX5_trustIn 73 = .ok (.imul, 1) := by decide +kernel
theorem dX5_trustIn_74 : decode cX5_trustIn 74 = .ok (.iload_n 2, 1) := by decide +kernel
theorem dX5_trustIn_75 : decode cX5_trustIn 75 = .ok (.idiv, 1) := by decide +kernel
theorem dX5_trustIn_76 : decode cX5_trustIn 76 = .ok (.ireturn, 1) := by decide +kernel
theorem dX5_weighLetters_0 : decode cX5_weighLetters 0 = .ok (.aload_n 0, 1) := by decide +kernel
theorem dX5_weighLetters_1 : decode cX5_weighLetters 1 = .ok (.getfield 36, 3) := by decide +kernel
theorem dX5_weighLetters_4 : decode cX5_weighLetters 4 = .ok (.invokevirtual 287, 3) := by decide +kernel
theorem dX5_weighLetters_7 : decode cX5_weighLetters 7 = .ok (.iconst 0, 1) := by decide +kernel
theorem dX5_weighLetters_8 : decode cX5_weighLetters 8 = .ok (.istore_n 3, 1) := by decide +kernel
theorem dX5_weighLetters_9 : decode cX5_weighLetters 9 = .ok (.iload_n 3, 1) := by decide +kernel
theorem dX5_weighLetters_10 : decode cX5_weighLetters 10 = .ok (.iconst 5, 1) := by decide +kernel
theorem dX5_weighLetters_11 : decode cX5_weighLetters 11 = .ok (.if_icmp .ge 39, 3) := by decide +kernel
theorem dX5_weighLetters_14 : decode cX5_weighLetters 14 = .ok (.aload_n 1, 1) := by decide +kernel
theorem dX5_weighLetters_15 : decode cX5_weighLetters 15 = .ok (.getfield 206, 3) := by decide +kernel
theorem dX5_weighLetters_18 : decode cX5_weighLetters 18 = .ok (.iload_n 3, 1) := by decide +kernel
theorem dX5_weighLetters_19 : decode cX5_weighLetters 19 = .ok (.aaload, 1) := by decide +kernel
theorem dX5_weighLetters_20 : decode cX5_weighLetters 20 = .ok (.iload_n 2, 1) := by decide +kernel
theorem dX5_weighLetters_21 : decode cX5_weighLetters 21 = .ok (.iaload, 1) := by decide +kernel
theorem dX5_weighLetters_22 : decode cX5_weighLetters 22 = .ok (.istore 4, 2) := by decide +kernel
theorem dX5_weighLetters_24 : decode cX5_weighLetters 24 = .ok (.iload 4, 2) := by decide +kernel
theorem dX5_weighLetters_26 : decode cX5_weighLetters 26 = .ok (.iconst (-1), 1) := by decide +kernel
theorem dX5_weighLetters_27 : decode cX5_weighLetters 27 = .ok (.if_icmp .eq 17, 3) := by decide +kernel
theorem dX5_weighLetters_30 : decode cX5_weighLetters 30 = .ok (.aload_n 0, 1) := by decide +kernel
theorem dX5_weighLetters_31 : decode cX5_weighLetters 31 = .ok (.getfield 36, 3) := by decide +kernel
theorem dX5_weighLetters_34 : decode cX5_weighLetters 34 = .ok (.iload 4, 2) := by decide +kernel
theorem dX5_weighLetters_36 : decode cX5_weighLetters 36 = .ok (.aload_n 0, 1) := by decide +kernel
theorem dX5_weighLetters_37 : decode cX5_weighLetters 37 = .ok (.iload_n 3, 1) := by decide +kernel
theorem dX5_weighLetters_38 : decode cX5_weighLetters 38 = .ok (.invokevirtual 210, 3) := by decide +kernel
theorem dX5_weighLetters_41 : decode cX5_weighLetters 41 = .ok (.invokevirtual 290, 3) := by decide +kernel
theorem dX5_weighLetters_44 : decode cX5_weighLetters 44 = .ok (.iinc 3 1, 3) := by decide +kernel
theorem dX5_weighLetters_47 : decode cX5_weighLetters 47 = .ok (.goto (-38), 3) := by decide +kernel
theorem dX5_weighLetters_50 : decode cX5_weighLetters 50 = .ok (.return_, 1) := by decide +kernel
theorem dJ9_max_7cf53_0 : decode cJ9_max_7cf53 0 = .ok (.iload_n 0, 1) := by decide +kernel
theorem dJ9_max_7cf53_1 : decode cJ9_max_7cf53 1 = .ok (.iload_n 1, 1) := by decide +kernel
theorem dJ9_max_7cf53_2 : decode cJ9_max_7cf53 2 = .ok (.if_icmp .lt 7, 3) := by decide +kernel
theorem dJ9_max_7cf53_5 : decode cJ9_max_7cf53 5 = .ok (.iload_n 0, 1) := by decide +kernel
theorem dJ9_max_7cf53_6 : decode cJ9_max_7cf53 6 = .ok (.goto 4, 3) := by decide +kernel
theorem dJ9_max_7cf53_9 : decode cJ9_max_7cf53 9 = .ok (.iload_n 1, 1) := by decide +kernel
theorem dJ9_max_7cf53_10 : decode cJ9_max_7cf53 10 = .ok (.ireturn, 1) := by decide +kernel
theorem dJ7_fill_53178_0 : decode cJ7_fill_53178 0 = .ok (.iconst 0, 1) := by decide +kernel
theorem dJ7_fill_53178_1 : decode cJ7_fill_53178 1 = .ok (.istore_n 2, 1) := by decide +kernel
theorem dJ7_fill_53178_2 : decode cJ7_fill_53178 2 = .ok (.aload_n 0, 1) := by decide +kernel
theorem dJ7_fill_53178_3 : decode cJ7_fill_53178 3 = .ok (.arraylength, 1) := by decide +kernel
theorem dJ7_fill_53178_4 : decode cJ7_fill_53178 4 = .ok (.istore_n 3, 1) := by decide +kernel
theorem dJ7_fill_53178_5 : decode cJ7_fill_53178 5 = .ok (.iload_n 2, 1) := by decide +kernel
theorem dJ7_fill_53178_6 : decode cJ7_fill_53178 6 = .ok (.iload_n 3, 1) := by decide +kernel
theorem dJ7_fill_53178_7 : decode cJ7_fill_53178 7 = .ok (.if_icmp .ge 13, 3) := by decide +kernel
theorem dJ7_fill_53178_10 : decode cJ7_fill_53178 10 = .ok (.aload_n 0, 1) := by decide +kernel
theorem dJ7_fill_53178_11 : decode cJ7_fill_53178 11 = .ok (.iload_n 2, 1) := by decide +kernel
theorem dJ7_fill_53178_12 : decode cJ7_fill_53178 12 = .ok (.iload_n 1, 1) := by decide +kernel
theorem dJ7_fill_53178_13 : decode cJ7_fill_53178 13 = .ok (.iastore, 1) := by decide +kernel
theorem dJ7_fill_53178_14 : decode cJ7_fill_53178 14 = .ok (.iinc 2 1, 3) := by decide +kernel
theorem dJ7_fill_53178_17 : decode cJ7_fill_53178 17 = .ok (.goto (-12), 3) := by decide +kernel
theorem dJ7_fill_53178_20 : decode cJ7_fill_53178 20 = .ok (.return_, 1) := by decide +kernel
