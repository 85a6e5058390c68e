theorem dX0_init_0 : decode cX0_init 0 = .ok (.aload_n 0, 1) := by decide +kernel
theorem dX0_init_1 : decode cX0_init 1 = .ok (.invokespecial 3, 3) := by decide +kernel
theorem dX0_init_4 : decode cX0_init 4 = .ok (.aload_n 0, 1) := by decide +kernel
theorem dX0_init_5 : decode cX0_init 5 = .ok (.sipush 264, 3) := by decide +kernel
theorem dX0_init_8 : decode cX0_init 8 = .ok (.newarray .int, 2) := by decide +kernel
theorem dX0_init_10 : decode cX0_init 10 = .ok (.putfield 9, 3) := by decide +kernel
theorem dX0_init_13 : decode cX0_init 13 = .ok (.aload_n 0, 1) := by decide +kernel
theorem dX0_init_14 : decode cX0_init 14 = .ok (.sipush 264, 3) := by decide +kernel
theorem dX0_init_17 : decode cX0_init 17 = .ok (.newarray .int, 2) := by decide +kernel
theorem dX0_init_19 : decode cX0_init 19 = .ok (.putfield 15, 3) := by decide +kernel
theorem dX0_init_22 : decode cX0_init 22 = .ok (.aload_n 0, 1) := by decide +kernel
theorem dX0_init_23 : decode cX0_init 23 = .ok (.sipush 264, 3) := by decide +kernel
theorem dX0_init_26 : decode cX0_init 26 = .ok (.newarray .int, 2) := by decide +kernel
theorem dX0_init_28 : decode cX0_init 28 = .ok (.putfield 18, 3) := by decide +kernel
theorem dX0_init_31 : decode cX0_init 31 = .ok (.aload_n 0, 1) := by decide +kernel
theorem dX0_init_32 : decode cX0_init 32 = .ok (.sipush 264, 3) := by decide +kernel
theorem dX0_init_35 : decode cX0_init 35 = .ok (.newarray .int, 2) := by decide +kernel
theorem dX0_init_37 : decode cX0_init 37 = .ok (.putfield 21, 3) := by decide +kernel
theorem dX0_init_40 : decode cX0_init 40 = .ok (.aload_n 0, 1) := by decide +kernel
theorem dX0_init_41 : decode cX0_init 41 = .ok (.iconst 0, 1) := by decide +kernel
theorem dX0_init_42 : decode cX0_init 42 = .ok (.putfield 24, 3) := by decide +kernel
theorem dX0_init_45 : decode cX0_init 45 = .ok (.return_, 1) := by decide +kernel
theorem dX0_copyFrom_0 : decode cX0_copyFrom 0 = .ok (.aload_n 0, 1) := by decide +kernel
theorem dX0_copyFrom_1 : decode cX0_copyFrom 1 = .ok (.aload_n 1, 1) := by decide +kernel
theorem dX0_copyFrom_2 : decode cX0_copyFrom 2 = .ok (.getfield 24, 3) := by decide +kernel
theorem dX0_copyFrom_5 : decode cX0_copyFrom 5 = .ok (.putfield 24, 3) := by decide +kernel
theorem dX0_copyFrom_8 : decode cX0_copyFrom 8 = .ok (.aload_n 1, 1) := by decide +kernel
theorem dX0_copyFrom_9 : decode cX0_copyFrom 9 = .ok (.getfield 9, 3) := by decide +kernel
theorem dX0_copyFrom_12 : decode cX0_copyFrom 12 = .ok (.iconst 0, 1) := by decide +kernel
theorem dX0_copyFrom_13 : decode cX0_copyFrom 13 = .ok (.aload_n 0, 1) := by decide +kernel
theorem dX0_copyFrom_14 : decode cX0_copyFrom 14 = .ok (.getfield 9, 3) := by decide +kernel
theorem dX0_copyFrom_17 : decode cX0_copyFrom 17 = .ok (.iconst 0, 1) := by decide +kernel
theorem dX0_copyFrom_18 : decode cX0_copyFrom 18 = .ok (.aload_n 0, 1) := by decide +kernel
theorem dX0_copyFrom_19 : decode cX0_copyFrom 19 = .ok (.getfield 24, 3) := by decide +kernel
theorem dX0_copyFrom_22 : decode cX0_copyFrom 22 = .ok (.invokestatic 28, 3) := by decide +kernel
theorem dX0_copyFrom_25 : decode cX0_copyFrom 25 = .ok (.aload_n 1, 1) := by decide +kernel
theorem dX0_copyFrom_26 : decode cX0_copyFrom 26 = .ok (.getfield 15, 3) := by decide +kernel
theorem dX0_copyFrom_29 : decode cX0_copyFrom 29 = .ok (.iconst 0, 1) := by decide +kernel
theorem dX0_copyFrom_30 : decode cX0_copyFrom 30 = .ok (.aload_n 0, 1) := by decide +kernel
theorem dX0_copyFrom_31 : decode cX0_copyFrom 31 = .ok (.getfield 15, 3) := by decide +kernel
theorem dX0_copyFrom_34 : decode cX0_copyFrom 34 = .ok (.iconst 0, 1) := by decide +kernel
theorem dX0_copyFrom_35 : decode cX0_copyFrom 35 = .ok (.aload_n 0, 1) := by decide +kernel
theorem dX0_copyFrom_36 : decode cX0_copyFrom 36 = .ok (.getfield 24, 3) := by decide +kernel
theorem dX0_copyFrom_39 : decode cX0_copyFrom 39 = .ok (.invokestatic 28, 3) := by decide +kernel
theorem dX0_copyFrom_42 : decode cX0_copyFrom 42 = .ok (.aload_n 1, 1) := by decide +kernel
theorem dX0_copyFrom_43 : decode cX0_copyFrom 43 = .ok (.getfield 18, 3) := by decide +kernel
theorem dX0_copyFrom_46 : decode cX0_copyFrom 46 = .ok (.iconst 0, 1) := by decide +kernel
theorem dX0_copyFrom_47 : decode cX0_copyFrom 47 = .ok (.aload_n 0, 1) := by decide +kernel
theorem dX0_copyFrom_48 : decode cX0_copyFrom 48 = .ok (.getfield 18, 3) := by decide +kernel
theorem dX0_copyFrom_51 : decode cX0_copyFrom 51 = .ok (.iconst 0, 1) := by decide +kernel
theorem dX0_copyFrom_52 : decode cX0_copyFrom 52 = .ok (.aload_n 0, 1) := by decide +kernel
theorem dX0_copyFrom_53 : decode cX0_copyFrom 53 = .ok (.getfield 24, 3) := by decide +kernel
theorem dX0_copyFrom_56 : decode cX0_copyFrom 56 = .ok (.invokestatic 28, 3) := by decide +kernel
theorem dX0_copyFrom_59 : decode cX0_copyFrom 59 = .ok (.aload_n 1, 1) := by decide +kernel
theorem dX0_copyFrom_60 : decode cX0_copyFrom 60 = .ok (.getfield 21, 3) := by decide +kernel
theorem dX0_copyFrom_63 : decode cX0_copyFrom 63 = .ok (.iconst 0, 1) := by decide +kernel
theorem dX0_copyFrom_64 : decode cX0_copyFrom 64 = .ok (.aload_n 0, 1) := by decide +kernel
theorem dX0_copyFrom_65 : decode cX0_copyFrom 65 = .ok (.getfield 21, 3) := by decide +kernel
theorem dX0_copyFrom_68 : decode cX0_copyFrom 68 = .ok (.iconst 0, 1) := by decide +kernel
theorem dX0_copyFrom_69 : decode cX0_copyFrom 69 = .ok (.aload_n 0, 1) := by decide +kernel
theorem dX0_copyFrom_70 : decode cX0_copyFrom 70 = .ok (.getfield 24, 3) := by decide +kernel
theorem dX0_copyFrom_73 : decode cX0_copyFrom 73 = .ok (.invokestatic 28, 3) := by decide +kernel
theorem dX0_copyFrom_76 : decode cX0_copyFrom 76 = .ok (.return_, 1) := by decide +kernel
theorem dX0_append_0 : decode cX0_append 0 = .ok (.aload_n 0, 1) := by decide +kernel
theorem dX0_append_1 : decode cX0_append 1 = .ok (.getfield 24, 3) := by decide +kernel
theorem dX0_append_4 : decode cX0_append 4 = .ok (.sipush 264, 3) := by decide +kernel
theorem dX0_append_7 : decode cX0_append 7 = .ok (.if_icmp .ge 57, 3) := by decide +kernel
theorem dX0_append_10 : decode cX0_append 10 = .ok (.aload_n 0, 1) := by decide +kernel
theorem dX0_append_11 : decode cX0_append 11 = .ok (.getfield 9, 3) := by decide +kernel
theorem dX0_append_14 : decode cX0_append 14 = .ok (.aload_n 0, 1) := by decide +kernel
theorem dX0_append_15 : decode cX0_append 15 = .ok (.getfield 24, 3) := by decide +kernel
theorem dX0_append_18 : decode cX0_append 18 = .ok (.iload_n 1, 1) := by decide +kernel
theorem dX0_append_19 : decode cX0_append 19 = .ok (.iastore, 1) := by decide +kernel
theorem dX0_append_20 : decode cX0_append 20 = .ok (.aload_n 0, 1) := by decide +kernel
theorem dX0_append_21 : decode cX0_append 21 = .ok (.getfield 15, 3) := by decide +kernel
theorem dX0_append_24 : decode cX0_append 24 = .ok (.aload_n 0, 1) := by decide +kernel
theorem dX0_append_25 : decode cX0_append 25 = .ok (.getfield 24, 3) := by decide +kernel
theorem dX0_append_28 : decode cX0_append 28 = .ok (.iload_n 2, 1) := by decide +kernel
theorem dX0_append_29 : decode cX0_append 29 = .ok (.iastore, 1) := by decide +kernel
theorem dX0_append_30 : decode cX0_append 30 = .ok (.aload_n 0, 1) := by decide +kernel
theorem dX0_append_31 : decode cX0_append 31 = .ok (.getfield 18, 3) := by decide +kernel
theorem dX0_append_34 : decode cX0_append 34 = .ok (.aload_n 0, 1) := by decide +kernel
theorem dX0_append_35 : decode cX0_append 35 = .ok (.getfield 24, 3) := by decide +kernel
theorem dX0_append_38 : decode cX0_append 38 = .ok (.iload_n 3, 1) := by decide +kernel
theorem dX0_append_39 : decode cX0_append 39 = .ok (.iastore, 1) := by decide +kernel
theorem dX0_append_40 : decode cX0_append 40 = .ok (.aload_n 0, 1) := by decide +kernel
theorem dX0_append_41 : decode cX0_append 41 = .ok (.getfield 21, 3) := by decide +kernel
theorem dX0_append_44 : decode cX0_append 44 = .ok (.aload_n 0, 1) := by decide +kernel
theorem dX0_append_45 : decode cX0_append 45 = .ok (.getfield 24, 3) := by decide +kernel
theorem dX0_append_48 : decode cX0_append 48 = .ok (.iload 4, 2) := by decide +kernel
theorem dX0_append_50 : decode cX0_append 50 = .ok (.invokestatic 34, 3) := by decide +kernel
theorem dX0_append_53 : decode cX0_append 53 = .ok (.iastore, 1) := by decide +kernel
theorem dX0_append_54 : decode cX0_append 54 = .ok (.aload_n 0, 1) := by decide +kernel
theorem dX0_append_55 : decode cX0_append 55 = .ok (.dup, 1) := by decide +kernel
theorem dX0_append_56 : decode cX0_append 56 = .ok (.getfield 24, 3) := by decide +kernel
theorem dX0_append_59 : decode cX0_append 59 = .ok (.iconst 1, 1) := by decide +kernel
theorem dX0_append_60 : decode cX0_append 60 = .ok (.iadd, 1) := by decide +kernel
theorem dX0_append_61 : decode cX0_append 61 = .ok (.putfield 24, 3) := by decide +kernel
theorem dX0_append_64 : decode cX0_append 64 = .ok (.return_, 1) := by decide +kernel
theorem dX0_indexAt_0 : decode cX0_indexAt 0 = .ok (.iconst 1, 1) := by decide +kernel
theorem dX0_indexAt_1 : decode cX0_indexAt 1 = .ok (.iload_n 1, 1) := by decide +kernel
theorem dX0_indexAt_2 : decode cX0_indexAt 2 = .ok (.ishl, 1) := by decide +kernel
theorem dX0_indexAt_3 : decode cX0_indexAt 3 = .ok (.istore_n 3, 1) := by decide +kernel
theorem dX0_indexAt_4 : decode cX0_indexAt 4 = .ok (.iconst 0, 1) := by decide +kernel
theorem dX0_indexAt_5 : decode cX0_indexAt 5 = .ok (.istore 4, 2) := by decide +kernel
theorem dX0_indexAt_7 : decode cX0_indexAt 7 = .ok (.iload 4, 2) := by decide +kernel
theorem dX0_indexAt_9 : decode cX0_indexAt 9 = .ok (.aload_n 0, 1) := by decide +kernel
theorem dX0_indexAt_10 : decode cX0_indexAt 10 = .ok (.getfield 24, 3) := by decide +kernel
theorem dX0_indexAt_13 : decode cX0_indexAt 13 = .ok (.if_icmp .ge 35, 3) := by decide +kernel
theorem dX0_indexAt_16 : decode cX0_indexAt 16 = .ok (.aload_n 0, 1) := by decide +kernel
theorem dX0_indexAt_17 : decode cX0_indexAt 17 = .ok (.getfield 18, 3) := by decide +kernel
theorem dX0_indexAt_20 : decode cX0_indexAt 20 = .ok (.iload 4, 2) := by decide +kernel
theorem dX0_indexAt_22 : decode cX0_indexAt 22 = .ok (.iaload, 1) := by decide +kernel
theorem dX0_indexAt_23 : decode cX0_indexAt 23 = .ok (.iload_n 2, 1) := by decide +kernel
theorem dX0_indexAt_24 : decode cX0_indexAt 24 = .ok (.if_icmp .ne 18, 3) := by decide +kernel
theorem dX0_indexAt_27 : decode cX0_indexAt 27 = .ok (.aload_n 0, 1) := by decide +kernel
theorem dX0_indexAt_28 : decode cX0_indexAt 28 = .ok (.getfield 21, 3) := by decide +kernel
theorem dX0_indexAt_31 : decode cX0_indexAt 31 = .ok (.iload 4, 2) := by decide +kernel
theorem dX0_indexAt_33 : decode cX0_indexAt 33 = .ok (.iaload, 1) := by decide +kernel
theorem dX0_indexAt_34 : decode cX0_indexAt 34 = .ok (.iload_n 3, 1) := by decide +kernel
theorem dX0_indexAt_35 : decode cX0_indexAt 35 = .ok (.iand, 1) := by decide +kernel
theorem dX0_indexAt_36 : decode cX0_indexAt 36 = .ok (.ifCond .eq 6, 3) := by decide +kernel
theorem dX0_indexAt_39 : decode cX0_indexAt 39 = .ok (.iload 4, 2) := by decide +kernel
theorem dX0_indexAt_41 : decode cX0_indexAt 41 = .ok (.ireturn, 1) := by decide +kernel
theorem dX0_indexAt_42 : decode cX0_indexAt 42 = .ok (.iinc 4 1, 3) := by decide +kernel
theorem dX0_indexAt_45 : decode cX0_indexAt 45 = .ok (.goto (-38), 3) := by decide +kernel
theorem dX0_indexAt_48 : decode cX0_indexAt 48 = .ok (.iconst (-1), 1) := by decide +kernel
theorem dX0_indexAt_49 : decode cX0_indexAt 49 = .ok (.ireturn, 1) := by decide +kernel
theorem dX0_indexOfBirth_0 : decode cX0_indexOfBirth 0 = .ok (.iconst 0, 1) := by decide +kernel
theorem dX0_indexOfBirth_1 : decode cX0_indexOfBirth 1 = .ok (.istore_n 2, 1) := by decide +kernel
theorem dX0_indexOfBirth_2 : decode cX0_indexOfBirth 2 = .ok (.iload_n 2, 1) := by decide +kernel
theorem dX0_indexOfBirth_3 : decode cX0_indexOfBirth 3 = .ok (.aload_n 0, 1) := by decide +kernel
theorem dX0_indexOfBirth_4 : decode cX0_indexOfBirth 4 = .ok (.getfield 24, 3) := by decide +kernel
theorem dX0_indexOfBirth_7 : decode cX0_indexOfBirth 7 = .ok (.if_icmp .ge 21, 3) := by decide +kernel
theorem dX0_indexOfBirth_10 : decode cX0_indexOfBirth 10 = .ok (.aload_n 0, 1) := by decide +kernel
theorem dX0_indexOfBirth_11 : decode cX0_indexOfBirth 11 = .ok (.getfield 9, 3) := by decide +kernel
theorem dX0_indexOfBirth_14 : decode cX0_indexOfBirth 14 = .ok (.iload_n 2, 1) := by decide +kernel
theorem dX0_indexOfBirth_15 : decode cX0_indexOfBirth 15 = .ok (.iaload, 1) := by decide +kernel
theorem dX0_indexOfBirth_16 : decode cX0_indexOfBirth 16 = .ok (.iload_n 1, 1) := by decide +kernel
theorem dX0_indexOfBirth_17 : decode cX0_indexOfBirth 17 = .ok (.if_icmp .ne 5, 3) := by decide +kernel
theorem dX0_indexOfBirth_20 : decode cX0_indexOfBirth 20 = .ok (.iload_n 2, 1) := by decide +kernel
theorem dX0_indexOfBirth_21 : decode cX0_indexOfBirth 21 = .ok (.ireturn, 1) := by decide +kernel
theorem dX0_indexOfBirth_22 : decode cX0_indexOfBirth 22 = .ok (.iinc 2 1, 3) := by decide +kernel
theorem dX0_indexOfBirth_25 : decode cX0_indexOfBirth 25 = .ok (.goto (-23), 3) := by decide +kernel
theorem dX0_indexOfBirth_28 : decode cX0_indexOfBirth 28 = .ok (.iconst (-1), 1) := by decide +kernel
theorem dX0_indexOfBirth_29 : decode cX0_indexOfBirth 29 = .ok (.ireturn, 1) := by decide +kernel
theorem dX0_ownersAt_0 : decode cX0_ownersAt 0 = .ok (.iconst 0, 1) := by decide +kernel
theorem dX0_ownersAt_1 : decode cX0_ownersAt 1 = .ok (.istore_n 2, 1) := by decide +kernel
theorem dX0_ownersAt_2 : decode cX0_ownersAt 2 = .ok (.iconst 0, 1) := by decide +kernel
theorem dX0_ownersAt_3 : decode cX0_ownersAt 3 = .ok (.istore_n 3, 1) := by decide +kernel
theorem dX0_ownersAt_4 : decode cX0_ownersAt 4 = .ok (.iload_n 3, 1) := by decide +kernel
theorem dX0_ownersAt_5 : decode cX0_ownersAt 5 = .ok (.aload_n 0, 1) := by decide +kernel
theorem dX0_ownersAt_6 : decode cX0_ownersAt 6 = .ok (.getfield 24, 3) := by decide +kernel
theorem dX0_ownersAt_9 : decode cX0_ownersAt 9 = .ok (.if_icmp .ge 28, 3) := by decide +kernel
theorem dX0_ownersAt_12 : decode cX0_ownersAt 12 = .ok (.aload_n 0, 1) := by decide +kernel
theorem dX0_ownersAt_13 : decode cX0_ownersAt 13 = .ok (.getfield 18, 3) := by decide +kernel
theorem dX0_ownersAt_16 : decode cX0_ownersAt 16 = .ok (.iload_n 3, 1) := by decide +kernel
theorem dX0_ownersAt_17 : decode cX0_ownersAt 17 = .ok (.iaload, 1) := by decide +kernel
theorem dX0_ownersAt_18 : decode cX0_ownersAt 18 = .ok (.iload_n 1, 1) := by decide +kernel
theorem dX0_ownersAt_19 : decode cX0_ownersAt 19 = .ok (.if_icmp .ne 12, 3) := by decide +kernel
theorem dX0_ownersAt_22 : decode cX0_ownersAt 22 = .ok (.iload_n 2, 1) := by decide +kernel
theorem dX0_ownersAt_23 : decode cX0_ownersAt 23 = .ok (.aload_n 0, 1) := by decide +kernel
theorem dX0_ownersAt_24 : decode cX0_ownersAt 24 = .ok (.getfield 21, 3) := by decide +kernel
theorem dX0_ownersAt_27 : decode cX0_ownersAt 27 = .ok (.iload_n 3, 1) := by decide +kernel
theorem dX0_ownersAt_28 : decode cX0_ownersAt 28 = .ok (.iaload, 1) := by decide +kernel
theorem dX0_ownersAt_29 : decode cX0_ownersAt 29 = .ok (.ior, 1) := by decide +kernel
theorem dX0_ownersAt_30 : decode cX0_ownersAt 30 = .ok (.istore_n 2, 1) := by decide +kernel
theorem dX0_ownersAt_31 : decode cX0_ownersAt 31 = .ok (.iinc 3 1, 3) := by decide +kernel
theorem dX0_ownersAt_34 : decode cX0_ownersAt 34 = .ok (.goto (-30), 3) := by decide +kernel
theorem dX0_ownersAt_37 : decode cX0_ownersAt 37 = .ok (.iload_n 2, 1) := by decide +kernel
theorem dX0_ownersAt_38 : decode cX0_ownersAt 38 = .ok (.ireturn, 1) := by decide +kernel
theorem dX0_fits_0 : decode cX0_fits 0 = .ok (.aload_n 0, 1) := by decide +kernel
theorem dX0_fits_1 : decode cX0_fits 1 = .ok (.getfield 21, 3) := by decide +kernel
theorem dX0_fits_4 : decode cX0_fits 4 = .ok (.iload_n 1, 1) := by decide +kernel
theorem dX0_fits_5 : decode cX0_fits 5 = .ok (.iaload, 1) := by decide +kernel
theorem dX0_fits_6 : decode cX0_fits 6 = .ok (.iload_n 2, 1) := by decide +kernel
theorem dX0_fits_7 : decode cX0_fits 7 = .ok (.iand, 1) := by decide +kernel
theorem dX0_fits_8 : decode cX0_fits 8 = .ok (.iload_n 2, 1) := by decide +kernel
theorem dX0_fits_9 : decode cX0_fits 9 = .ok (.if_icmp .ne 18, 3) := by decide +kernel
theorem dX0_fits_12 : decode cX0_fits 12 = .ok (.aload_n 0, 1) := by decide +kernel
theorem dX0_fits_13 : decode cX0_fits 13 = .ok (.getfield 21, 3) := by decide +kernel
theorem dX0_fits_16 : decode cX0_fits 16 = .ok (.iload_n 1, 1) := by decide +kernel
theorem dX0_fits_17 : decode cX0_fits 17 = .ok (.iaload, 1) := by decide +kernel
theorem dX0_fits_18 : decode cX0_fits 18 = .ok (.iload_n 3, 1) := by decide +kernel
theorem dX0_fits_19 : decode cX0_fits 19 = .ok (.iand, 1) := by decide +kernel
theorem dX0_fits_20 : decode cX0_fits 20 = .ok (.ifCond .ne 7, 3) := by decide +kernel
theorem dX0_fits_23 : decode cX0_fits 23 = .ok (.iconst 1, 1) := by decide +kernel
theorem dX0_fits_24 : decode cX0_fits 24 = .ok (.goto 4, 3) := by decide +kernel
theorem dX0_fits_27 : decode cX0_fits 27 = .ok (.iconst 0, 1) := by decide +kernel
theorem dX0_fits_28 : decode cX0_fits 28 = .ok (.ireturn, 1) := by decide +kernel
theorem dX0_unitsWhere_0 : decode cX0_unitsWhere 0 = .ok (.iconst 0, 1) := by decide +kernel
theorem dX0_unitsWhere_1 : decode cX0_unitsWhere 1 = .ok (.istore 4, 2) := by decide +kernel
theorem dX0_unitsWhere_3 : decode cX0_unitsWhere 3 = .ok (.iconst 0, 1) := by decide +kernel
theorem dX0_unitsWhere_4 : decode cX0_unitsWhere 4 = .ok (.istore 5, 2) := by decide +kernel
theorem dX0_unitsWhere_6 : decode cX0_unitsWhere 6 = .ok (.iload 5, 2) := by decide +kernel
theorem dX0_unitsWhere_8 : decode cX0_unitsWhere 8 = .ok (.aload_n 0, 1) := by decide +kernel
theorem dX0_unitsWhere_9 : decode cX0_unitsWhere 9 = .ok (.getfield 24, 3) := by decide +kernel
theorem dX0_unitsWhere_12 : decode cX0_unitsWhere 12 = .ok (.if_icmp .ge 43, 3) := by decide +kernel
theorem dX0_unitsWhere_15 : decode cX0_unitsWhere 15 = .ok (.aload_n 0, 1) := by decide +kernel
theorem dX0_unitsWhere_16 : decode cX0_unitsWhere 16 = .ok (.getfield 9, 3) := by decide +kernel
theorem dX0_unitsWhere_19 : decode cX0_unitsWhere 19 = .ok (.iload 5, 2) := by decide +kernel
theorem dX0_unitsWhere_21 : decode cX0_unitsWhere 21 = .ok (.iaload, 1) := by decide +kernel
theorem dX0_unitsWhere_22 : decode cX0_unitsWhere 22 = .ok (.iload_n 3, 1) := by decide +kernel
theorem dX0_unitsWhere_23 : decode cX0_unitsWhere 23 = .ok (.if_icmp .le 26, 3) := by decide +kernel
theorem dX0_unitsWhere_26 : decode cX0_unitsWhere 26 = .ok (.aload_n 0, 1) := by decide +kernel
theorem dX0_unitsWhere_27 : decode cX0_unitsWhere 27 = .ok (.iload 5, 2) := by decide +kernel
theorem dX0_unitsWhere_29 : decode cX0_unitsWhere 29 = .ok (.iload_n 1, 1) := by decide +kernel
theorem dX0_unitsWhere_30 : decode cX0_unitsWhere 30 = .ok (.iload_n 2, 1) := by decide +kernel
theorem dX0_unitsWhere_31 : decode cX0_unitsWhere 31 = .ok (.invokevirtual 38, 3) := by decide +kernel
theorem dX0_unitsWhere_34 : decode cX0_unitsWhere 34 = .ok (.ifCond .eq 15, 3) := by decide +kernel
theorem dX0_unitsWhere_37 : decode cX0_unitsWhere 37 = .ok (.iload 4, 2) := by decide +kernel
theorem dX0_unitsWhere_39 : decode cX0_unitsWhere 39 = .ok (.aload_n 0, 1) := by decide +kernel
theorem dX0_unitsWhere_40 : decode cX0_unitsWhere 40 = .ok (.getfield 15, 3) := by decide +kernel
theorem dX0_unitsWhere_43 : decode cX0_unitsWhere 43 = .ok (.iload 5, 2) := by decide +kernel
theorem dX0_unitsWhere_45 : decode cX0_unitsWhere 45 = .ok (.iaload, 1) := by decide +kernel
theorem dX0_unitsWhere_46 : decode cX0_unitsWhere 46 = .ok (.iadd, 1) := by decide +kernel
theorem dX0_unitsWhere_47 : decode cX0_unitsWhere 47 = .ok (.istore 4, 2) := by decide +kernel
theorem dX0_unitsWhere_49 : decode cX0_unitsWhere 49 = .ok (.iinc 5 1, 3) := by decide +kernel
theorem dX0_unitsWhere_52 : decode cX0_unitsWhere 52 = .ok (.goto (-46), 3) := by decide +kernel
theorem dX0_unitsWhere_55 : decode cX0_unitsWhere 55 = .ok (.iload 4, 2) := by decide +kernel
theorem dX0_unitsWhere_57 : decode cX0_unitsWhere 57 = .ok (.ireturn, 1) := by decide +kernel
theorem dX0_unitsOnlyOf_0 : decode cX0_unitsOnlyOf 0 = .ok (.aload_n 0, 1) := by decide +kernel
theorem dX0_unitsOnlyOf_1 : decode cX0_unitsOnlyOf 1 = .ok (.iconst 0, 1) := by decide +kernel
theorem dX0_unitsOnlyOf_2 : decode cX0_unitsOnlyOf 2 = .ok (.iload_n 1, 1) := by decide +kernel
theorem dX0_unitsOnlyOf_3 : decode cX0_unitsOnlyOf 3 = .ok (.iconst (-1), 1) := by decide +kernel
theorem dX0_unitsOnlyOf_4 : decode cX0_unitsOnlyOf 4 = .ok (.ixor, 1) := by decide +kernel
theorem dX0_unitsOnlyOf_5 : decode cX0_unitsOnlyOf 5 = .ok (.iconst 0, 1) := by decide +kernel
theorem dX0_unitsOnlyOf_6 : decode cX0_unitsOnlyOf 6 = .ok (.invokevirtual 42, 3) := by decide +kernel
theorem dX0_unitsOnlyOf_9 : decode cX0_unitsOnlyOf 9 = .ok (.ireturn, 1) := by decide +kernel
theorem dX0_unitsAloneAt_0 : decode cX0_unitsAloneAt 0 = .ok (.aload_n 0, 1) := by decide +kernel
theorem dX0_unitsAloneAt_1 : decode cX0_unitsAloneAt 1 = .ok (.iload_n 1, 1) := by decide +kernel
theorem dX0_unitsAloneAt_2 : decode cX0_unitsAloneAt 2 = .ok (.iload_n 2, 1) := by decide +kernel
theorem dX0_unitsAloneAt_3 : decode cX0_unitsAloneAt 3 = .ok (.invokevirtual 46, 3) := by decide +kernel
theorem dX0_unitsAloneAt_6 : decode cX0_unitsAloneAt 6 = .ok (.istore_n 3, 1) := by decide +kernel
theorem dX0_unitsAloneAt_7 : decode cX0_unitsAloneAt 7 = .ok (.iload_n 3, 1) := by decide +kernel
theorem dX0_unitsAloneAt_8 : decode cX0_unitsAloneAt 8 = .ok (.iconst (-1), 1) := by decide +kernel
theorem dX0_unitsAloneAt_9 : decode cX0_unitsAloneAt 9 = .ok (.if_icmp .eq 25, 3) := by decide +kernel
theorem dX0_unitsAloneAt_12 : decode cX0_unitsAloneAt 12 = .ok (.aload_n 0, 1) := by decide +kernel
theorem dX0_unitsAloneAt_13 : decode cX0_unitsAloneAt 13 = .ok (.getfield 21, 3) := by decide +kernel
theorem dX0_unitsAloneAt_16 : decode cX0_unitsAloneAt 16 = .ok (.iload_n 3, 1) := by decide +kernel
theorem dX0_unitsAloneAt_17 : decode cX0_unitsAloneAt 17 = .ok (.iaload, 1) := by decide +kernel
theorem dX0_unitsAloneAt_18 : decode cX0_unitsAloneAt 18 = .ok (.iload_n 1, 1) := by decide +kernel
theorem dX0_unitsAloneAt_19 : decode cX0_unitsAloneAt 19 = .ok (.invokestatic 34, 3) := by decide +kernel
theorem dX0_unitsAloneAt_22 : decode cX0_unitsAloneAt 22 = .ok (.if_icmp .ne 12, 3) := by decide +kernel
theorem dX0_unitsAloneAt_25 : decode cX0_unitsAloneAt 25 = .ok (.aload_n 0, 1) := by decide +kernel
theorem dX0_unitsAloneAt_26 : decode cX0_unitsAloneAt 26 = .ok (.getfield 15, 3) := by decide +kernel
theorem dX0_unitsAloneAt_29 : decode cX0_unitsAloneAt 29 = .ok (.iload_n 3, 1) := by decide +kernel
theorem dX0_unitsAloneAt_30 : decode cX0_unitsAloneAt 30 = .ok (.iaload, 1) := by decide +kernel
theorem dX0_unitsAloneAt_31 : decode cX0_unitsAloneAt 31 = .ok (.goto 4, 3) := by decide +kernel
theorem dX0_unitsAloneAt_34 : decode cX0_unitsAloneAt 34 = .ok (.iconst 0, 1) := by decide +kernel
theorem dX0_unitsAloneAt_35 : decode cX0_unitsAloneAt 35 = .ok (.ireturn, 1) := by decide +kernel
theorem dX0_unitsByVersions_0 : decode cX0_unitsByVersions 0 = .ok (.iconst 0, 1) := by decide +kernel
theorem dX0_unitsByVersions_1 : decode cX0_unitsByVersions 1 = .ok (.istore_n 1, 1) := by decide +kernel
theorem dX0_unitsByVersions_2 : decode cX0_unitsByVersions 2 = .ok (.iconst 0, 1) := by decide +kernel
theorem dX0_unitsByVersions_3 : decode cX0_unitsByVersions 3 = .ok (.istore_n 2, 1) := by decide +kernel
theorem dX0_unitsByVersions_4 : decode cX0_unitsByVersions 4 = .ok (.iload_n 2, 1) := by decide +kernel
theorem dX0_unitsByVersions_5 : decode cX0_unitsByVersions 5 = .ok (.aload_n 0, 1) := by decide +kernel
theorem dX0_unitsByVersions_6 : decode cX0_unitsByVersions 6 = .ok (.getfield 24, 3) := by decide +kernel
theorem dX0_unitsByVersions_9 : decode cX0_unitsByVersions 9 = .ok (.if_icmp .ge 28, 3) := by decide +kernel
theorem dX0_unitsByVersions_12 : decode cX0_unitsByVersions 12 = .ok (.iload_n 1, 1) := by decide +kernel
theorem dX0_unitsByVersions_13 : decode cX0_unitsByVersions 13 = .ok (.aload_n 0, 1) := by decide +kernel
theorem dX0_unitsByVersions_14 : decode cX0_unitsByVersions 14 = .ok (.getfield 15, 3) := by decide +kernel
theorem dX0_unitsByVersions_17 : decode cX0_unitsByVersions 17 = .ok (.iload_n 2, 1) := by decide +kernel
theorem dX0_unitsByVersions_18 : decode cX0_unitsByVersions 18 = .ok (.iaload, 1) := by decide +kernel
theorem dX0_unitsByVersions_19 : decode cX0_unitsByVersions 19 = .ok (.aload_n 0, 1) := by decide +kernel
theorem dX0_unitsByVersions_20 : decode cX0_unitsByVersions 20 = .ok (.getfield 21, 3) := by decide +kernel
theorem dX0_unitsByVersions_23 : decode cX0_unitsByVersions 23 = .ok (.iload_n 2, 1) := by decide +kernel
theorem dX0_unitsByVersions_24 : decode cX0_unitsByVersions 24 = .ok (.iaload, 1) := by decide +kernel
theorem dX0_unitsByVersions_25 : decode cX0_unitsByVersions 25 = .ok (.invokestatic 50, 3) := by decide +kernel
theorem dX0_unitsByVersions_28 : decode cX0_unitsByVersions 28 = .ok (.imul, 1) := by decide +kernel
theorem dX0_unitsByVersions_29 : decode cX0_unitsByVersions 29 = .ok (.iadd, 1) := by decide +kernel
theorem dX0_unitsByVersions_30 : decode cX0_unitsByVersions 30 = .ok (.istore_n 1, 1) := by decide +kernel
theorem dX0_unitsByVersions_31 : decode cX0_unitsByVersions 31 = .ok (.iinc 2 1, 3) := by decide +kernel
theorem dX0_unitsByVersions_34 : decode cX0_unitsByVersions 34 = .ok (.goto (-30), 3) := by decide +kernel
theorem dX0_unitsByVersions_37 : decode cX0_unitsByVersions 37 = .ok (.iload_n 1, 1) := by decide +kernel
theorem dX0_unitsByVersions_38 : decode cX0_unitsByVersions 38 = .ok (.ireturn, 1) := by decide +kernel
theorem dX0_numberWhere_0 : decode cX0_numberWhere 0 = .ok (.iconst 0, 1) := by decide +kernel
theorem dX0_numberWhere_1 : decode cX0_numberWhere 1 = .ok (.istore_n 3, 1) := by decide +kernel
theorem dX0_numberWhere_2 : decode cX0_numberWhere 2 = .ok (.iconst 0, 1) := by decide +kernel
theorem dX0_numberWhere_3 : decode cX0_numberWhere 3 = .ok (.istore 4, 2) := by decide +kernel
theorem dX0_numberWhere_5 : decode cX0_numberWhere 5 = .ok (.iload 4, 2) := by decide +kernel
theorem dX0_numberWhere_7 : decode cX0_numberWhere 7 = .ok (.aload_n 0, 1) := by decide +kernel
theorem dX0_numberWhere_8 : decode cX0_numberWhere 8 = .ok (.getfield 24, 3) := by decide +kernel
theorem dX0_numberWhere_11 : decode cX0_numberWhere 11 = .ok (.if_icmp .ge 23, 3) := by decide +kernel
theorem dX0_numberWhere_14 : decode cX0_numberWhere 14 = .ok (.aload_n 0, 1) := by decide +kernel
theorem dX0_numberWhere_15 : decode cX0_numberWhere 15 = .ok (.iload 4, 2) := by decide +kernel
theorem dX0_numberWhere_17 : decode cX0_numberWhere 17 = .ok (.iload_n 1, 1) := by decide +kernel
theorem dX0_numberWhere_18 : decode cX0_numberWhere 18 = .ok (.iload_n 2, 1) := by decide +kernel
theorem dX0_numberWhere_19 : decode cX0_numberWhere 19 = .ok (.invokevirtual 38, 3) := by decide +kernel
theorem dX0_numberWhere_22 : decode cX0_numberWhere 22 = .ok (.ifCond .eq 6, 3) := by decide +kernel
theorem dX0_numberWhere_25 : decode cX0_numberWhere 25 = .ok (.iinc 3 1, 3) := by decide +kernel
theorem dX0_numberWhere_28 : decode cX0_numberWhere 28 = .ok (.iinc 4 1, 3) := by decide +kernel
theorem dX0_numberWhere_31 : decode cX0_numberWhere 31 = .ok (.goto (-26), 3) := by decide +kernel
theorem dX0_numberWhere_34 : decode cX0_numberWhere 34 = .ok (.iload_n 3, 1) := by decide +kernel
theorem dX0_numberWhere_35 : decode cX0_numberWhere 35 = .ok (.ireturn, 1) := by decide +kernel
theorem dX0_birthWhere_0 : decode cX0_birthWhere 0 = .ok (.iconst 0, 1) := by decide +kernel
theorem dX0_birthWhere_1 : decode cX0_birthWhere 1 = .ok (.istore 4, 2) := by decide +kernel
theorem dX0_birthWhere_3 : decode cX0_birthWhere 3 = .ok (.iconst 0, 1) := by decide +kernel
theorem dX0_birthWhere_4 : decode cX0_birthWhere 4 = .ok (.istore 5, 2) := by decide +kernel
theorem dX0_birthWhere_6 : decode cX0_birthWhere 6 = .ok (.iload 5, 2) := by decide +kernel
theorem dX0_birthWhere_8 : decode cX0_birthWhere 8 = .ok (.aload_n 0, 1) := by decide +kernel
theorem dX0_birthWhere_9 : decode cX0_birthWhere 9 = .ok (.getfield 24, 3) := by decide +kernel
theorem dX0_birthWhere_12 : decode cX0_birthWhere 12 = .ok (.if_icmp .ge 37, 3) := by decide +kernel
theorem dX0_birthWhere_15 : decode cX0_birthWhere 15 = .ok (.aload_n 0, 1) := by decide +kernel
theorem dX0_birthWhere_16 : decode cX0_birthWhere 16 = .ok (.iload 5, 2) := by decide +kernel
theorem dX0_birthWhere_18 : decode cX0_birthWhere 18 = .ok (.iload_n 1, 1) := by decide +kernel
theorem dX0_birthWhere_19 : decode cX0_birthWhere 19 = .ok (.iload_n 2, 1) := by decide +kernel
theorem dX0_birthWhere_20 : decode cX0_birthWhere 20 = .ok (.invokevirtual 38, 3) := by decide +kernel
theorem dX0_birthWhere_23 : decode cX0_birthWhere 23 = .ok (.ifCond .eq 20, 3) := by decide +kernel
theorem dX0_birthWhere_26 : decode cX0_birthWhere 26 = .ok (.iload 4, 2) := by decide +kernel
theorem dX0_birthWhere_28 : decode cX0_birthWhere 28 = .ok (.iload_n 3, 1) := by decide +kernel
theorem dX0_birthWhere_29 : decode cX0_birthWhere 29 = .ok (.if_icmp .ne 11, 3) := by decide +kernel
theorem dX0_birthWhere_32 : decode cX0_birthWhere 32 = .ok (.aload_n 0, 1) := by decide +kernel
theorem dX0_birthWhere_33 : decode cX0_birthWhere 33 = .ok (.getfield 9, 3) := by decide +kernel
theorem dX0_birthWhere_36 : decode cX0_birthWhere 36 = .ok (.iload 5, 2) := by decide +kernel
theorem dX0_birthWhere_38 : decode cX0_birthWhere 38 = .ok (.iaload, 1) := by decide +kernel
theorem dX0_birthWhere_39 : decode cX0_birthWhere 39 = .ok (.ireturn, 1) := by decide +kernel
theorem dX0_birthWhere_40 : decode cX0_birthWhere 40 = .ok (.iinc 4 1, 3) := by decide +kernel
theorem dX0_birthWhere_43 : decode cX0_birthWhere 43 = .ok (.iinc 5 1, 3) := by decide +kernel
theorem dX0_birthWhere_46 : decode cX0_birthWhere 46 = .ok (.goto (-40), 3) := by decide +kernel
theorem dX0_birthWhere_49 : decode cX0_birthWhere 49 = .ok (.iconst (-1), 1) := by decide +kernel
theorem dX0_birthWhere_50 : decode cX0_birthWhere 50 = .ok (.ireturn, 1) := by decide +kernel
theorem dX0_lend_0 : decode cX0_lend 0 = .ok (.iconst 0, 1) := by decide +kernel
theorem dX0_lend_1 : decode cX0_lend 1 = .ok (.istore_n 3, 1) := by decide +kernel
theorem dX0_lend_2 : decode cX0_lend 2 = .ok (.iload_n 3, 1) := by decide +kernel
theorem dX0_lend_3 : decode cX0_lend 3 = .ok (.aload_n 0, 1) := by decide +kernel
theorem dX0_lend_4 : decode cX0_lend 4 = .ok (.getfield 24, 3) := by decide +kernel
theorem dX0_lend_7 : decode cX0_lend 7 = .ok (.if_icmp .ge 35, 3) := by decide +kernel
theorem dX0_lend_10 : decode cX0_lend 10 = .ok (.aload_n 0, 1) := by decide +kernel
theorem dX0_lend_11 : decode cX0_lend 11 = .ok (.getfield 21, 3) := by decide +kernel
theorem dX0_lend_14 : decode cX0_lend 14 = .ok (.iload_n 3, 1) := by decide +kernel
theorem dX0_lend_15 : decode cX0_lend 15 = .ok (.iaload, 1) := by decide +kernel
theorem dX0_lend_16 : decode cX0_lend 16 = .ok (.iload_n 1, 1) := by decide +kernel
theorem dX0_lend_17 : decode cX0_lend 17 = .ok (.invokestatic 55, 3) := by decide +kernel
theorem dX0_lend_20 : decode cX0_lend 20 = .ok (.ifCond .eq 16, 3) := by decide +kernel
theorem dX0_lend_23 : decode cX0_lend 23 = .ok (.aload_n 0, 1) := by decide +kernel
theorem dX0_lend_24 : decode cX0_lend 24 = .ok (.getfield 21, 3) := by decide +kernel
theorem dX0_lend_27 : decode cX0_lend 27 = .ok (.iload_n 3, 1) := by decide +kernel
theorem dX0_lend_28 : decode cX0_lend 28 = .ok (.dup2, 1) := by decide +kernel
theorem dX0_lend_29 : decode cX0_lend 29 = .ok (.iaload, 1) := by decide +kernel
theorem dX0_lend_30 : decode cX0_lend 30 = .ok (.iload_n 2, 1) := by decide +kernel
theorem dX0_lend_31 : decode cX0_lend 31 = .ok (.invokestatic 34, 3) := by decide +kernel
theorem dX0_lend_34 : decode cX0_lend 34 = .ok (.ior, 1) := by decide +kernel
theorem dX0_lend_35 : decode cX0_lend 35 = .ok (.iastore, 1) := by decide +kernel
theorem dX0_lend_36 : decode cX0_lend 36 = .ok (.iinc 3 1, 3) := by decide +kernel
theorem dX0_lend_39 : decode cX0_lend 39 = .ok (.goto (-37), 3) := by decide +kernel
theorem dX0_lend_42 : decode cX0_lend 42 = .ok (.return_, 1) := by decide +kernel
theorem dX0_release_0 : decode cX0_release 0 = .ok (.iconst 0, 1) := by decide +kernel
theorem dX0_release_1 : decode cX0_release 1 = .ok (.istore_n 2, 1) := by decide +kernel
theorem dX0_release_2 : decode cX0_release 2 = .ok (.iload_n 2, 1) := by decide +kernel
theorem dX0_release_3 : decode cX0_release 3 = .ok (.aload_n 0, 1) := by decide +kernel
theorem dX0_release_4 : decode cX0_release 4 = .ok (.getfield 24, 3) := by decide +kernel
theorem dX0_release_7 : decode cX0_release 7 = .ok (.if_icmp .ge 21, 3) := by decide +kernel
theorem dX0_release_10 : decode cX0_release 10 = .ok (.aload_n 0, 1) := by decide +kernel
theorem dX0_release_11 : decode cX0_release 11 = .ok (.getfield 21, 3) := by decide +kernel
theorem dX0_release_14 : decode cX0_release 14 = .ok (.iload_n 2, 1) := by decide +kernel
theorem dX0_release_15 : decode cX0_release 15 = .ok (.dup2, 1) := by decide +kernel
theorem dX0_release_16 : decode cX0_release 16 = .ok (.iaload, 1) := by decide +kernel
theorem dX0_release_17 : decode cX0_release 17 = .ok (.iload_n 1, 1) := by decide +kernel
theorem dX0_release_18 : decode cX0_release 18 = .ok (.iconst (-1), 1) := by decide +kernel
theorem dX0_release_19 : decode cX0_release 19 = .ok (.ixor, 1) := by decide +kernel
theorem dX0_release_20 : decode cX0_release 20 = .ok (.iand, 1) := by decide +kernel
theorem dX0_release_21 : decode cX0_release 21 = .ok (.iastore, 1) := by decide +kernel
theorem dX0_release_22 : decode cX0_release 22 = .ok (.iinc 2 1, 3) := by decide +kernel
theorem dX0_release_25 : decode cX0_release 25 = .ok (.goto (-23), 3) := by decide +kernel
theorem dX0_release_28 : decode cX0_release 28 = .ok (.aload_n 0, 1) := by decide +kernel
theorem dX0_release_29 : decode cX0_release 29 = .ok (.invokevirtual 59, 3) := by decide +kernel
theorem dX0_release_32 : decode cX0_release 32 = .ok (.ireturn, 1) := by decide +kernel
theorem dX0_releaseAt_0 : decode cX0_releaseAt 0 = .ok (.aload_n 0, 1) := by decide +kernel
theorem dX0_releaseAt_1 : decode cX0_releaseAt 1 = .ok (.iload_n 1, 1) := by decide +kernel
theorem dX0_releaseAt_2 : decode cX0_releaseAt 2 = .ok (.iload_n 2, 1) := by decide +kernel
theorem dX0_releaseAt_3 : decode cX0_releaseAt 3 = .ok (.invokevirtual 46, 3) := by decide +kernel
theorem dX0_releaseAt_6 : decode cX0_releaseAt 6 = .ok (.istore_n 3, 1) := by decide +kernel
theorem dX0_releaseAt_7 : decode cX0_releaseAt 7 = .ok (.iload_n 3, 1) := by decide +kernel
theorem dX0_releaseAt_8 : decode cX0_releaseAt 8 = .ok (.iconst (-1), 1) := by decide +kernel
theorem dX0_releaseAt_9 : decode cX0_releaseAt 9 = .ok (.if_icmp .ne 5, 3) := by decide +kernel
theorem dX0_releaseAt_12 : decode cX0_releaseAt 12 = .ok (.iconst 0, 1) := by decide +kernel
theorem dX0_releaseAt_13 : decode cX0_releaseAt 13 = .ok (.ireturn, 1) := by decide +kernel
theorem dX0_releaseAt_14 : decode cX0_releaseAt 14 = .ok (.aload_n 0, 1) := by decide +kernel
theorem dX0_releaseAt_15 : decode cX0_releaseAt 15 = .ok (.getfield 21, 3) := by decide +kernel
theorem dX0_releaseAt_18 : decode cX0_releaseAt 18 = .ok (.iload_n 3, 1) := by decide +kernel
theorem dX0_releaseAt_19 : decode cX0_releaseAt 19 = .ok (.dup2, 1) := by decide +kernel
theorem dX0_releaseAt_20 : decode cX0_releaseAt 20 = .ok (.iaload, 1) := by decide +kernel
theorem dX0_releaseAt_21 : decode cX0_releaseAt 21 = .ok (.iload_n 1, 1) := by decide +kernel
theorem dX0_releaseAt_22 : decode cX0_releaseAt 22 = .ok (.invokestatic 34, 3) := by decide +kernel
theorem dX0_releaseAt_25 : decode cX0_releaseAt 25 = .ok (.iconst (-1), 1) := by decide +kernel
theorem dX0_releaseAt_26 : decode cX0_releaseAt 26 = .ok (.ixor, 1) := by decide +kernel
theorem dX0_releaseAt_27 : decode cX0_releaseAt 27 = .ok (.iand, 1) := by decide +kernel
theorem dX0_releaseAt_28 : decode cX0_releaseAt 28 = .ok (.iastore, 1) := by decide +kernel
theorem dX0_releaseAt_29 : decode cX0_releaseAt 29 = .ok (.aload_n 0, 1) := by decide +kernel
theorem dX0_releaseAt_30 : decode cX0_releaseAt 30 = .ok (.invokevirtual 59, 3) := by decide +kernel
theorem dX0_releaseAt_33 : decode cX0_releaseAt 33 = .ok (.ireturn, 1) := by decide +kernel
theorem dX0_sweep_0 : decode cX0_sweep 0 = .ok (.iconst 0, 1) := by decide +kernel
theorem dX0_sweep_1 : decode cX0_sweep 1 = .ok (.istore_n 1, 1) := by decide +kernel
theorem dX0_sweep_2 : decode cX0_sweep 2 = .ok (.iconst 0, 1) := by decide +kernel
theorem dX0_sweep_3 : decode cX0_sweep 3 = .ok (.istore_n 2, 1) := by decide +kernel
theorem dX0_sweep_4 : decode cX0_sweep 4 = .ok (.iconst 0, 1) := by decide +kernel
theorem dX0_sweep_5 : decode cX0_sweep 5 = .ok (.istore_n 3, 1) := by decide +kernel
theorem dX0_sweep_6 : decode cX0_sweep 6 = .ok (.iload_n 3, 1) := by decide +kernel
theorem dX0_sweep_7 : decode cX0_sweep 7 = .ok (.aload_n 0, 1) := by decide +kernel
theorem dX0_sweep_8 : decode cX0_sweep 8 = .ok (.getfield 24, 3) := by decide +kernel
theorem dX0_sweep_11 : decode cX0_sweep 11 = .ok (.if_icmp .ge 81, 3) := by decide +kernel
theorem dX0_sweep_14 : decode cX0_sweep 14 = .ok (.aload_n 0, 1) := by decide +kernel
theorem dX0_sweep_15 : decode cX0_sweep 15 = .ok (.getfield 21, 3) := by decide +kernel
theorem dX0_sweep_18 : decode cX0_sweep 18 = .ok (.iload_n 3, 1) := by decide +kernel
theorem dX0_sweep_19 : decode cX0_sweep 19 = .ok (.iaload, 1) := by decide +kernel
theorem dX0_sweep_20 : decode cX0_sweep 20 = .ok (.ifCond .ne 15, 3) := by decide +kernel
theorem dX0_sweep_23 : decode cX0_sweep 23 = .ok (.iload_n 2, 1) := by decide +kernel
theorem dX0_sweep_24 : decode cX0_sweep 24 = .ok (.aload_n 0, 1) := by decide +kernel
theorem dX0_sweep_25 : decode cX0_sweep 25 = .ok (.getfield 15, 3) := by decide +kernel
theorem dX0_sweep_28 : decode cX0_sweep 28 = .ok (.iload_n 3, 1) := by decide +kernel
theorem dX0_sweep_29 : decode cX0_sweep 29 = .ok (.iaload, 1) := by decide +kernel
theorem dX0_sweep_30 : decode cX0_sweep 30 = .ok (.iadd, 1) := by decide +kernel
theorem dX0_sweep_31 : decode cX0_sweep 31 = .ok (.istore_n 2, 1) := by decide +kernel
theorem dX0_sweep_32 : decode cX0_sweep 32 = .ok (.goto 54, 3) := by decide +kernel
theorem dX0_sweep_35 : decode cX0_sweep 35 = .ok (.aload_n 0, 1) := by decide +kernel
theorem dX0_sweep_36 : decode cX0_sweep 36 = .ok (.getfield 9, 3) := by decide +kernel
theorem dX0_sweep_39 : decode cX0_sweep 39 = .ok (.iload_n 1, 1) := by decide +kernel
theorem dX0_sweep_40 : decode cX0_sweep 40 = .ok (.aload_n 0, 1) := by decide +kernel
theorem dX0_sweep_41 : decode cX0_sweep 41 = .ok (.getfield 9, 3) := by decide +kernel
theorem dX0_sweep_44 : decode cX0_sweep 44 = .ok (.iload_n 3, 1) := by decide +kernel
theorem dX0_sweep_45 : decode cX0_sweep 45 = .ok (.iaload, 1) := by decide +kernel
theorem dX0_sweep_46 : decode cX0_sweep 46 = .ok (.iastore, 1) := by decide +kernel
theorem dX0_sweep_47 : decode cX0_sweep 47 = .ok (.aload_n 0, 1) := by decide +kernel
theorem dX0_sweep_48 : decode cX0_sweep 48 = .ok (.getfield 15, 3) := by decide +kernel
theorem dX0_sweep_51 : decode cX0_sweep 51 = .ok (.iload_n 1, 1) := by decide +kernel
theorem dX0_sweep_52 : decode cX0_sweep 52 = .ok (.aload_n 0, 1) := by decide +kernel
theorem dX0_sweep_53 : decode cX0_sweep 53 = .ok (.getfield 15, 3) := by decide +kernel
theorem dX0_sweep_56 : decode cX0_sweep 56 = .ok (.iload_n 3, 1) := by decide +kernel
theorem dX0_sweep_57 : decode cX0_sweep 57 = .ok (.iaload, 1) := by decide +kernel
theorem dX0_sweep_58 : decode cX0_sweep 58 = .ok (.iastore, 1) := by decide +kernel
theorem dX0_sweep_59 : decode cX0_sweep 59 = .ok (.aload_n 0, 1) := by decide +kernel
theorem dX0_sweep_60 : decode cX0_sweep 60 = .ok (.getfield 18, 3) := by decide +kernel
theorem dX0_sweep_63 : decode cX0_sweep 63 = .ok (.iload_n 1, 1) := by decide +kernel
theorem dX0_sweep_64 : decode cX0_sweep 64 = .ok (.aload_n 0, 1) := by decide +kernel
theorem dX0_sweep_65 : decode cX0_sweep 65 = .ok (.getfield 18, 3) := by decide +kernel
theorem dX0_sweep_68 : decode cX0_sweep 68 = .ok (.iload_n 3, 1) := by decide +kernel
theorem dX0_sweep_69 : decode cX0_sweep 69 = .ok (.iaload, 1) := by decide +kernel
theorem dX0_sweep_70 : decode cX0_sweep 70 = .ok (.iastore, 1) := by decide +kernel
theorem dX0_sweep_71 : decode cX0_sweep 71 = .ok (.aload_n 0, 1) := by decide +kernel
theorem dX0_sweep_72 : decode cX0_sweep 72 = .ok (.getfield 21, 3) := by decide +kernel
theorem dX0_sweep_75 : decode cX0_sweep 75 = .ok (.iload_n 1, 1) := by decide +kernel
theorem dX0_sweep_76 : decode cX0_sweep 76 = .ok (.aload_n 0, 1) := by decide +kernel
theorem dX0_sweep_77 : decode cX0_sweep 77 = .ok (.getfield 21, 3) := by decide +kernel
theorem dX0_sweep_80 : decode cX0_sweep 80 = .ok (.iload_n 3, 1) := by decide +kernel
theorem dX0_sweep_81 : decode cX0_sweep 81 = .ok (.iaload, 1) := by decide +kernel
theorem dX0_sweep_82 : decode cX0_sweep 82 = .ok (.iastore, 1) := by decide +kernel
theorem dX0_sweep_83 : decode cX0_sweep 83 = .ok (.iinc 1 1, 3) := by decide +kernel
theorem dX0_sweep_86 : decode cX0_sweep 86 = .ok (.iinc 3 1, 3) := by decide +kernel
theorem dX0_sweep_89 : decode cX0_sweep 89 = .ok (.goto (-83), 3) := by decide +kernel
theorem dX0_sweep_92 : decode cX0_sweep 92 = .ok (.aload_n 0, 1) := by decide +kernel
theorem dX0_sweep_93 : decode cX0_sweep 93 = .ok (.iload_n 1, 1) := by decide +kernel
theorem dX0_sweep_94 : decode cX0_sweep 94 = .ok (.putfield 24, 3) := by decide +kernel
theorem dX0_sweep_97 : decode cX0_sweep 97 = .ok (.iload_n 2, 1) := by decide +kernel
theorem dX0_sweep_98 : decode cX0_sweep 98 = .ok (.ireturn, 1) := by decide +kernel
theorem dX1_init_0 : decode cX1_init 0 = .ok (.aload_n 0, 1) := by decide +kernel
theorem dX1_init_1 : decode cX1_init 1 = .ok (.invokespecial 3, 3) := by decide +kernel
theorem dX1_init_4 : decode cX1_init 4 = .ok (.aload_n 0, 1) := by decide +kernel
theorem dX1_init_5 : decode cX1_init 5 = .ok (.bipush 8, 2) := by decide +kernel
theorem dX1_init_7 : decode cX1_init 7 = .ok (.anewarray 9, 3) := by decide +kernel
theorem dX1_init_10 : decode cX1_init 10 = .ok (.putfield 11, 3) := by decide +kernel
theorem dX1_init_13 : decode cX1_init 13 = .ok (.aload_n 0, 1) := by decide +kernel
theorem dX1_init_14 : decode cX1_init 14 = .ok (.iconst 0, 1) := by decide +kernel
theorem dX1_init_15 : decode cX1_init 15 = .ok (.putfield 17, 3) := by decide +kernel
theorem dX1_init_18 : decode cX1_init 18 = .ok (.aload_n 0, 1) := by decide +kernel
theorem dX1_init_19 : decode cX1_init 19 = .ok (.iconst 0, 1) := by decide +kernel
theorem dX1_init_20 : decode cX1_init 20 = .ok (.putfield 21, 3) := by decide +kernel
theorem dX1_init_23 : decode cX1_init 23 = .ok (.iconst 0, 1) := by decide +kernel
theorem dX1_init_24 : decode cX1_init 24 = .ok (.istore_n 1, 1) := by decide +kernel
theorem dX1_init_25 : decode cX1_init 25 = .ok (.iload_n 1, 1) := by decide +kernel
theorem dX1_init_26 : decode cX1_init 26 = .ok (.bipush 8, 2) := by decide +kernel
theorem dX1_init_28 : decode cX1_init 28 = .ok (.if_icmp .ge 22, 3) := by decide +kernel
theorem dX1_init_31 : decode cX1_init 31 = .ok (.aload_n 0, 1) := by decide +kernel
theorem dX1_init_32 : decode cX1_init 32 = .ok (.getfield 11, 3) := by decide +kernel
theorem dX1_init_35 : decode cX1_init 35 = .ok (.iload_n 1, 1) := by decide +kernel
theorem dX1_init_36 : decode cX1_init 36 = .ok (.new 9, 3) := by decide +kernel
theorem dX1_init_39 : decode cX1_init 39 = .ok (.dup, 1) := by decide +kernel
theorem dX1_init_40 : decode cX1_init 40 = .ok (.invokespecial 24, 3) := by decide +kernel
theorem dX1_init_43 : decode cX1_init 43 = .ok (.aastore, 1) := by decide +kernel
theorem dX1_init_44 : decode cX1_init 44 = .ok (.iinc 1 1, 3) := by decide +kernel
theorem dX1_init_47 : decode cX1_init 47 = .ok (.goto (-22), 3) := by decide +kernel
theorem dX1_init_50 : decode cX1_init 50 = .ok (.return_, 1) := by decide +kernel
theorem dX1_keep_0 : decode cX1_keep 0 = .ok (.aload_n 0, 1) := by decide +kernel
theorem dX1_keep_1 : decode cX1_keep 1 = .ok (.getfield 11, 3) := by decide +kernel
theorem dX1_keep_4 : decode cX1_keep 4 = .ok (.aload_n 0, 1) := by decide +kernel
theorem dX1_keep_5 : decode cX1_keep 5 = .ok (.getfield 17, 3) := by decide +kernel
theorem dX1_keep_8 : decode cX1_keep 8 = .ok (.aaload, 1) := by decide +kernel
theorem dX1_keep_9 : decode cX1_keep 9 = .ok (.aload_n 1, 1) := by decide +kernel
theorem dX1_keep_10 : decode cX1_keep 10 = .ok (.invokevirtual 25, 3) := by decide +kernel
theorem dX1_keep_13 : decode cX1_keep 13 = .ok (.aload_n 0, 1) := by decide +kernel
theorem dX1_keep_14 : decode cX1_keep 14 = .ok (.aload_n 0, 1) := by decide +kernel
theorem dX1_keep_15 : decode cX1_keep 15 = .ok (.getfield 17, 3) := by decide +kernel
theorem dX1_keep_18 : decode cX1_keep 18 = .ok (.iconst 1, 1) := by decide +kernel
theorem dX1_keep_19 : decode cX1_keep 19 = .ok (.iadd, 1) := by decide +kernel
theorem dX1_keep_20 : decode cX1_keep 20 = .ok (.bipush 8, 2) := by decide +kernel
theorem dX1_keep_22 : decode cX1_keep 22 = .ok (.irem, 1) := by decide +kernel
theorem dX1_keep_23 : decode cX1_keep 23 = .ok (.putfield 17, 3) := by decide +kernel
theorem dX1_keep_26 : decode cX1_keep 26 = .ok (.aload_n 0, 1) := by decide +kernel
theorem dX1_keep_27 : decode cX1_keep 27 = .ok (.aload_n 0, 1) := by decide +kernel
theorem dX1_keep_28 : decode cX1_keep 28 = .ok (.getfield 21, 3) := by decide +kernel
theorem dX1_keep_31 : decode cX1_keep 31 = .ok (.iconst 1, 1) := by decide +kernel
theorem dX1_keep_32 : decode cX1_keep 32 = .ok (.iadd, 1) := by decide +kernel
theorem dX1_keep_33 : decode cX1_keep 33 = .ok (.bipush 8, 2) := by decide +kernel
theorem dX1_keep_35 : decode cX1_keep 35 = .ok (.invokestatic 29, 3) := by decide +kernel
theorem dX1_keep_38 : decode cX1_keep 38 = .ok (.putfield 21, 3) := by decide +kernel
theorem dX1_keep_41 : decode cX1_keep 41 = .ok (.return_, 1) := by decide +kernel
theorem dX1_giveBack_0 : decode cX1_giveBack 0 = .ok (.aload_n 0, 1) := by decide +kernel
theorem dX1_giveBack_1 : decode cX1_giveBack 1 = .ok (.aload_n 0, 1) := by decide +kernel
theorem dX1_giveBack_2 : decode cX1_giveBack 2 = .ok (.getfield 17, 3) := by decide +kernel
theorem dX1_giveBack_5 : decode cX1_giveBack 5 = .ok (.bipush 8, 2) := by decide +kernel
theorem dX1_giveBack_7 : decode cX1_giveBack 7 = .ok (.iadd, 1) := by decide +kernel
theorem dX1_giveBack_8 : decode cX1_giveBack 8 = .ok (.iconst 1, 1) := by decide +kernel
theorem dX1_giveBack_9 : decode cX1_giveBack 9 = .ok (.isub, 1) := by decide +kernel
theorem dX1_giveBack_10 : decode cX1_giveBack 10 = .ok (.bipush 8, 2) := by decide +kernel
theorem dX1_giveBack_12 : decode cX1_giveBack 12 = .ok (.irem, 1) := by decide +kernel
theorem dX1_giveBack_13 : decode cX1_giveBack 13 = .ok (.putfield 17, 3) := by decide +kernel
theorem dX1_giveBack_16 : decode cX1_giveBack 16 = .ok (.aload_n 0, 1) := by decide +kernel
theorem dX1_giveBack_17 : decode cX1_giveBack 17 = .ok (.dup, 1) := by decide +kernel
theorem dX1_giveBack_18 : decode cX1_giveBack 18 = .ok (.getfield 21, 3) := by decide +kernel
theorem dX1_giveBack_21 : decode cX1_giveBack 21 = .ok (.iconst 1, 1) := by decide +kernel
theorem dX1_giveBack_22 : decode cX1_giveBack 22 = .ok (.isub, 1) := by decide +kernel
theorem dX1_giveBack_23 : decode cX1_giveBack 23 = .ok (.putfield 21, 3) := by decide +kernel
theorem dX1_giveBack_26 : decode cX1_giveBack 26 = .ok (.aload_n 1, 1) := by decide +kernel
theorem dX1_giveBack_27 : decode cX1_giveBack 27 = .ok (.aload_n 0, 1) := by decide +kernel
theorem dX1_giveBack_28 : decode cX1_giveBack 28 = .ok (.getfield 11, 3) := by decide +kernel
theorem dX1_giveBack_31 : decode cX1_giveBack 31 = .ok (.aload_n 0, 1) := by decide +kernel
theorem dX1_giveBack_32 : decode cX1_giveBack 32 = .ok (.getfield 17, 3) := by decide +kernel
theorem dX1_giveBack_35 : decode cX1_giveBack 35 = .ok (.aaload, 1) := by decide +kernel
theorem dX1_giveBack_36 : decode cX1_giveBack 36 = .ok (.invokevirtual 25, 3) := by decide +kernel
theorem dX1_giveBack_39 : decode cX1_giveBack 39 = .ok (.return_, 1) := by decide +kernel
theorem dX1_forget_0 : decode cX1_forget 0 = .ok (.aload_n 0, 1) := by decide +kernel
theorem dX1_forget_1 : decode cX1_forget 1 = .ok (.iconst 0, 1) := by decide +kernel
theorem dX1_forget_2 : decode cX1_forget 2 = .ok (.putfield 21, 3) := by decide +kernel
theorem dX1_forget_5 : decode cX1_forget 5 = .ok (.return_, 1) := by decide +kernel
theorem dX2_init_0 : decode cX2_init 0 = .ok (.aload_n 0, 1) := by decide +kernel
theorem dX2_init_1 : decode cX2_init 1 = .ok (.invokespecial 3, 3) := by decide +kernel
theorem dX2_init_4 : decode cX2_init 4 = .ok (.aload_n 0, 1) := by decide +kernel
theorem dX2_init_5 : decode cX2_init 5 = .ok (.sipush 1000, 3) := by decide +kernel
theorem dX2_init_8 : decode cX2_init 8 = .ok (.newarray .char, 2) := by decide +kernel
theorem dX2_init_10 : decode cX2_init 10 = .ok (.putfield 9, 3) := by decide +kernel
theorem dX2_init_13 : decode cX2_init 13 = .ok (.aload_n 0, 1) := by decide +kernel
theorem dX2_init_14 : decode cX2_init 14 = .ok (.iconst 0, 1) := by decide +kernel
theorem dX2_init_15 : decode cX2_init 15 = .ok (.putfield 15, 3) := by decide +kernel
theorem dX2_init_18 : decode cX2_init 18 = .ok (.aload_n 0, 1) := by decide +kernel
theorem dX2_init_19 : decode cX2_init 19 = .ok (.new 19, 3) := by decide +kernel
theorem dX2_init_22 : decode cX2_init 22 = .ok (.dup, 1) := by decide +kernel
theorem dX2_init_23 : decode cX2_init 23 = .ok (.invokespecial 21, 3) := by decide +kernel
theorem dX2_init_26 : decode cX2_init 26 = .ok (.putfield 22, 3) := by decide +kernel
theorem dX2_init_29 : decode cX2_init 29 = .ok (.aload_n 0, 1) := by decide +kernel
theorem dX2_init_30 : decode cX2_init 30 = .ok (.iconst (-1), 1) := by decide +kernel
theorem dX2_init_31 : decode cX2_init 31 = .ok (.putfield 26, 3) := by decide +kernel
theorem dX2_init_34 : decode cX2_init 34 = .ok (.aload_n 0, 1) := by decide +kernel
theorem dX2_init_35 : decode cX2_init 35 = .ok (.iconst 0, 1) := by decide +kernel
theorem dX2_init_36 : decode cX2_init 36 = .ok (.putfield 29, 3) := by decide +kernel
theorem dX2_init_39 : decode cX2_init 39 = .ok (.aload_n 0, 1) := by decide +kernel
theorem dX2_init_40 : decode cX2_init 40 = .ok (.iconst 0, 1) := by decide +kernel
theorem dX2_init_41 : decode cX2_init 41 = .ok (.putfield 32, 3) := by decide +kernel
theorem dX2_init_44 : decode cX2_init 44 = .ok (.aload_n 0, 1) := by decide +kernel
theorem dX2_init_45 : decode cX2_init 45 = .ok (.iconst 0, 1) := by decide +kernel
theorem dX2_init_46 : decode cX2_init 46 = .ok (.putfield 35, 3) := by decide +kernel
theorem dX2_init_49 : decode cX2_init 49 = .ok (.aload_n 0, 1) := by decide +kernel
theorem dX2_init_50 : decode cX2_init 50 = .ok (.iconst 0, 1) := by decide +kernel
theorem dX2_init_51 : decode cX2_init 51 = .ok (.putfield 38, 3) := by decide +kernel
theorem dX2_init_54 : decode cX2_init 54 = .ok (.aload_n 0, 1) := by decide +kernel
theorem dX2_init_55 : decode cX2_init 55 = .ok (.iconst 0, 1) := by decide +kernel
theorem dX2_init_56 : decode cX2_init 56 = .ok (.putfield 41, 3) := by decide +kernel
theorem dX2_init_59 : decode cX2_init 59 = .ok (.aload_n 0, 1) := by decide +kernel
theorem dX2_init_60 : decode cX2_init 60 = .ok (.iconst 0, 1) := by decide +kernel
theorem dX2_init_61 : decode cX2_init 61 = .ok (.putfield 44, 3) := by decide +kernel
theorem dX2_init_64 : decode cX2_init 64 = .ok (.return_, 1) := by decide +kernel
theorem dX2_append_0 : decode cX2_append 0 = .ok (.bipush 24, 2) := by decide +kernel
theorem dX2_append_2 : decode cX2_append 2 = .ok (.istore_n 2, 1) := by decide +kernel
theorem dX2_append_3 : decode cX2_append 3 = .ok (.iload_n 2, 1) := by decide +kernel
theorem dX2_append_4 : decode cX2_append 4 = .ok (.ifCond .lt 46, 3) := by decide +kernel
theorem dX2_append_7 : decode cX2_append 7 = .ok (.aload_n 0, 1) := by decide +kernel
theorem dX2_append_8 : decode cX2_append 8 = .ok (.getfield 15, 3) := by decide +kernel
theorem dX2_append_11 : decode cX2_append 11 = .ok (.sipush 1000, 3) := by decide +kernel
theorem dX2_append_14 : decode cX2_append 14 = .ok (.if_icmp .ge 36, 3) := by decide +kernel
theorem dX2_append_17 : decode cX2_append 17 = .ok (.aload_n 0, 1) := by decide +kernel
theorem dX2_append_18 : decode cX2_append 18 = .ok (.getfield 9, 3) := by decide +kernel
theorem dX2_append_21 : decode cX2_append 21 = .ok (.aload_n 0, 1) := by decide +kernel
theorem dX2_append_22 : decode cX2_append 22 = .ok (.getfield 15, 3) := by decide +kernel
theorem dX2_append_25 : decode cX2_append 25 = .ok (.iload_n 1, 1) := by decide +kernel
theorem dX2_append_26 : decode cX2_append 26 = .ok (.iload_n 2, 1) := by decide +kernel
theorem dX2_append_27 : decode cX2_append 27 = .ok (.iushr, 1) := by decide +kernel
theorem dX2_append_28 : decode cX2_append 28 = .ok (.sipush 255, 3) := by decide +kernel
theorem dX2_append_31 : decode cX2_append 31 = .ok (.iand, 1) := by decide +kernel
theorem dX2_append_32 : decode cX2_append 32 = .ok (.i2c, 1) := by decide +kernel
theorem dX2_append_33 : decode cX2_append 33 = .ok (.castore, 1) := by decide +kernel
theorem dX2_append_34 : decode cX2_append 34 = .ok (.aload_n 0, 1) := by decide +kernel
theorem dX2_append_35 : decode cX2_append 35 = .ok (.dup, 1) := by decide +kernel
theorem dX2_append_36 : decode cX2_append 36 = .ok (.getfield 15, 3) := by decide +kernel
theorem dX2_append_39 : decode cX2_append 39 = .ok (.iconst 1, 1) := by decide +kernel
theorem dX2_append_40 : decode cX2_append 40 = .ok (.iadd, 1) := by decide +kernel
theorem dX2_append_41 : decode cX2_append 41 = .ok (.putfield 15, 3) := by decide +kernel
theorem dX2_append_44 : decode cX2_append 44 = .ok (.iinc 2 (-8), 3) := by decide +kernel
theorem dX2_append_47 : decode cX2_append 47 = .ok (.goto (-44), 3) := by decide +kernel
theorem dX2_append_50 : decode cX2_append 50 = .ok (.return_, 1) := by decide +kernel
theorem dX2_read_0 : decode cX2_read 0 = .ok (.aload_n 0, 1) := by decide +kernel
theorem dX2_read_1 : decode cX2_read 1 = .ok (.iload_n 1, 1) := by decide +kernel
theorem dX2_read_2 : decode cX2_read 2 = .ok (.sipush 1000, 3) := by decide +kernel
theorem dX2_read_5 : decode cX2_read 5 = .ok (.invokestatic 47, 3) := by decide +kernel
theorem dX2_read_8 : decode cX2_read 8 = .ok (.putfield 32, 3) := by decide +kernel
theorem dX2_read_11 : decode cX2_read 11 = .ok (.aload_n 0, 1) := by decide +kernel
theorem dX2_read_12 : decode cX2_read 12 = .ok (.getfield 22, 3) := by decide +kernel
theorem dX2_read_15 : decode cX2_read 15 = .ok (.invokevirtual 53, 3) := by decide +kernel
theorem dX2_read_18 : decode cX2_read 18 = .ok (.aload_n 0, 1) := by decide +kernel
theorem dX2_read_19 : decode cX2_read 19 = .ok (.iconst (-1), 1) := by decide +kernel
theorem dX2_read_20 : decode cX2_read 20 = .ok (.putfield 26, 3) := by decide +kernel
theorem dX2_read_23 : decode cX2_read 23 = .ok (.aload_n 0, 1) := by decide +kernel
theorem dX2_read_24 : decode cX2_read 24 = .ok (.iconst 0, 1) := by decide +kernel
theorem dX2_read_25 : decode cX2_read 25 = .ok (.putfield 29, 3) := by decide +kernel
theorem dX2_read_28 : decode cX2_read 28 = .ok (.aload_n 0, 1) := by decide +kernel
theorem dX2_read_29 : decode cX2_read 29 = .ok (.iconst 0, 1) := by decide +kernel
theorem dX2_read_30 : decode cX2_read 30 = .ok (.putfield 38, 3) := by decide +kernel
theorem dX2_read_33 : decode cX2_read 33 = .ok (.aload_n 0, 1) := by decide +kernel
theorem dX2_read_34 : decode cX2_read 34 = .ok (.iconst 0, 1) := by decide +kernel
theorem dX2_read_35 : decode cX2_read 35 = .ok (.putfield 44, 3) := by decide +kernel
theorem dX2_read_38 : decode cX2_read 38 = .ok (.aload_n 0, 1) := by decide +kernel
theorem dX2_read_39 : decode cX2_read 39 = .ok (.invokevirtual 56, 3) := by decide +kernel
theorem dX2_read_42 : decode cX2_read 42 = .ok (.iconst 0, 1) := by decide +kernel
theorem dX2_read_43 : decode cX2_read 43 = .ok (.istore_n 2, 1) := by decide +kernel
theorem dX2_read_44 : decode cX2_read 44 = .ok (.aload_n 0, 1) := by decide +kernel
theorem dX2_read_45 : decode cX2_read 45 = .ok (.getfield 41, 3) := by decide +kernel
theorem dX2_read_48 : decode cX2_read 48 = .ok (.ifCond .eq 29, 3) := by decide +kernel
theorem dX2_read_51 : decode cX2_read 51 = .ok (.iload_n 2, 1) := by decide +kernel
theorem dX2_read_52 : decode cX2_read 52 = .ok (.aload_n 0, 1) := by decide +kernel
theorem dX2_read_53 : decode cX2_read 53 = .ok (.getfield 32, 3) := by decide +kernel
theorem dX2_read_56 : decode cX2_read 56 = .ok (.if_icmp .ge 21, 3) := by decide +kernel
theorem dX2_read_59 : decode cX2_read 59 = .ok (.aload_n 0, 1) := by decide +kernel
theorem dX2_read_60 : decode cX2_read 60 = .ok (.invokevirtual 59, 3) := by decide +kernel
theorem dX2_read_63 : decode cX2_read 63 = .ok (.ifCond .ne 8, 3) := by decide +kernel
theorem dX2_read_66 : decode cX2_read 66 = .ok (.aload_n 0, 1) := by decide +kernel
theorem dX2_read_67 : decode cX2_read 67 = .ok (.getfield 29, 3) := by decide +kernel
theorem dX2_read_70 : decode cX2_read 70 = .ok (.ireturn, 1) := by decide +kernel
theorem dX2_read_71 : decode cX2_read 71 = .ok (.iinc 2 1, 3) := by decide +kernel
theorem dX2_read_74 : decode cX2_read 74 = .ok (.goto (-30), 3) := by decide +kernel
theorem dX2_read_77 : decode cX2_read 77 = .ok (.iload_n 2, 1) := by decide +kernel
theorem dX2_read_78 : decode cX2_read 78 = .ok (.ireturn, 1) := by decide +kernel
theorem dX2_readStatement_0 : decode cX2_readStatement 0 = .ok (.aload_n 0, 1) := by decide +kernel
theorem dX2_readStatement_1 : decode cX2_readStatement 1 = .ok (.ldc 63, 2) := by decide +kernel
theorem dX2_readStatement_3 : decode cX2_readStatement 3 = .ok (.invokevirtual 65, 3) := by decide +kernel
theorem dX2_readStatement_6 : decode cX2_readStatement 6 = .ok (.ifCond .eq 11, 3) := by decide +kernel
theorem dX2_readStatement_9 : decode cX2_readStatement 9 = .ok (.aload_n 0, 1) := by decide +kernel
theorem dX2_readStatement_10 : decode cX2_readStatement 10 = .ok (.invokevirtual 69, 3) := by decide +kernel
theorem dX2_readStatement_13 : decode cX2_readStatement 13 = .ok (.istore_n 1, 1) := by decide +kernel
theorem dX2_readStatement_14 : decode cX2_readStatement 14 = .ok (.goto 112, 3) := by decide +kernel
theorem dX2_readStatement_17 : decode cX2_readStatement 17 = .ok (.aload_n 0, 1) := by decide +kernel
theorem dX2_readStatement_18 : decode cX2_readStatement 18 = .ok (.ldc 72, 2) := by decide +kernel
theorem dX2_readStatement_20 : decode cX2_readStatement 20 = .ok (.invokevirtual 65, 3) := by decide +kernel
theorem dX2_readStatement_23 : decode cX2_readStatement 23 = .ok (.ifCond .eq 11, 3) := by decide +kernel
theorem dX2_readStatement_26 : decode cX2_readStatement 26 = .ok (.aload_n 0, 1) := by decide +kernel
theorem dX2_readStatement_27 : decode cX2_readStatement 27 = .ok (.invokevirtual 74, 3) := by decide +kernel
theorem dX2_readStatement_30 : decode cX2_readStatement 30 = .ok (.istore_n 1, 1) := by decide +kernel
theorem dX2_readStatement_31 : decode cX2_readStatement 31 = .ok (.goto 95, 3) := by decide +kernel
theorem dX2_readStatement_34 : decode cX2_readStatement 34 = .ok (.aload_n 0, 1) := by decide +kernel
theorem dX2_readStatement_35 : decode cX2_readStatement 35 = .ok (.ldc 77, 2) := by decide +kernel
theorem dX2_readStatement_37 : decode cX2_readStatement 37 = .ok (.invokevirtual 65, 3) := by decide +kernel
theorem dX2_readStatement_40 : decode cX2_readStatement 40 = .ok (.ifCond .eq 11, 3) := by decide +kernel
theorem dX2_readStatement_43 : decode cX2_readStatement 43 = .ok (.aload_n 0, 1) := by decide +kernel
theorem dX2_readStatement_44 : decode cX2_readStatement 44 = .ok (.invokevirtual 79, 3) := by decide +kernel
theorem dX2_readStatement_47 : decode cX2_readStatement 47 = .ok (.istore_n 1, 1) := by decide +kernel
theorem dX2_readStatement_48 : decode cX2_readStatement 48 = .ok (.goto 78, 3) := by decide +kernel
theorem dX2_readStatement_51 : decode cX2_readStatement 51 = .ok (.aload_n 0, 1) := by decide +kernel
theorem dX2_readStatement_52 : decode cX2_readStatement 52 = .ok (.ldc 82, 2) := by decide +kernel
theorem dX2_readStatement_54 : decode cX2_readStatement 54 = .ok (.invokevirtual 65, 3) := by decide +kernel
theorem dX2_readStatement_57 : decode cX2_readStatement 57 = .ok (.ifCond .eq 11, 3) := by decide +kernel
theorem dX2_readStatement_60 : decode cX2_readStatement 60 = .ok (.aload_n 0, 1) := by decide +kernel
theorem dX2_readStatement_61 : decode cX2_readStatement 61 = .ok (.invokevirtual 84, 3) := by decide +kernel
theorem dX2_readStatement_64 : decode cX2_readStatement 64 = .ok (.istore_n 1, 1) := by decide +kernel
theorem dX2_readStatement_65 : decode cX2_readStatement 65 = .ok (.goto 61, 3) := by decide +kernel
theorem dX2_readStatement_68 : decode cX2_readStatement 68 = .ok (.aload_n 0, 1) := by decide +kernel
theorem dX2_readStatement_69 : decode cX2_readStatement 69 = .ok (.ldc 87, 2) := by decide +kernel
theorem dX2_readStatement_71 : decode cX2_readStatement 71 = .ok (.invokevirtual 65, 3) := by decide +kernel
theorem dX2_readStatement_74 : decode cX2_readStatement 74 = .ok (.ifCond .eq 11, 3) := by decide +kernel
theorem dX2_readStatement_77 : decode cX2_readStatement 77 = .ok (.aload_n 0, 1) := by decide +kernel
theorem dX2_readStatement_78 : decode cX2_readStatement 78 = .ok (.invokevirtual 89, 3) := by decide +kernel
theorem dX2_readStatement_81 : decode cX2_readStatement 81 = .ok (.istore_n 1, 1) := by decide +kernel
theorem dX2_readStatement_82 : decode cX2_readStatement 82 = .ok (.goto 44, 3) := by decide +kernel
theorem dX2_readStatement_85 : decode cX2_readStatement 85 = .ok (.aload_n 0, 1) := by decide +kernel
theorem dX2_readStatement_86 : decode cX2_readStatement 86 = .ok (.ldc 92, 2) := by decide +kernel
theorem dX2_readStatement_88 : decode cX2_readStatement 88 = .ok (.invokevirtual 65, 3) := by decide +kernel
theorem dX2_readStatement_91 : decode cX2_readStatement 91 = .ok (.ifCond .eq 11, 3) := by decide +kernel
theorem dX2_readStatement_94 : decode cX2_readStatement 94 = .ok (.aload_n 0, 1) := by decide +kernel
theorem dX2_readStatement_95 : decode cX2_readStatement 95 = .ok (.invokevirtual 94, 3) := by decide +kernel
theorem dX2_readStatement_98 : decode cX2_readStatement 98 = .ok (.istore_n 1, 1) := by decide +kernel
theorem dX2_readStatement_99 : decode cX2_readStatement 99 = .ok (.goto 27, 3) := by decide +kernel
theorem dX2_readStatement_102 : decode cX2_readStatement 102 = .ok (.aload_n 0, 1) := by decide +kernel
theorem dX2_readStatement_103 : decode cX2_readStatement 103 = .ok (.ldc 97, 2) := by decide +kernel
theorem dX2_readStatement_105 : decode cX2_readStatement 105 = .ok (.invokevirtual 65, 3) := by decide +kernel
theorem dX2_readStatement_108 : decode cX2_readStatement 108 = .ok (.ifCond .eq 11, 3) := by decide +kernel
theorem dX2_readStatement_111 : decode cX2_readStatement 111 = .ok (.aload_n 0, 1) := by decide +kernel
theorem dX2_readStatement_112 : decode cX2_readStatement 112 = .ok (.invokevirtual 99, 3) := by decide +kernel
theorem dX2_readStatement_115 : decode cX2_readStatement 115 = .ok (.istore_n 1, 1) := by decide +kernel
theorem dX2_readStatement_116 : decode cX2_readStatement 116 = .ok (.goto 10, 3) := by decide +kernel
theorem dX2_readStatement_119 : decode cX2_readStatement 119 = .ok (.aload_n 0, 1) := by decide +kernel
theorem dX2_readStatement_120 : decode cX2_readStatement 120 = .ok (.bipush (-11), 2) := by decide +kernel
theorem dX2_readStatement_122 : decode cX2_readStatement 122 = .ok (.invokevirtual 102, 3) := by decide +kernel
theorem dX2_readStatement_125 : decode cX2_readStatement 125 = .ok (.istore_n 1, 1) := by decide +kernel
theorem dX2_readStatement_126 : decode cX2_readStatement 126 = .ok (.iload_n 1, 1) := by decide +kernel
theorem dX2_readStatement_127 : decode cX2_readStatement 127 = .ok (.ifCond .eq 14, 3) := by decide +kernel
theorem dX2_readStatement_130 : decode cX2_readStatement 130 = .ok (.aload_n 0, 1) := by decide +kernel
theorem dX2_readStatement_131 : decode cX2_readStatement 131 = .ok (.invokevirtual 106, 3) := by decide +kernel
theorem dX2_readStatement_134 : decode cX2_readStatement 134 = .ok (.ifCond .eq 7, 3) := by decide +kernel
theorem dX2_readStatement_137 : decode cX2_readStatement 137 = .ok (.iconst 1, 1) := by decide +kernel
theorem dX2_readStatement_138 : decode cX2_readStatement 138 = .ok (.goto 4, 3) := by decide +kernel
theorem dX2_readStatement_141 : decode cX2_readStatement 141 = .ok (.iconst 0, 1) := by decide +kernel
theorem dX2_readStatement_142 : decode cX2_readStatement 142 = .ok (.ireturn, 1) := by decide +kernel
theorem dX2_readVolume_0 : decode cX2_readVolume 0 = .ok (.aload_n 0, 1) := by decide +kernel
theorem dX2_readVolume_1 : decode cX2_readVolume 1 = .ok (.getfield 22, 3) := by decide +kernel
theorem dX2_readVolume_4 : decode cX2_readVolume 4 = .ok (.getfield 109, 3) := by decide +kernel
theorem dX2_readVolume_7 : decode cX2_readVolume 7 = .ok (.bipush 6, 2) := by decide +kernel
theorem dX2_readVolume_9 : decode cX2_readVolume 9 = .ok (.if_icmp .lt 10, 3) := by decide +kernel
theorem dX2_readVolume_12 : decode cX2_readVolume 12 = .ok (.aload_n 0, 1) := by decide +kernel
theorem dX2_readVolume_13 : decode cX2_readVolume 13 = .ok (.bipush (-15), 2) := by decide +kernel
theorem dX2_readVolume_15 : decode cX2_readVolume 15 = .ok (.invokevirtual 102, 3) := by decide +kernel
theorem dX2_readVolume_18 : decode cX2_readVolume 18 = .ok (.ireturn, 1) := by decide +kernel
theorem dX2_readVolume_19 : decode cX2_readVolume 19 = .ok (.aload_n 0, 1) := by decide +kernel
theorem dX2_readVolume_20 : decode cX2_readVolume 20 = .ok (.invokevirtual 56, 3) := by decide +kernel
theorem dX2_readVolume_23 : decode cX2_readVolume 23 = .ok (.aload_n 0, 1) := by decide +kernel
theorem dX2_readVolume_24 : decode cX2_readVolume 24 = .ok (.invokevirtual 112, 3) := by decide +kernel
theorem dX2_readVolume_27 : decode cX2_readVolume 27 = .ok (.ifCond .ne 5, 3) := by decide +kernel
theorem dX2_readVolume_30 : decode cX2_readVolume 30 = .ok (.iconst 0, 1) := by decide +kernel
theorem dX2_readVolume_31 : decode cX2_readVolume 31 = .ok (.ireturn, 1) := by decide +kernel
theorem dX2_readVolume_32 : decode cX2_readVolume 32 = .ok (.aload_n 0, 1) := by decide +kernel
theorem dX2_readVolume_33 : decode cX2_readVolume 33 = .ok (.getfield 22, 3) := by decide +kernel
theorem dX2_readVolume_36 : decode cX2_readVolume 36 = .ok (.aload_n 0, 1) := by decide +kernel
theorem dX2_readVolume_37 : decode cX2_readVolume 37 = .ok (.invokevirtual 115, 3) := by decide +kernel
theorem dX2_readVolume_40 : decode cX2_readVolume 40 = .ok (.iconst (-1), 1) := by decide +kernel
theorem dX2_readVolume_41 : decode cX2_readVolume 41 = .ok (.invokevirtual 119, 3) := by decide +kernel
theorem dX2_readVolume_44 : decode cX2_readVolume 44 = .ok (.pop, 1) := by decide +kernel
theorem dX2_readVolume_45 : decode cX2_readVolume 45 = .ok (.aload_n 0, 1) := by decide +kernel
theorem dX2_readVolume_46 : decode cX2_readVolume 46 = .ok (.invokevirtual 56, 3) := by decide +kernel
theorem dX2_readVolume_49 : decode cX2_readVolume 49 = .ok (.iconst 1, 1) := by decide +kernel
theorem dX2_readVolume_50 : decode cX2_readVolume 50 = .ok (.ireturn, 1) := by decide +kernel
theorem dX2_readWrite_0 : decode cX2_readWrite 0 = .ok (.aload_n 0, 1) := by decide +kernel
theorem dX2_readWrite_1 : decode cX2_readWrite 1 = .ok (.invokevirtual 56, 3) := by decide +kernel
theorem dX2_readWrite_4 : decode cX2_readWrite 4 = .ok (.aload_n 0, 1) := by decide +kernel
theorem dX2_readWrite_5 : decode cX2_readWrite 5 = .ok (.invokevirtual 122, 3) := by decide +kernel
theorem dX2_readWrite_8 : decode cX2_readWrite 8 = .ok (.istore_n 1, 1) := by decide +kernel
theorem dX2_readWrite_9 : decode cX2_readWrite 9 = .ok (.iload_n 1, 1) := by decide +kernel
theorem dX2_readWrite_10 : decode cX2_readWrite 10 = .ok (.iconst (-1), 1) := by decide +kernel
theorem dX2_readWrite_11 : decode cX2_readWrite 11 = .ok (.if_icmp .ne 5, 3) := by decide +kernel
theorem dX2_readWrite_14 : decode cX2_readWrite 14 = .ok (.iconst 0, 1) := by decide +kernel
theorem dX2_readWrite_15 : decode cX2_readWrite 15 = .ok (.ireturn, 1) := by decide +kernel
theorem dX2_readWrite_16 : decode cX2_readWrite 16 = .ok (.aload_n 0, 1) := by decide +kernel
theorem dX2_readWrite_17 : decode cX2_readWrite 17 = .ok (.invokevirtual 56, 3) := by decide +kernel
theorem dX2_readWrite_20 : decode cX2_readWrite 20 = .ok (.aload_n 0, 1) := by decide +kernel
theorem dX2_readWrite_21 : decode cX2_readWrite 21 = .ok (.iconst 0, 1) := by decide +kernel
theorem dX2_readWrite_22 : decode cX2_readWrite 22 = .ok (.bipush 11, 2) := by decide +kernel
theorem dX2_readWrite_24 : decode cX2_readWrite 24 = .ok (.invokevirtual 125, 3) := by decide +kernel
theorem dX2_readWrite_27 : decode cX2_readWrite 27 = .ok (.ifCond .ne 5, 3) := by decide +kernel
theorem dX2_readWrite_30 : decode cX2_readWrite 30 = .ok (.iconst 0, 1) := by decide +kernel
theorem dX2_readWrite_31 : decode cX2_readWrite 31 = .ok (.ireturn, 1) := by decide +kernel
theorem dX2_readWrite_32 : decode cX2_readWrite 32 = .ok (.aload_n 0, 1) := by decide +kernel
theorem dX2_readWrite_33 : decode cX2_readWrite 33 = .ok (.invokevirtual 129, 3) := by decide +kernel
theorem dX2_readWrite_36 : decode cX2_readWrite 36 = .ok (.istore_n 2, 1) := by decide +kernel
theorem dX2_readWrite_37 : decode cX2_readWrite 37 = .ok (.aload_n 0, 1) := by decide +kernel
theorem dX2_readWrite_38 : decode cX2_readWrite 38 = .ok (.invokevirtual 56, 3) := by decide +kernel
theorem dX2_readWrite_41 : decode cX2_readWrite 41 = .ok (.aload_n 0, 1) := by decide +kernel
theorem dX2_readWrite_42 : decode cX2_readWrite 42 = .ok (.iconst 1, 1) := by decide +kernel
theorem dX2_readWrite_43 : decode cX2_readWrite 43 = .ok (.bipush 9, 2) := by decide +kernel
theorem dX2_readWrite_45 : decode cX2_readWrite 45 = .ok (.invokevirtual 125, 3) := by decide +kernel
theorem dX2_readWrite_48 : decode cX2_readWrite 48 = .ok (.ifCond .ne 5, 3) := by decide +kernel
theorem dX2_readWrite_51 : decode cX2_readWrite 51 = .ok (.iconst 0, 1) := by decide +kernel
theorem dX2_readWrite_52 : decode cX2_readWrite 52 = .ok (.ireturn, 1) := by decide +kernel
theorem dX2_readWrite_53 : decode cX2_readWrite 53 = .ok (.aload_n 0, 1) := by decide +kernel
theorem dX2_readWrite_54 : decode cX2_readWrite 54 = .ok (.invokevirtual 129, 3) := by decide +kernel
theorem dX2_readWrite_57 : decode cX2_readWrite 57 = .ok (.istore_n 3, 1) := by decide +kernel
theorem dX2_readWrite_58 : decode cX2_readWrite 58 = .ok (.aload_n 0, 1) := by decide +kernel
theorem dX2_readWrite_59 : decode cX2_readWrite 59 = .ok (.getfield 22, 3) := by decide +kernel
theorem dX2_readWrite_62 : decode cX2_readWrite 62 = .ok (.iload_n 1, 1) := by decide +kernel
theorem dX2_readWrite_63 : decode cX2_readWrite 63 = .ok (.iload_n 2, 1) := by decide +kernel
theorem dX2_readWrite_64 : decode cX2_readWrite 64 = .ok (.iload_n 3, 1) := by decide +kernel
theorem dX2_readWrite_65 : decode cX2_readWrite 65 = .ok (.invokevirtual 132, 3) := by decide +kernel
theorem dX2_readWrite_68 : decode cX2_readWrite 68 = .ok (.ifCond .ge 10, 3) := by decide +kernel
theorem dX2_readWrite_71 : decode cX2_readWrite 71 = .ok (.aload_n 0, 1) := by decide +kernel
theorem dX2_readWrite_72 : decode cX2_readWrite 72 = .ok (.bipush (-16), 2) := by decide +kernel
theorem dX2_readWrite_74 : decode cX2_readWrite 74 = .ok (.invokevirtual 102, 3) := by decide +kernel
theorem dX2_readWrite_77 : decode cX2_readWrite 77 = .ok (.ireturn, 1) := by decide +kernel
theorem dX2_readWrite_78 : decode cX2_readWrite 78 = .ok (.aload_n 0, 1) := by decide +kernel
theorem dX2_readWrite_79 : decode cX2_readWrite 79 = .ok (.getfield 22, 3) := by decide +kernel
theorem dX2_readWrite_82 : decode cX2_readWrite 82 = .ok (.iload_n 1, 1) := by decide +kernel
theorem dX2_readWrite_83 : decode cX2_readWrite 83 = .ok (.iload_n 2, 1) := by decide +kernel
theorem dX2_readWrite_84 : decode cX2_readWrite 84 = .ok (.iload_n 3, 1) := by decide +kernel
theorem dX2_readWrite_85 : decode cX2_readWrite 85 = .ok (.invokevirtual 136, 3) := by decide +kernel
theorem dX2_readWrite_88 : decode cX2_readWrite 88 = .ok (.aload_n 0, 1) := by decide +kernel
theorem dX2_readWrite_89 : decode cX2_readWrite 89 = .ok (.invokevirtual 56, 3) := by decide +kernel
theorem dX2_readWrite_92 : decode cX2_readWrite 92 = .ok (.iconst 1, 1) := by decide +kernel
theorem dX2_readWrite_93 : decode cX2_readWrite 93 = .ok (.ireturn, 1) := by decide +kernel
theorem dX2_readTrim_0 : decode cX2_readTrim 0 = .ok (.aload_n 0, 1) := by decide +kernel
theorem dX2_readTrim_1 : decode cX2_readTrim 1 = .ok (.invokevirtual 56, 3) := by decide +kernel
theorem dX2_readTrim_4 : decode cX2_readTrim 4 = .ok (.aload_n 0, 1) := by decide +kernel
theorem dX2_readTrim_5 : decode cX2_readTrim 5 = .ok (.invokevirtual 122, 3) := by decide +kernel
theorem dX2_readTrim_8 : decode cX2_readTrim 8 = .ok (.istore_n 1, 1) := by decide +kernel
theorem dX2_readTrim_9 : decode cX2_readTrim 9 = .ok (.iload_n 1, 1) := by decide +kernel
theorem dX2_readTrim_10 : decode cX2_readTrim 10 = .ok (.iconst (-1), 1) := by decide +kernel
theorem dX2_readTrim_11 : decode cX2_readTrim 11 = .ok (.if_icmp .ne 5, 3) := by decide +kernel
theorem dX2_readTrim_14 : decode cX2_readTrim 14 = .ok (.iconst 0, 1) := by decide +kernel
theorem dX2_readTrim_15 : decode cX2_readTrim 15 = .ok (.ireturn, 1) := by decide +kernel
theorem dX2_readTrim_16 : decode cX2_readTrim 16 = .ok (.aload_n 0, 1) := by decide +kernel
theorem dX2_readTrim_17 : decode cX2_readTrim 17 = .ok (.invokevirtual 56, 3) := by decide +kernel
theorem dX2_readTrim_20 : decode cX2_readTrim 20 = .ok (.aload_n 0, 1) := by decide +kernel
theorem dX2_readTrim_21 : decode cX2_readTrim 21 = .ok (.iconst 0, 1) := by decide +kernel
theorem dX2_readTrim_22 : decode cX2_readTrim 22 = .ok (.bipush 11, 2) := by decide +kernel
theorem dX2_readTrim_24 : decode cX2_readTrim 24 = .ok (.invokevirtual 125, 3) := by decide +kernel
theorem dX2_readTrim_27 : decode cX2_readTrim 27 = .ok (.ifCond .ne 5, 3) := by decide +kernel
theorem dX2_readTrim_30 : decode cX2_readTrim 30 = .ok (.iconst 0, 1) := by decide +kernel
theorem dX2_readTrim_31 : decode cX2_readTrim 31 = .ok (.ireturn, 1) := by decide +kernel
theorem dX2_readTrim_32 : decode cX2_readTrim 32 = .ok (.aload_n 0, 1) := by decide +kernel
theorem dX2_readTrim_33 : decode cX2_readTrim 33 = .ok (.getfield 22, 3) := by decide +kernel
theorem dX2_readTrim_36 : decode cX2_readTrim 36 = .ok (.getfield 140, 3) := by decide +kernel
theorem dX2_readTrim_39 : decode cX2_readTrim 39 = .ok (.bipush 16, 2) := by decide +kernel
theorem dX2_readTrim_41 : decode cX2_readTrim 41 = .ok (.iload_n 1, 1) := by decide +kernel
theorem dX2_readTrim_42 : decode cX2_readTrim 42 = .ok (.iadd, 1) := by decide +kernel
theorem dX2_readTrim_43 : decode cX2_readTrim 43 = .ok (.aload_n 0, 1) := by decide +kernel
theorem dX2_readTrim_44 : decode cX2_readTrim 44 = .ok (.invokevirtual 129, 3) := by decide +kernel
theorem dX2_readTrim_47 : decode cX2_readTrim 47 = .ok (.invokevirtual 144, 3) := by decide +kernel
theorem dX2_readTrim_50 : decode cX2_readTrim 50 = .ok (.pop, 1) := by decide +kernel
theorem dX2_readTrim_51 : decode cX2_readTrim 51 = .ok (.aload_n 0, 1) := by decide +kernel
theorem dX2_readTrim_52 : decode cX2_readTrim 52 = .ok (.invokevirtual 56, 3) := by decide +kernel
theorem dX2_readTrim_55 : decode cX2_readTrim 55 = .ok (.iconst 1, 1) := by decide +kernel
theorem dX2_readTrim_56 : decode cX2_readTrim 56 = .ok (.ireturn, 1) := by decide +kernel
theorem dX2_readSnap_0 : decode cX2_readSnap 0 = .ok (.aload_n 0, 1) := by decide +kernel
theorem dX2_readSnap_1 : decode cX2_readSnap 1 = .ok (.getfield 22, 3) := by decide +kernel
theorem dX2_readSnap_4 : decode cX2_readSnap 4 = .ok (.getfield 149, 3) := by decide +kernel
theorem dX2_readSnap_7 : decode cX2_readSnap 7 = .ok (.bipush 16, 2) := by decide +kernel
theorem dX2_readSnap_9 : decode cX2_readSnap 9 = .ok (.if_icmp .lt 10, 3) := by decide +kernel
theorem dX2_readSnap_12 : decode cX2_readSnap 12 = .ok (.aload_n 0, 1) := by decide +kernel
theorem dX2_readSnap_13 : decode cX2_readSnap 13 = .ok (.bipush (-15), 2) := by decide +kernel
theorem dX2_readSnap_15 : decode cX2_readSnap 15 = .ok (.invokevirtual 102, 3) := by decide +kernel
theorem dX2_readSnap_18 : decode cX2_readSnap 18 = .ok (.ireturn, 1) := by decide +kernel
theorem dX2_readSnap_19 : decode cX2_readSnap 19 = .ok (.aload_n 0, 1) := by decide +kernel
theorem dX2_readSnap_20 : decode cX2_readSnap 20 = .ok (.invokevirtual 56, 3) := by decide +kernel
theorem dX2_readSnap_23 : decode cX2_readSnap 23 = .ok (.aload_n 0, 1) := by decide +kernel
theorem dX2_readSnap_24 : decode cX2_readSnap 24 = .ok (.invokevirtual 122, 3) := by decide +kernel
theorem dX2_readSnap_27 : decode cX2_readSnap 27 = .ok (.istore_n 1, 1) := by decide +kernel
theorem dX2_readSnap_28 : decode cX2_readSnap 28 = .ok (.iload_n 1, 1) := by decide +kernel
theorem dX2_readSnap_29 : decode cX2_readSnap 29 = .ok (.iconst (-1), 1) := by decide +kernel
theorem dX2_readSnap_30 : decode cX2_readSnap 30 = .ok (.if_icmp .ne 5, 3) := by decide +kernel
theorem dX2_readSnap_33 : decode cX2_readSnap 33 = .ok (.iconst 0, 1) := by decide +kernel
theorem dX2_readSnap_34 : decode cX2_readSnap 34 = .ok (.ireturn, 1) := by decide +kernel
theorem dX2_readSnap_35 : decode cX2_readSnap 35 = .ok (.aload_n 0, 1) := by decide +kernel
theorem dX2_readSnap_36 : decode cX2_readSnap 36 = .ok (.invokevirtual 56, 3) := by decide +kernel
theorem dX2_readSnap_39 : decode cX2_readSnap 39 = .ok (.aload_n 0, 1) := by decide +kernel
theorem dX2_readSnap_40 : decode cX2_readSnap 40 = .ok (.invokevirtual 152, 3) := by decide +kernel
theorem dX2_readSnap_43 : decode cX2_readSnap 43 = .ok (.ifCond .ne 5, 3) := by decide +kernel
theorem dX2_readSnap_46 : decode cX2_readSnap 46 = .ok (.iconst 0, 1) := by decide +kernel
theorem dX2_readSnap_47 : decode cX2_readSnap 47 = .ok (.ireturn, 1) := by decide +kernel
theorem dX2_readSnap_48 : decode cX2_readSnap 48 = .ok (.aload_n 0, 1) := by decide +kernel
theorem dX2_readSnap_49 : decode cX2_readSnap 49 = .ok (.getfield 22, 3) := by decide +kernel
theorem dX2_readSnap_52 : decode cX2_readSnap 52 = .ok (.aload_n 0, 1) := by decide +kernel
theorem dX2_readSnap_53 : decode cX2_readSnap 53 = .ok (.invokevirtual 115, 3) := by decide +kernel
theorem dX2_readSnap_56 : decode cX2_readSnap 56 = .ok (.iload_n 1, 1) := by decide +kernel
theorem dX2_readSnap_57 : decode cX2_readSnap 57 = .ok (.invokevirtual 155, 3) := by decide +kernel
theorem dX2_readSnap_60 : decode cX2_readSnap 60 = .ok (.pop, 1) := by decide +kernel
theorem dX2_readSnap_61 : decode cX2_readSnap 61 = .ok (.aload_n 0, 1) := by decide +kernel
theorem dX2_readSnap_62 : decode cX2_readSnap 62 = .ok (.invokevirtual 56, 3) := by decide +kernel
theorem dX2_readSnap_65 : decode cX2_readSnap 65 = .ok (.iconst 1, 1) := by decide +kernel
theorem dX2_readSnap_66 : decode cX2_readSnap 66 = .ok (.ireturn, 1) := by decide +kernel
theorem dX2_readClone_0 : decode cX2_readClone 0 = .ok (.aload_n 0, 1) := by decide +kernel
theorem dX2_readClone_1 : decode cX2_readClone 1 = .ok (.getfield 22, 3) := by decide +kernel
theorem dX2_readClone_4 : decode cX2_readClone 4 = .ok (.getfield 109, 3) := by decide +kernel
theorem dX2_readClone_7 : decode cX2_readClone 7 = .ok (.bipush 6, 2) := by decide +kernel
theorem dX2_readClone_9 : decode cX2_readClone 9 = .ok (.if_icmp .lt 10, 3) := by decide +kernel
theorem dX2_readClone_12 : decode cX2_readClone 12 = .ok (.aload_n 0, 1) := by decide +kernel
theorem dX2_readClone_13 : decode cX2_readClone 13 = .ok (.bipush (-15), 2) := by decide +kernel
theorem dX2_readClone_15 : decode cX2_readClone 15 = .ok (.invokevirtual 102, 3) := by decide +kernel
theorem dX2_readClone_18 : decode cX2_readClone 18 = .ok (.ireturn, 1) := by decide +kernel
theorem dX2_readClone_19 : decode cX2_readClone 19 = .ok (.aload_n 0, 1) := by decide +kernel
theorem dX2_readClone_20 : decode cX2_readClone 20 = .ok (.invokevirtual 56, 3) := by decide +kernel
theorem dX2_readClone_23 : decode cX2_readClone 23 = .ok (.aload_n 0, 1) := by decide +kernel
theorem dX2_readClone_24 : decode cX2_readClone 24 = .ok (.invokevirtual 158, 3) := by decide +kernel
theorem dX2_readClone_27 : decode cX2_readClone 27 = .ok (.istore_n 1, 1) := by decide +kernel
theorem dX2_readClone_28 : decode cX2_readClone 28 = .ok (.iload_n 1, 1) := by decide +kernel
theorem dX2_readClone_29 : decode cX2_readClone 29 = .ok (.iconst (-1), 1) := by decide +kernel
theorem dX2_readClone_30 : decode cX2_readClone 30 = .ok (.if_icmp .ne 5, 3) := by decide +kernel
theorem dX2_readClone_33 : decode cX2_readClone 33 = .ok (.iconst 0, 1) := by decide +kernel
theorem dX2_readClone_34 : decode cX2_readClone 34 = .ok (.ireturn, 1) := by decide +kernel
theorem dX2_readClone_35 : decode cX2_readClone 35 = .ok (.aload_n 0, 1) := by decide +kernel
theorem dX2_readClone_36 : decode cX2_readClone 36 = .ok (.getfield 22, 3) := by decide +kernel
theorem dX2_readClone_39 : decode cX2_readClone 39 = .ok (.iload_n 1, 1) := by decide +kernel
theorem dX2_readClone_40 : decode cX2_readClone 40 = .ok (.invokevirtual 161, 3) := by decide +kernel
theorem dX2_readClone_43 : decode cX2_readClone 43 = .ok (.ifCond .ne 10, 3) := by decide +kernel
theorem dX2_readClone_46 : decode cX2_readClone 46 = .ok (.aload_n 0, 1) := by decide +kernel
theorem dX2_readClone_47 : decode cX2_readClone 47 = .ok (.bipush (-15), 2) := by decide +kernel
theorem dX2_readClone_49 : decode cX2_readClone 49 = .ok (.invokevirtual 102, 3) := by decide +kernel
theorem dX2_readClone_52 : decode cX2_readClone 52 = .ok (.ireturn, 1) := by decide +kernel
theorem dX2_readClone_53 : decode cX2_readClone 53 = .ok (.aload_n 0, 1) := by decide +kernel
theorem dX2_readClone_54 : decode cX2_readClone 54 = .ok (.invokevirtual 56, 3) := by decide +kernel
theorem dX2_readClone_57 : decode cX2_readClone 57 = .ok (.aload_n 0, 1) := by decide +kernel
theorem dX2_readClone_58 : decode cX2_readClone 58 = .ok (.invokevirtual 112, 3) := by decide +kernel
theorem dX2_readClone_61 : decode cX2_readClone 61 = .ok (.ifCond .ne 5, 3) := by decide +kernel
theorem dX2_readClone_64 : decode cX2_readClone 64 = .ok (.iconst 0, 1) := by decide +kernel
theorem dX2_readClone_65 : decode cX2_readClone 65 = .ok (.ireturn, 1) := by decide +kernel
theorem dX2_readClone_66 : decode cX2_readClone 66 = .ok (.aload_n 0, 1) := by decide +kernel
theorem dX2_readClone_67 : decode cX2_readClone 67 = .ok (.getfield 22, 3) := by decide +kernel
theorem dX2_readClone_70 : decode cX2_readClone 70 = .ok (.aload_n 0, 1) := by decide +kernel
theorem dX2_readClone_71 : decode cX2_readClone 71 = .ok (.invokevirtual 115, 3) := by decide +kernel
theorem dX2_readClone_74 : decode cX2_readClone 74 = .ok (.iload_n 1, 1) := by decide +kernel
theorem dX2_readClone_75 : decode cX2_readClone 75 = .ok (.invokevirtual 119, 3) := by decide +kernel
theorem dX2_readClone_78 : decode cX2_readClone 78 = .ok (.pop, 1) := by decide +kernel
theorem dX2_readClone_79 : decode cX2_readClone 79 = .ok (.aload_n 0, 1) := by decide +kernel
theorem dX2_readClone_80 : decode cX2_readClone 80 = .ok (.invokevirtual 56, 3) := by decide +kernel
theorem dX2_readClone_83 : decode cX2_readClone 83 = .ok (.iconst 1, 1) := by decide +kernel
theorem dX2_readClone_84 : decode cX2_readClone 84 = .ok (.ireturn, 1) := by decide +kernel
theorem dX2_readHold_0 : decode cX2_readHold 0 = .ok (.aload_n 0, 1) := by decide +kernel
theorem dX2_readHold_1 : decode cX2_readHold 1 = .ok (.invokevirtual 56, 3) := by decide +kernel
theorem dX2_readHold_4 : decode cX2_readHold 4 = .ok (.aload_n 0, 1) := by decide +kernel
theorem dX2_readHold_5 : decode cX2_readHold 5 = .ok (.invokevirtual 158, 3) := by decide +kernel
theorem dX2_readHold_8 : decode cX2_readHold 8 = .ok (.istore_n 1, 1) := by decide +kernel
theorem dX2_readHold_9 : decode cX2_readHold 9 = .ok (.iload_n 1, 1) := by decide +kernel
theorem dX2_readHold_10 : decode cX2_readHold 10 = .ok (.iconst (-1), 1) := by decide +kernel
theorem dX2_readHold_11 : decode cX2_readHold 11 = .ok (.if_icmp .ne 5, 3) := by decide +kernel
theorem dX2_readHold_14 : decode cX2_readHold 14 = .ok (.iconst 0, 1) := by decide +kernel
theorem dX2_readHold_15 : decode cX2_readHold 15 = .ok (.ireturn, 1) := by decide +kernel
theorem dX2_readHold_16 : decode cX2_readHold 16 = .ok (.aload_n 0, 1) := by decide +kernel
theorem dX2_readHold_17 : decode cX2_readHold 17 = .ok (.getfield 22, 3) := by decide +kernel
theorem dX2_readHold_20 : decode cX2_readHold 20 = .ok (.getfield 164, 3) := by decide +kernel
theorem dX2_readHold_23 : decode cX2_readHold 23 = .ok (.iload_n 1, 1) := by decide +kernel
theorem dX2_readHold_24 : decode cX2_readHold 24 = .ok (.invokestatic 167, 3) := by decide +kernel
theorem dX2_readHold_27 : decode cX2_readHold 27 = .ok (.ifCond .eq 10, 3) := by decide +kernel
theorem dX2_readHold_30 : decode cX2_readHold 30 = .ok (.aload_n 0, 1) := by decide +kernel
theorem dX2_readHold_31 : decode cX2_readHold 31 = .ok (.bipush (-14), 2) := by decide +kernel
theorem dX2_readHold_33 : decode cX2_readHold 33 = .ok (.invokevirtual 102, 3) := by decide +kernel
theorem dX2_readHold_36 : decode cX2_readHold 36 = .ok (.ireturn, 1) := by decide +kernel
theorem dX2_readHold_37 : decode cX2_readHold 37 = .ok (.aload_n 0, 1) := by decide +kernel
theorem dX2_readHold_38 : decode cX2_readHold 38 = .ok (.getfield 22, 3) := by decide +kernel
theorem dX2_readHold_41 : decode cX2_readHold 41 = .ok (.dup, 1) := by decide +kernel
theorem dX2_readHold_42 : decode cX2_readHold 42 = .ok (.getfield 164, 3) := by decide +kernel
theorem dX2_readHold_45 : decode cX2_readHold 45 = .ok (.iload_n 1, 1) := by decide +kernel
theorem dX2_readHold_46 : decode cX2_readHold 46 = .ok (.invokestatic 170, 3) := by decide +kernel
theorem dX2_readHold_49 : decode cX2_readHold 49 = .ok (.ior, 1) := by decide +kernel
theorem dX2_readHold_50 : decode cX2_readHold 50 = .ok (.putfield 164, 3) := by decide +kernel
theorem dX2_readHold_53 : decode cX2_readHold 53 = .ok (.aload_n 0, 1) := by decide +kernel
theorem dX2_readHold_54 : decode cX2_readHold 54 = .ok (.invokevirtual 56, 3) := by decide +kernel
theorem dX2_readHold_57 : decode cX2_readHold 57 = .ok (.iconst 1, 1) := by decide +kernel
theorem dX2_readHold_58 : decode cX2_readHold 58 = .ok (.ireturn, 1) := by decide +kernel
theorem dX2_readSet_0 : decode cX2_readSet 0 = .ok (.aload_n 0, 1) := by decide +kernel
theorem dX2_readSet_1 : decode cX2_readSet 1 = .ok (.invokevirtual 56, 3) := by decide +kernel
theorem dX2_readSet_4 : decode cX2_readSet 4 = .ok (.aload_n 0, 1) := by decide +kernel
theorem dX2_readSet_5 : decode cX2_readSet 5 = .ok (.ldc 174, 2) := by decide +kernel
theorem dX2_readSet_7 : decode cX2_readSet 7 = .ok (.invokevirtual 65, 3) := by decide +kernel
theorem dX2_readSet_10 : decode cX2_readSet 10 = .ok (.ifCond .ne 19, 3) := by decide +kernel
theorem dX2_readSet_13 : decode cX2_readSet 13 = .ok (.aload_n 0, 1) := by decide +kernel
theorem dX2_readSet_14 : decode cX2_readSet 14 = .ok (.ldc 176, 2) := by decide +kernel
theorem dX2_readSet_16 : decode cX2_readSet 16 = .ok (.invokevirtual 65, 3) := by decide +kernel
theorem dX2_readSet_19 : decode cX2_readSet 19 = .ok (.ifCond .ne 10, 3) := by decide +kernel
theorem dX2_readSet_22 : decode cX2_readSet 22 = .ok (.aload_n 0, 1) := by decide +kernel
theorem dX2_readSet_23 : decode cX2_readSet 23 = .ok (.bipush (-11), 2) := by decide +kernel
theorem dX2_readSet_25 : decode cX2_readSet 25 = .ok (.invokevirtual 102, 3) := by decide +kernel
theorem dX2_readSet_28 : decode cX2_readSet 28 = .ok (.ireturn, 1) := by decide +kernel
theorem dX2_readSet_29 : decode cX2_readSet 29 = .ok (.aload_n 0, 1) := by decide +kernel
theorem dX2_readSet_30 : decode cX2_readSet 30 = .ok (.ldc 174, 2) := by decide +kernel
theorem dX2_readSet_32 : decode cX2_readSet 32 = .ok (.invokevirtual 65, 3) := by decide +kernel
theorem dX2_readSet_35 : decode cX2_readSet 35 = .ok (.ifCond .eq 7, 3) := by decide +kernel
theorem dX2_readSet_38 : decode cX2_readSet 38 = .ok (.iconst 0, 1) := by decide +kernel
theorem dX2_readSet_39 : decode cX2_readSet 39 = .ok (.goto 4, 3) := by decide +kernel
theorem dX2_readSet_42 : decode cX2_readSet 42 = .ok (.iconst 1, 1) := by decide +kernel
theorem dX2_readSet_43 : decode cX2_readSet 43 = .ok (.istore_n 1, 1) := by decide +kernel
theorem dX2_readSet_44 : decode cX2_readSet 44 = .ok (.aload_n 0, 1) := by decide +kernel
theorem dX2_readSet_45 : decode cX2_readSet 45 = .ok (.getfield 44, 3) := by decide +kernel
theorem dX2_readSet_48 : decode cX2_readSet 48 = .ok (.iload_n 1, 1) := by decide +kernel
theorem dX2_readSet_49 : decode cX2_readSet 49 = .ok (.invokestatic 167, 3) := by decide +kernel
theorem dX2_readSet_52 : decode cX2_readSet 52 = .ok (.ifCond .eq 10, 3) := by decide +kernel
theorem dX2_readSet_55 : decode cX2_readSet 55 = .ok (.aload_n 0, 1) := by decide +kernel
theorem dX2_readSet_56 : decode cX2_readSet 56 = .ok (.bipush (-14), 2) := by decide +kernel
theorem dX2_readSet_58 : decode cX2_readSet 58 = .ok (.invokevirtual 102, 3) := by decide +kernel
theorem dX2_readSet_61 : decode cX2_readSet 61 = .ok (.ireturn, 1) := by decide +kernel
theorem dX2_readSet_62 : decode cX2_readSet 62 = .ok (.aload_n 0, 1) := by decide +kernel
theorem dX2_readSet_63 : decode cX2_readSet 63 = .ok (.dup, 1) := by decide +kernel
theorem dX2_readSet_64 : decode cX2_readSet 64 = .ok (.getfield 44, 3) := by decide +kernel
theorem dX2_readSet_67 : decode cX2_readSet 67 = .ok (.iload_n 1, 1) := by decide +kernel
theorem dX2_readSet_68 : decode cX2_readSet 68 = .ok (.invokestatic 170, 3) := by decide +kernel
theorem dX2_readSet_71 : decode cX2_readSet 71 = .ok (.ior, 1) := by decide +kernel
theorem dX2_readSet_72 : decode cX2_readSet 72 = .ok (.putfield 44, 3) := by decide +kernel
theorem dX2_readSet_75 : decode cX2_readSet 75 = .ok (.aload_n 0, 1) := by decide +kernel
theorem dX2_readSet_76 : decode cX2_readSet 76 = .ok (.invokevirtual 56, 3) := by decide +kernel
theorem dX2_readSet_79 : decode cX2_readSet 79 = .ok (.aload_n 0, 1) := by decide +kernel
theorem dX2_readSet_80 : decode cX2_readSet 80 = .ok (.iload_n 1, 1) := by decide +kernel
theorem dX2_readSet_81 : decode cX2_readSet 81 = .ok (.invokestatic 178, 3) := by decide +kernel
theorem dX2_readSet_84 : decode cX2_readSet 84 = .ok (.iload_n 1, 1) := by decide +kernel
theorem dX2_readSet_85 : decode cX2_readSet 85 = .ok (.invokestatic 181, 3) := by decide +kernel
theorem dX2_readSet_88 : decode cX2_readSet 88 = .ok (.invokevirtual 125, 3) := by decide +kernel
theorem dX2_readSet_91 : decode cX2_readSet 91 = .ok (.ifCond .ne 5, 3) := by decide +kernel
theorem dX2_readSet_94 : decode cX2_readSet 94 = .ok (.iconst 0, 1) := by decide +kernel
theorem dX2_readSet_95 : decode cX2_readSet 95 = .ok (.ireturn, 1) := by decide +kernel
theorem dX2_readSet_96 : decode cX2_readSet 96 = .ok (.aload_n 0, 1) := by decide +kernel
theorem dX2_readSet_97 : decode cX2_readSet 97 = .ok (.getfield 22, 3) := by decide +kernel
theorem dX2_readSet_100 : decode cX2_readSet 100 = .ok (.getfield 184, 3) := by decide +kernel
theorem dX2_readSet_103 : decode cX2_readSet 103 = .ok (.iload_n 1, 1) := by decide +kernel
theorem dX2_readSet_104 : decode cX2_readSet 104 = .ok (.aload_n 0, 1) := by decide +kernel
theorem dX2_readSet_105 : decode cX2_readSet 105 = .ok (.invokevirtual 129, 3) := by decide +kernel
theorem dX2_readSet_108 : decode cX2_readSet 108 = .ok (.iastore, 1) := by decide +kernel
theorem dX2_readSet_109 : decode cX2_readSet 109 = .ok (.aload_n 0, 1) := by decide +kernel
theorem dX2_readSet_110 : decode cX2_readSet 110 = .ok (.invokevirtual 56, 3) := by decide +kernel
theorem dX2_readSet_113 : decode cX2_readSet 113 = .ok (.iconst 1, 1) := by decide +kernel
theorem dX2_readSet_114 : decode cX2_readSet 114 = .ok (.ireturn, 1) := by decide +kernel
theorem dX2_readEnd_0 : decode cX2_readEnd 0 = .ok (.aload_n 0, 1) := by decide +kernel
theorem dX2_readEnd_1 : decode cX2_readEnd 1 = .ok (.getfield 41, 3) := by decide +kernel
theorem dX2_readEnd_4 : decode cX2_readEnd 4 = .ok (.iconst 3, 1) := by decide +kernel
theorem dX2_readEnd_5 : decode cX2_readEnd 5 = .ok (.if_icmp .eq 10, 3) := by decide +kernel
theorem dX2_readEnd_8 : decode cX2_readEnd 8 = .ok (.aload_n 0, 1) := by decide +kernel
theorem dX2_readEnd_9 : decode cX2_readEnd 9 = .ok (.bipush (-11), 2) := by decide +kernel
theorem dX2_readEnd_11 : decode cX2_readEnd 11 = .ok (.invokevirtual 102, 3) := by decide +kernel
theorem dX2_readEnd_14 : decode cX2_readEnd 14 = .ok (.ireturn, 1) := by decide +kernel
theorem dX2_readEnd_15 : decode cX2_readEnd 15 = .ok (.aload_n 0, 1) := by decide +kernel
theorem dX2_readEnd_16 : decode cX2_readEnd 16 = .ok (.invokevirtual 56, 3) := by decide +kernel
theorem dX2_readEnd_19 : decode cX2_readEnd 19 = .ok (.iconst 1, 1) := by decide +kernel
theorem dX2_readEnd_20 : decode cX2_readEnd 20 = .ok (.ireturn, 1) := by decide +kernel
theorem dX2_expectVolume_0 : decode cX2_expectVolume 0 = .ok (.aload_n 0, 1) := by decide +kernel
theorem dX2_expectVolume_1 : decode cX2_expectVolume 1 = .ok (.invokevirtual 188, 3) := by decide +kernel
theorem dX2_expectVolume_4 : decode cX2_expectVolume 4 = .ok (.ifCond .ne 5, 3) := by decide +kernel
theorem dX2_expectVolume_7 : decode cX2_expectVolume 7 = .ok (.iconst (-1), 1) := by decide +kernel
theorem dX2_expectVolume_8 : decode cX2_expectVolume 8 = .ok (.ireturn, 1) := by decide +kernel
theorem dX2_expectVolume_9 : decode cX2_expectVolume 9 = .ok (.aload_n 0, 1) := by decide +kernel
theorem dX2_expectVolume_10 : decode cX2_expectVolume 10 = .ok (.getfield 22, 3) := by decide +kernel
theorem dX2_expectVolume_13 : decode cX2_expectVolume 13 = .ok (.aload_n 0, 1) := by decide +kernel
theorem dX2_expectVolume_14 : decode cX2_expectVolume 14 = .ok (.invokevirtual 115, 3) := by decide +kernel
theorem dX2_expectVolume_17 : decode cX2_expectVolume 17 = .ok (.invokevirtual 191, 3) := by decide +kernel
theorem dX2_expectVolume_20 : decode cX2_expectVolume 20 = .ok (.istore_n 1, 1) := by decide +kernel
theorem dX2_expectVolume_21 : decode cX2_expectVolume 21 = .ok (.iload_n 1, 1) := by decide +kernel
theorem dX2_expectVolume_22 : decode cX2_expectVolume 22 = .ok (.iconst (-1), 1) := by decide +kernel
theorem dX2_expectVolume_23 : decode cX2_expectVolume 23 = .ok (.if_icmp .ne 10, 3) := by decide +kernel
theorem dX2_expectVolume_26 : decode cX2_expectVolume 26 = .ok (.aload_n 0, 1) := by decide +kernel
theorem dX2_expectVolume_27 : decode cX2_expectVolume 27 = .ok (.bipush (-13), 2) := by decide +kernel
theorem dX2_expectVolume_29 : decode cX2_expectVolume 29 = .ok (.invokevirtual 102, 3) := by decide +kernel
theorem dX2_expectVolume_32 : decode cX2_expectVolume 32 = .ok (.pop, 1) := by decide +kernel
theorem dX2_expectVolume_33 : decode cX2_expectVolume 33 = .ok (.iload_n 1, 1) := by decide +kernel
theorem dX2_expectVolume_34 : decode cX2_expectVolume 34 = .ok (.ireturn, 1) := by decide +kernel
theorem dX2_expectSnapshot_0 : decode cX2_expectSnapshot 0 = .ok (.aload_n 0, 1) := by decide +kernel
theorem dX2_expectSnapshot_1 : decode cX2_expectSnapshot 1 = .ok (.invokevirtual 188, 3) := by decide +kernel
theorem dX2_expectSnapshot_4 : decode cX2_expectSnapshot 4 = .ok (.ifCond .ne 5, 3) := by decide +kernel
theorem dX2_expectSnapshot_7 : decode cX2_expectSnapshot 7 = .ok (.iconst (-1), 1) := by decide +kernel
theorem dX2_expectSnapshot_8 : decode cX2_expectSnapshot 8 = .ok (.ireturn, 1) := by decide +kernel
theorem dX2_expectSnapshot_9 : decode cX2_expectSnapshot 9 = .ok (.aload_n 0, 1) := by decide +kernel
theorem dX2_expectSnapshot_10 : decode cX2_expectSnapshot 10 = .ok (.getfield 22, 3) := by decide +kernel
theorem dX2_expectSnapshot_13 : decode cX2_expectSnapshot 13 = .ok (.aload_n 0, 1) := by decide +kernel
theorem dX2_expectSnapshot_14 : decode cX2_expectSnapshot 14 = .ok (.invokevirtual 115, 3) := by decide +kernel
theorem dX2_expectSnapshot_17 : decode cX2_expectSnapshot 17 = .ok (.invokevirtual 194, 3) := by decide +kernel
theorem dX2_expectSnapshot_20 : decode cX2_expectSnapshot 20 = .ok (.istore_n 1, 1) := by decide +kernel
theorem dX2_expectSnapshot_21 : decode cX2_expectSnapshot 21 = .ok (.iload_n 1, 1) := by decide +kernel
theorem dX2_expectSnapshot_22 : decode cX2_expectSnapshot 22 = .ok (.iconst (-1), 1) := by decide +kernel
theorem dX2_expectSnapshot_23 : decode cX2_expectSnapshot 23 = .ok (.if_icmp .ne 10, 3) := by decide +kernel
theorem dX2_expectSnapshot_26 : decode cX2_expectSnapshot 26 = .ok (.aload_n 0, 1) := by decide +kernel
theorem dX2_expectSnapshot_27 : decode cX2_expectSnapshot 27 = .ok (.bipush (-13), 2) := by decide +kernel
theorem dX2_expectSnapshot_29 : decode cX2_expectSnapshot 29 = .ok (.invokevirtual 102, 3) := by decide +kernel
theorem dX2_expectSnapshot_32 : decode cX2_expectSnapshot 32 = .ok (.pop, 1) := by decide +kernel
theorem dX2_expectSnapshot_33 : decode cX2_expectSnapshot 33 = .ok (.iload_n 1, 1) := by decide +kernel
theorem dX2_expectSnapshot_34 : decode cX2_expectSnapshot 34 = .ok (.ireturn, 1) := by decide +kernel
theorem dX2_expectNewVolumeName_0 : decode cX2_expectNewVolumeName 0 = .ok (.aload_n 0, 1) := by decide +kernel
theorem dX2_expectNewVolumeName_1 : decode cX2_expectNewVolumeName 1 = .ok (.invokevirtual 188, 3) := by decide +kernel
theorem dX2_expectNewVolumeName_4 : decode cX2_expectNewVolumeName 4 = .ok (.ifCond .ne 5, 3) := by decide +kernel
theorem dX2_expectNewVolumeName_7 : decode cX2_expectNewVolumeName 7 = .ok (.iconst 0, 1) := by decide +kernel
theorem dX2_expectNewVolumeName_8 : decode cX2_expectNewVolumeName 8 = .ok (.ireturn, 1) := by decide +kernel
theorem dX2_expectNewVolumeName_9 : decode cX2_expectNewVolumeName 9 = .ok (.aload_n 0, 1) := by decide +kernel
theorem dX2_expectNewVolumeName_10 : decode cX2_expectNewVolumeName 10 = .ok (.getfield 22, 3) := by decide +kernel
theorem dX2_expectNewVolumeName_13 : decode cX2_expectNewVolumeName 13 = .ok (.aload_n 0, 1) := by decide +kernel
theorem dX2_expectNewVolumeName_14 : decode cX2_expectNewVolumeName 14 = .ok (.invokevirtual 115, 3) := by decide +kernel
theorem dX2_expectNewVolumeName_17 : decode cX2_expectNewVolumeName 17 = .ok (.invokevirtual 191, 3) := by decide +kernel
theorem dX2_expectNewVolumeName_20 : decode cX2_expectNewVolumeName 20 = .ok (.iconst (-1), 1) := by decide +kernel
theorem dX2_expectNewVolumeName_21 : decode cX2_expectNewVolumeName 21 = .ok (.if_icmp .eq 12, 3) := by decide +kernel
theorem dX2_expectNewVolumeName_24 : decode cX2_expectNewVolumeName 24 = .ok (.aload_n 0, 1) := by decide +kernel
theorem dX2_expectNewVolumeName_25 : decode cX2_expectNewVolumeName 25 = .ok (.bipush (-14), 2) := by decide +kernel
theorem dX2_expectNewVolumeName_27 : decode cX2_expectNewVolumeName 27 = .ok (.invokevirtual 102, 3) := by decide +kernel
theorem dX2_expectNewVolumeName_30 : decode cX2_expectNewVolumeName 30 = .ok (.ifCond .eq 7, 3) := by decide +kernel
theorem dX2_expectNewVolumeName_33 : decode cX2_expectNewVolumeName 33 = .ok (.iconst 1, 1) := by decide +kernel
theorem dX2_expectNewVolumeName_34 : decode cX2_expectNewVolumeName 34 = .ok (.goto 4, 3) := by decide +kernel
theorem dX2_expectNewVolumeName_37 : decode cX2_expectNewVolumeName 37 = .ok (.iconst 0, 1) := by decide +kernel
theorem dX2_expectNewVolumeName_38 : decode cX2_expectNewVolumeName 38 = .ok (.ireturn, 1) := by decide +kernel
theorem dX2_expectNewSnapshotName_0 : decode cX2_expectNewSnapshotName 0 = .ok (.aload_n 0, 1) := by decide +kernel
theorem dX2_expectNewSnapshotName_1 : decode cX2_expectNewSnapshotName 1 = .ok (.invokevirtual 188, 3) := by decide +kernel
theorem dX2_expectNewSnapshotName_4 : decode cX2_expectNewSnapshotName 4 = .ok (.ifCond .ne 5, 3) := by decide +kernel
theorem dX2_expectNewSnapshotName_7 : decode cX2_expectNewSnapshotName 7 = .ok (.iconst 0, 1) := by decide +kernel
theorem dX2_expectNewSnapshotName_8 : decode cX2_expectNewSnapshotName 8 = .ok (.ireturn, 1) := by decide +kernel
theorem dX2_expectNewSnapshotName_9 : decode cX2_expectNewSnapshotName 9 = .ok (.aload_n 0, 1) := by decide +kernel
theorem dX2_expectNewSnapshotName_10 : decode cX2_expectNewSnapshotName 10 = .ok (.getfield 22, 3) := by decide +kernel
theorem dX2_expectNewSnapshotName_13 : decode cX2_expectNewSnapshotName 13 = .ok (.aload_n 0, 1) := by decide +kernel
theorem dX2_expectNewSnapshotName_14 : decode cX2_expectNewSnapshotName 14 = .ok (.invokevirtual 115, 3) := by decide +kernel
theorem dX2_expectNewSnapshotName_17 : decode cX2_expectNewSnapshotName 17 = .ok (.invokevirtual 194, 3) := by decide +kernel
theorem dX2_expectNewSnapshotName_20 : decode cX2_expectNewSnapshotName 20 = .ok (.iconst (-1), 1) := by decide +kernel
theorem dX2_expectNewSnapshotName_21 : decode cX2_expectNewSnapshotName 21 = .ok (.if_icmp .eq 12, 3) := by decide +kernel
theorem dX2_expectNewSnapshotName_24 : decode cX2_expectNewSnapshotName 24 = .ok (.aload_n 0, 1) := by decide +kernel
theorem dX2_expectNewSnapshotName_25 : decode cX2_expectNewSnapshotName 25 = .ok (.bipush (-14), 2) := by decide +kernel
theorem dX2_expectNewSnapshotName_27 : decode cX2_expectNewSnapshotName 27 = .ok (.invokevirtual 102, 3) := by decide +kernel
theorem dX2_expectNewSnapshotName_30 : decode cX2_expectNewSnapshotName 30 = .ok (.ifCond .eq 7, 3) := by decide +kernel
theorem dX2_expectNewSnapshotName_33 : decode cX2_expectNewSnapshotName 33 = .ok (.iconst 1, 1) := by decide +kernel
theorem dX2_expectNewSnapshotName_34 : decode cX2_expectNewSnapshotName 34 = .ok (.goto 4, 3) := by decide +kernel
theorem dX2_expectNewSnapshotName_37 : decode cX2_expectNewSnapshotName 37 = .ok (.iconst 0, 1) := by decide +kernel
theorem dX2_expectNewSnapshotName_38 : decode cX2_expectNewSnapshotName 38 = .ok (.ireturn, 1) := by decide +kernel
theorem dX2_expectName_0 : decode cX2_expectName 0 = .ok (.aload_n 0, 1) := by decide +kernel
theorem dX2_expectName_1 : decode cX2_expectName 1 = .ok (.getfield 41, 3) := by decide +kernel
theorem dX2_expectName_4 : decode cX2_expectName 4 = .ok (.iconst 1, 1) := by decide +kernel
theorem dX2_expectName_5 : decode cX2_expectName 5 = .ok (.if_icmp .ne 17, 3) := by decide +kernel
theorem dX2_expectName_8 : decode cX2_expectName 8 = .ok (.aload_n 0, 1) := by decide +kernel
theorem dX2_expectName_9 : decode cX2_expectName 9 = .ok (.getfield 38, 3) := by decide +kernel
theorem dX2_expectName_12 : decode cX2_expectName 12 = .ok (.aload_n 0, 1) := by decide +kernel
theorem dX2_expectName_13 : decode cX2_expectName 13 = .ok (.getfield 35, 3) := by decide +kernel
theorem dX2_expectName_16 : decode cX2_expectName 16 = .ok (.isub, 1) := by decide +kernel
theorem dX2_expectName_17 : decode cX2_expectName 17 = .ok (.bipush 6, 2) := by decide +kernel
theorem dX2_expectName_19 : decode cX2_expectName 19 = .ok (.if_icmp .le 12, 3) := by decide +kernel
theorem dX2_expectName_22 : decode cX2_expectName 22 = .ok (.aload_n 0, 1) := by decide +kernel
theorem dX2_expectName_23 : decode cX2_expectName 23 = .ok (.bipush (-11), 2) := by decide +kernel
theorem dX2_expectName_25 : decode cX2_expectName 25 = .ok (.invokevirtual 102, 3) := by decide +kernel
theorem dX2_expectName_28 : decode cX2_expectName 28 = .ok (.ifCond .eq 7, 3) := by decide +kernel
theorem dX2_expectName_31 : decode cX2_expectName 31 = .ok (.iconst 1, 1) := by decide +kernel
theorem dX2_expectName_32 : decode cX2_expectName 32 = .ok (.goto 4, 3) := by decide +kernel
theorem dX2_expectName_35 : decode cX2_expectName 35 = .ok (.iconst 0, 1) := by decide +kernel
theorem dX2_expectName_36 : decode cX2_expectName 36 = .ok (.ireturn, 1) := by decide +kernel
theorem dX2_expectInteger_0 : decode cX2_expectInteger 0 = .ok (.aload_n 0, 1) := by decide +kernel
theorem dX2_expectInteger_1 : decode cX2_expectInteger 1 = .ok (.getfield 41, 3) := by decide +kernel
theorem dX2_expectInteger_4 : decode cX2_expectInteger 4 = .ok (.iconst 2, 1) := by decide +kernel
theorem dX2_expectInteger_5 : decode cX2_expectInteger 5 = .ok (.if_icmp .eq 10, 3) := by decide +kernel
theorem dX2_expectInteger_8 : decode cX2_expectInteger 8 = .ok (.aload_n 0, 1) := by decide +kernel
theorem dX2_expectInteger_9 : decode cX2_expectInteger 9 = .ok (.bipush (-11), 2) := by decide +kernel
theorem dX2_expectInteger_11 : decode cX2_expectInteger 11 = .ok (.invokevirtual 102, 3) := by decide +kernel
theorem dX2_expectInteger_14 : decode cX2_expectInteger 14 = .ok (.ireturn, 1) := by decide +kernel
theorem dX2_expectInteger_15 : decode cX2_expectInteger 15 = .ok (.aload_n 0, 1) := by decide +kernel
theorem dX2_expectInteger_16 : decode cX2_expectInteger 16 = .ok (.invokevirtual 129, 3) := by decide +kernel
theorem dX2_expectInteger_19 : decode cX2_expectInteger 19 = .ok (.istore_n 3, 1) := by decide +kernel
theorem dX2_expectInteger_20 : decode cX2_expectInteger 20 = .ok (.iload_n 3, 1) := by decide +kernel
theorem dX2_expectInteger_21 : decode cX2_expectInteger 21 = .ok (.iload_n 1, 1) := by decide +kernel
theorem dX2_expectInteger_22 : decode cX2_expectInteger 22 = .ok (.if_icmp .lt 8, 3) := by decide +kernel
theorem dX2_expectInteger_25 : decode cX2_expectInteger 25 = .ok (.iload_n 3, 1) := by decide +kernel
theorem dX2_expectInteger_26 : decode cX2_expectInteger 26 = .ok (.iload_n 2, 1) := by decide +kernel
theorem dX2_expectInteger_27 : decode cX2_expectInteger 27 = .ok (.if_icmp .le 12, 3) := by decide +kernel
theorem dX2_expectInteger_30 : decode cX2_expectInteger 30 = .ok (.aload_n 0, 1) := by decide +kernel
theorem dX2_expectInteger_31 : decode cX2_expectInteger 31 = .ok (.bipush (-12), 2) := by decide +kernel
theorem dX2_expectInteger_33 : decode cX2_expectInteger 33 = .ok (.invokevirtual 102, 3) := by decide +kernel
theorem dX2_expectInteger_36 : decode cX2_expectInteger 36 = .ok (.ifCond .eq 7, 3) := by decide +kernel
theorem dX2_expectInteger_39 : decode cX2_expectInteger 39 = .ok (.iconst 1, 1) := by decide +kernel
theorem dX2_expectInteger_40 : decode cX2_expectInteger 40 = .ok (.goto 4, 3) := by decide +kernel
theorem dX2_expectInteger_43 : decode cX2_expectInteger 43 = .ok (.iconst 0, 1) := by decide +kernel
theorem dX2_expectInteger_44 : decode cX2_expectInteger 44 = .ok (.ireturn, 1) := by decide +kernel
theorem dX2_fail_0 : decode cX2_fail 0 = .ok (.aload_n 0, 1) := by decide +kernel
theorem dX2_fail_1 : decode cX2_fail 1 = .ok (.iload_n 1, 1) := by decide +kernel
theorem dX2_fail_2 : decode cX2_fail 2 = .ok (.putfield 29, 3) := by decide +kernel
theorem dX2_fail_5 : decode cX2_fail 5 = .ok (.aload_n 0, 1) := by decide +kernel
theorem dX2_fail_6 : decode cX2_fail 6 = .ok (.aload_n 0, 1) := by decide +kernel
theorem dX2_fail_7 : decode cX2_fail 7 = .ok (.getfield 35, 3) := by decide +kernel
theorem dX2_fail_10 : decode cX2_fail 10 = .ok (.putfield 26, 3) := by decide +kernel
theorem dX2_fail_13 : decode cX2_fail 13 = .ok (.iconst 0, 1) := by decide +kernel
theorem dX2_fail_14 : decode cX2_fail 14 = .ok (.ireturn, 1) := by decide +kernel
theorem dX2_isWord_0 : decode cX2_isWord 0 = .ok (.aload_n 0, 1) := by decide +kernel
theorem dX2_isWord_1 : decode cX2_isWord 1 = .ok (.getfield 41, 3) := by decide +kernel
theorem dX2_isWord_4 : decode cX2_isWord 4 = .ok (.iconst 1, 1) := by decide +kernel
theorem dX2_isWord_5 : decode cX2_isWord 5 = .ok (.if_icmp .ne 19, 3) := by decide +kernel
theorem dX2_isWord_8 : decode cX2_isWord 8 = .ok (.aload_n 0, 1) := by decide +kernel
theorem dX2_isWord_9 : decode cX2_isWord 9 = .ok (.getfield 38, 3) := by decide +kernel
theorem dX2_isWord_12 : decode cX2_isWord 12 = .ok (.aload_n 0, 1) := by decide +kernel
theorem dX2_isWord_13 : decode cX2_isWord 13 = .ok (.getfield 35, 3) := by decide +kernel
theorem dX2_isWord_16 : decode cX2_isWord 16 = .ok (.isub, 1) := by decide +kernel
theorem dX2_isWord_17 : decode cX2_isWord 17 = .ok (.aload_n 1, 1) := by decide +kernel
theorem dX2_isWord_18 : decode cX2_isWord 18 = .ok (.invokevirtual 197, 3) := by decide +kernel
theorem dX2_isWord_21 : decode cX2_isWord 21 = .ok (.if_icmp .eq 5, 3) := by decide +kernel
theorem dX2_isWord_24 : decode cX2_isWord 24 = .ok (.iconst 0, 1) := by decide +kernel
theorem dX2_isWord_25 : decode cX2_isWord 25 = .ok (.ireturn, 1) := by decide +kernel
theorem dX2_isWord_26 : decode cX2_isWord 26 = .ok (.iconst 0, 1) := by decide +kernel
theorem dX2_isWord_27 : decode cX2_isWord 27 = .ok (.istore_n 2, 1) := by decide +kernel
theorem dX2_isWord_28 : decode cX2_isWord 28 = .ok (.iload_n 2, 1) := by decide +kernel
theorem dX2_isWord_29 : decode cX2_isWord 29 = .ok (.aload_n 1, 1) := by decide +kernel
theorem dX2_isWord_30 : decode cX2_isWord 30 = .ok (.invokevirtual 197, 3) := by decide +kernel
theorem dX2_isWord_33 : decode cX2_isWord 33 = .ok (.if_icmp .ge 29, 3) := by decide +kernel
theorem dX2_isWord_36 : decode cX2_isWord 36 = .ok (.aload_n 0, 1) := by decide +kernel
theorem dX2_isWord_37 : decode cX2_isWord 37 = .ok (.aload_n 0, 1) := by decide +kernel
theorem dX2_isWord_38 : decode cX2_isWord 38 = .ok (.getfield 35, 3) := by decide +kernel
theorem dX2_isWord_41 : decode cX2_isWord 41 = .ok (.iload_n 2, 1) := by decide +kernel
theorem dX2_isWord_42 : decode cX2_isWord 42 = .ok (.iadd, 1) := by decide +kernel
theorem dX2_isWord_43 : decode cX2_isWord 43 = .ok (.invokevirtual 201, 3) := by decide +kernel
theorem dX2_isWord_46 : decode cX2_isWord 46 = .ok (.aload_n 1, 1) := by decide +kernel
theorem dX2_isWord_47 : decode cX2_isWord 47 = .ok (.iload_n 2, 1) := by decide +kernel
theorem dX2_isWord_48 : decode cX2_isWord 48 = .ok (.invokevirtual 205, 3) := by decide +kernel
theorem dX2_isWord_51 : decode cX2_isWord 51 = .ok (.if_icmp .eq 5, 3) := by decide +kernel
theorem dX2_isWord_54 : decode cX2_isWord 54 = .ok (.iconst 0, 1) := by decide +kernel
theorem dX2_isWord_55 : decode cX2_isWord 55 = .ok (.ireturn, 1) := by decide +kernel
theorem dX2_isWord_56 : decode cX2_isWord 56 = .ok (.iinc 2 1, 3) := by decide +kernel
theorem dX2_isWord_59 : decode cX2_isWord 59 = .ok (.goto (-31), 3) := by decide +kernel
theorem dX2_isWord_62 : decode cX2_isWord 62 = .ok (.iconst 1, 1) := by decide +kernel
theorem dX2_isWord_63 : decode cX2_isWord 63 = .ok (.ireturn, 1) := by decide +kernel
theorem dX2_nameCode_0 : decode cX2_nameCode 0 = .ok (.iconst 0, 1) := by decide +kernel
theorem dX2_nameCode_1 : decode cX2_nameCode 1 = .ok (.istore_n 1, 1) := by decide +kernel
theorem dX2_nameCode_2 : decode cX2_nameCode 2 = .ok (.aload_n 0, 1) := by decide +kernel
theorem dX2_nameCode_3 : decode cX2_nameCode 3 = .ok (.getfield 35, 3) := by decide +kernel
theorem dX2_nameCode_6 : decode cX2_nameCode 6 = .ok (.istore_n 2, 1) := by decide +kernel
theorem dX2_nameCode_7 : decode cX2_nameCode 7 = .ok (.iload_n 2, 1) := by decide +kernel
theorem dX2_nameCode_8 : decode cX2_nameCode 8 = .ok (.aload_n 0, 1) := by decide +kernel
theorem dX2_nameCode_9 : decode cX2_nameCode 9 = .ok (.getfield 35, 3) := by decide +kernel
theorem dX2_nameCode_12 : decode cX2_nameCode 12 = .ok (.bipush 6, 2) := by decide +kernel
theorem dX2_nameCode_14 : decode cX2_nameCode 14 = .ok (.iadd, 1) := by decide +kernel
theorem dX2_nameCode_15 : decode cX2_nameCode 15 = .ok (.if_icmp .ge 36, 3) := by decide +kernel
theorem dX2_nameCode_18 : decode cX2_nameCode 18 = .ok (.iload_n 1, 1) := by decide +kernel
theorem dX2_nameCode_19 : decode cX2_nameCode 19 = .ok (.iconst 5, 1) := by decide +kernel
theorem dX2_nameCode_20 : decode cX2_nameCode 20 = .ok (.ishl, 1) := by decide +kernel
theorem dX2_nameCode_21 : decode cX2_nameCode 21 = .ok (.iload_n 2, 1) := by decide +kernel
theorem dX2_nameCode_22 : decode cX2_nameCode 22 = .ok (.aload_n 0, 1) := by decide +kernel
theorem dX2_nameCode_23 : decode cX2_nameCode 23 = .ok (.getfield 38, 3) := by decide +kernel
theorem dX2_nameCode_26 : decode cX2_nameCode 26 = .ok (.if_icmp .ge 16, 3) := by decide +kernel
theorem dX2_nameCode_29 : decode cX2_nameCode 29 = .ok (.aload_n 0, 1) := by decide +kernel
theorem dX2_nameCode_30 : decode cX2_nameCode 30 = .ok (.iload_n 2, 1) := by decide +kernel
theorem dX2_nameCode_31 : decode cX2_nameCode 31 = .ok (.invokevirtual 201, 3) := by decide +kernel
theorem dX2_nameCode_34 : decode cX2_nameCode 34 = .ok (.bipush 97, 2) := by decide +kernel
theorem dX2_nameCode_36 : decode cX2_nameCode 36 = .ok (.isub, 1) := by decide +kernel
theorem dX2_nameCode_37 : decode cX2_nameCode 37 = .ok (.iconst 1, 1) := by decide +kernel
theorem dX2_nameCode_38 : decode cX2_nameCode 38 = .ok (.iadd, 1) := by decide +kernel
theorem dX2_nameCode_39 : decode cX2_nameCode 39 = .ok (.goto 4, 3) := by decide +kernel
theorem dX2_nameCode_42 : decode cX2_nameCode 42 = .ok (.iconst 0, 1) := by decide +kernel
theorem dX2_nameCode_43 : decode cX2_nameCode 43 = .ok (.ior, 1) := by decide +kernel
theorem dX2_nameCode_44 : decode cX2_nameCode 44 = .ok (.istore_n 1, 1) := by decide +kernel
theorem dX2_nameCode_45 : decode cX2_nameCode 45 = .ok (.iinc 2 1, 3) := by decide +kernel
theorem dX2_nameCode_48 : decode cX2_nameCode 48 = .ok (.goto (-41), 3) := by decide +kernel
theorem dX2_nameCode_51 : decode cX2_nameCode 51 = .ok (.iload_n 1, 1) := by decide +kernel
theorem dX2_nameCode_52 : decode cX2_nameCode 52 = .ok (.ireturn, 1) := by decide +kernel
theorem dX2_integerValue_0 : decode cX2_integerValue 0 = .ok (.iconst 0, 1) := by decide +kernel
theorem dX2_integerValue_1 : decode cX2_integerValue 1 = .ok (.istore_n 1, 1) := by decide +kernel
theorem dX2_integerValue_2 : decode cX2_integerValue 2 = .ok (.aload_n 0, 1) := by decide +kernel
theorem dX2_integerValue_3 : decode cX2_integerValue 3 = .ok (.getfield 35, 3) := by decide +kernel
theorem dX2_integerValue_6 : decode cX2_integerValue 6 = .ok (.istore_n 2, 1) := by decide +kernel
theorem dX2_integerValue_7 : decode cX2_integerValue 7 = .ok (.iload_n 2, 1) := by decide +kernel
theorem dX2_integerValue_8 : decode cX2_integerValue 8 = .ok (.aload_n 0, 1) := by decide +kernel
theorem dX2_integerValue_9 : decode cX2_integerValue 9 = .ok (.getfield 38, 3) := by decide +kernel
theorem dX2_integerValue_12 : decode cX2_integerValue 12 = .ok (.if_icmp .ge 28, 3) := by decide +kernel
theorem dX2_integerValue_15 : decode cX2_integerValue 15 = .ok (.iload_n 1, 1) := by decide +kernel
theorem dX2_integerValue_16 : decode cX2_integerValue 16 = .ok (.bipush 10, 2) := by decide +kernel
theorem dX2_integerValue_18 : decode cX2_integerValue 18 = .ok (.imul, 1) := by decide +kernel
theorem dX2_integerValue_19 : decode cX2_integerValue 19 = .ok (.aload_n 0, 1) := by decide +kernel
theorem dX2_integerValue_20 : decode cX2_integerValue 20 = .ok (.iload_n 2, 1) := by decide +kernel
theorem dX2_integerValue_21 : decode cX2_integerValue 21 = .ok (.invokevirtual 201, 3) := by decide +kernel
theorem dX2_integerValue_24 : decode cX2_integerValue 24 = .ok (.iadd, 1) := by decide +kernel
theorem dX2_integerValue_25 : decode cX2_integerValue 25 = .ok (.bipush 48, 2) := by decide +kernel
theorem dX2_integerValue_27 : decode cX2_integerValue 27 = .ok (.isub, 1) := by decide +kernel
theorem dX2_integerValue_28 : decode cX2_integerValue 28 = .ok (.ldc 206, 2) := by decide +kernel
theorem dX2_integerValue_30 : decode cX2_integerValue 30 = .ok (.invokestatic 47, 3) := by decide +kernel
theorem dX2_integerValue_33 : decode cX2_integerValue 33 = .ok (.istore_n 1, 1) := by decide +kernel
theorem dX2_integerValue_34 : decode cX2_integerValue 34 = .ok (.iinc 2 1, 3) := by decide +kernel
theorem dX2_integerValue_37 : decode cX2_integerValue 37 = .ok (.goto (-30), 3) := by decide +kernel
theorem dX2_integerValue_40 : decode cX2_integerValue 40 = .ok (.iload_n 1, 1) := by decide +kernel
theorem dX2_integerValue_41 : decode cX2_integerValue 41 = .ok (.ireturn, 1) := by decide +kernel
theorem dX2_advance_0 : decode cX2_advance 0 = .ok (.aload_n 0, 1) := by decide +kernel
theorem dX2_advance_1 : decode cX2_advance 1 = .ok (.aload_n 0, 1) := by decide +kernel
theorem dX2_advance_2 : decode cX2_advance 2 = .ok (.getfield 38, 3) := by decide +kernel
theorem dX2_advance_5 : decode cX2_advance 5 = .ok (.putfield 35, 3) := by decide +kernel
theorem dX2_advance_8 : decode cX2_advance 8 = .ok (.aload_n 0, 1) := by decide +kernel
theorem dX2_advance_9 : decode cX2_advance 9 = .ok (.getfield 35, 3) := by decide +kernel
theorem dX2_advance_12 : decode cX2_advance 12 = .ok (.aload_n 0, 1) := by decide +kernel
theorem dX2_advance_13 : decode cX2_advance 13 = .ok (.getfield 32, 3) := by decide +kernel
theorem dX2_advance_16 : decode cX2_advance 16 = .ok (.if_icmp .ge 42, 3) := by decide +kernel
theorem dX2_advance_19 : decode cX2_advance 19 = .ok (.aload_n 0, 1) := by decide +kernel
theorem dX2_advance_20 : decode cX2_advance 20 = .ok (.aload_n 0, 1) := by decide +kernel
theorem dX2_advance_21 : decode cX2_advance 21 = .ok (.getfield 35, 3) := by decide +kernel
theorem dX2_advance_24 : decode cX2_advance 24 = .ok (.invokevirtual 201, 3) := by decide +kernel
theorem dX2_advance_27 : decode cX2_advance 27 = .ok (.bipush 32, 2) := by decide +kernel
theorem dX2_advance_29 : decode cX2_advance 29 = .ok (.if_icmp .eq 16, 3) := by decide +kernel
theorem dX2_advance_32 : decode cX2_advance 32 = .ok (.aload_n 0, 1) := by decide +kernel
theorem dX2_advance_33 : decode cX2_advance 33 = .ok (.aload_n 0, 1) := by decide +kernel
theorem dX2_advance_34 : decode cX2_advance 34 = .ok (.getfield 35, 3) := by decide +kernel
theorem dX2_advance_37 : decode cX2_advance 37 = .ok (.invokevirtual 201, 3) := by decide +kernel
theorem dX2_advance_40 : decode cX2_advance 40 = .ok (.bipush 10, 2) := by decide +kernel
theorem dX2_advance_42 : decode cX2_advance 42 = .ok (.if_icmp .ne 16, 3) := by decide +kernel
theorem dX2_advance_45 : decode cX2_advance 45 = .ok (.aload_n 0, 1) := by decide +kernel
theorem dX2_advance_46 : decode cX2_advance 46 = .ok (.dup, 1) := by decide +kernel
theorem dX2_advance_47 : decode cX2_advance 47 = .ok (.getfield 35, 3) := by decide +kernel
theorem dX2_advance_50 : decode cX2_advance 50 = .ok (.iconst 1, 1) := by decide +kernel
theorem dX2_advance_51 : decode cX2_advance 51 = .ok (.iadd, 1) := by decide +kernel
theorem dX2_advance_52 : decode cX2_advance 52 = .ok (.putfield 35, 3) := by decide +kernel
theorem dX2_advance_55 : decode cX2_advance 55 = .ok (.goto (-47), 3) := by decide +kernel
theorem dX2_advance_58 : decode cX2_advance 58 = .ok (.aload_n 0, 1) := by decide +kernel
theorem dX2_advance_59 : decode cX2_advance 59 = .ok (.aload_n 0, 1) := by decide +kernel
theorem dX2_advance_60 : decode cX2_advance 60 = .ok (.aload_n 0, 1) := by decide +kernel
theorem dX2_advance_61 : decode cX2_advance 61 = .ok (.getfield 35, 3) := by decide +kernel
theorem dX2_advance_64 : decode cX2_advance 64 = .ok (.invokevirtual 207, 3) := by decide +kernel
theorem dX2_advance_67 : decode cX2_advance 67 = .ok (.putfield 41, 3) := by decide +kernel
theorem dX2_advance_70 : decode cX2_advance 70 = .ok (.aload_n 0, 1) := by decide +kernel
theorem dX2_advance_71 : decode cX2_advance 71 = .ok (.aload_n 0, 1) := by decide +kernel
theorem dX2_advance_72 : decode cX2_advance 72 = .ok (.getfield 35, 3) := by decide +kernel
theorem dX2_advance_75 : decode cX2_advance 75 = .ok (.aload_n 0, 1) := by decide +kernel
theorem dX2_advance_76 : decode cX2_advance 76 = .ok (.getfield 32, 3) := by decide +kernel
theorem dX2_advance_79 : decode cX2_advance 79 = .ok (.if_icmp .ge 12, 3) := by decide +kernel
theorem dX2_advance_82 : decode cX2_advance 82 = .ok (.aload_n 0, 1) := by decide +kernel
theorem dX2_advance_83 : decode cX2_advance 83 = .ok (.getfield 35, 3) := by decide +kernel
theorem dX2_advance_86 : decode cX2_advance 86 = .ok (.iconst 1, 1) := by decide +kernel
theorem dX2_advance_87 : decode cX2_advance 87 = .ok (.iadd, 1) := by decide +kernel
theorem dX2_advance_88 : decode cX2_advance 88 = .ok (.goto 7, 3) := by decide +kernel
theorem dX2_advance_91 : decode cX2_advance 91 = .ok (.aload_n 0, 1) := by decide +kernel
theorem dX2_advance_92 : decode cX2_advance 92 = .ok (.getfield 32, 3) := by decide +kernel
theorem dX2_advance_95 : decode cX2_advance 95 = .ok (.putfield 38, 3) := by decide +kernel
theorem dX2_advance_98 : decode cX2_advance 98 = .ok (.aload_n 0, 1) := by decide +kernel
theorem dX2_advance_99 : decode cX2_advance 99 = .ok (.getfield 41, 3) := by decide +kernel
theorem dX2_advance_102 : decode cX2_advance 102 = .ok (.iconst 1, 1) := by decide +kernel
theorem dX2_advance_103 : decode cX2_advance 103 = .ok (.if_icmp .eq 11, 3) := by decide +kernel
theorem dX2_advance_106 : decode cX2_advance 106 = .ok (.aload_n 0, 1) := by decide +kernel
theorem dX2_advance_107 : decode cX2_advance 107 = .ok (.getfield 41, 3) := by decide +kernel
theorem dX2_advance_110 : decode cX2_advance 110 = .ok (.iconst 2, 1) := by decide +kernel
theorem dX2_advance_111 : decode cX2_advance 111 = .ok (.if_icmp .ne 42, 3) := by decide +kernel
theorem dX2_advance_114 : decode cX2_advance 114 = .ok (.aload_n 0, 1) := by decide +kernel
theorem dX2_advance_115 : decode cX2_advance 115 = .ok (.getfield 38, 3) := by decide +kernel
theorem dX2_advance_118 : decode cX2_advance 118 = .ok (.aload_n 0, 1) := by decide +kernel
theorem dX2_advance_119 : decode cX2_advance 119 = .ok (.getfield 32, 3) := by decide +kernel
theorem dX2_advance_122 : decode cX2_advance 122 = .ok (.if_icmp .ge 31, 3) := by decide +kernel
theorem dX2_advance_125 : decode cX2_advance 125 = .ok (.aload_n 0, 1) := by decide +kernel
theorem dX2_advance_126 : decode cX2_advance 126 = .ok (.aload_n 0, 1) := by decide +kernel
theorem dX2_advance_127 : decode cX2_advance 127 = .ok (.getfield 38, 3) := by decide +kernel
theorem dX2_advance_130 : decode cX2_advance 130 = .ok (.invokevirtual 207, 3) := by decide +kernel
theorem dX2_advance_133 : decode cX2_advance 133 = .ok (.aload_n 0, 1) := by decide +kernel
theorem dX2_advance_134 : decode cX2_advance 134 = .ok (.getfield 41, 3) := by decide +kernel
theorem dX2_advance_137 : decode cX2_advance 137 = .ok (.if_icmp .ne 16, 3) := by decide +kernel
theorem dX2_advance_140 : decode cX2_advance 140 = .ok (.aload_n 0, 1) := by decide +kernel
theorem dX2_advance_141 : decode cX2_advance 141 = .ok (.dup, 1) := by decide +kernel
theorem dX2_advance_142 : decode cX2_advance 142 = .ok (.getfield 38, 3) := by decide +kernel
theorem dX2_advance_145 : decode cX2_advance 145 = .ok (.iconst 1, 1) := by decide +kernel
theorem dX2_advance_146 : decode cX2_advance 146 = .ok (.iadd, 1) := by decide +kernel
theorem dX2_advance_147 : decode cX2_advance 147 = .ok (.putfield 38, 3) := by decide +kernel
theorem dX2_advance_150 : decode cX2_advance 150 = .ok (.goto (-36), 3) := by decide +kernel
theorem dX2_advance_153 : decode cX2_advance 153 = .ok (.return_, 1) := by decide +kernel
theorem dX2_kindAt_0 : decode cX2_kindAt 0 = .ok (.iload_n 1, 1) := by decide +kernel
theorem dX2_kindAt_1 : decode cX2_kindAt 1 = .ok (.aload_n 0, 1) := by decide +kernel
theorem dX2_kindAt_2 : decode cX2_kindAt 2 = .ok (.getfield 32, 3) := by decide +kernel
theorem dX2_kindAt_5 : decode cX2_kindAt 5 = .ok (.if_icmp .lt 5, 3) := by decide +kernel
theorem dX2_kindAt_8 : decode cX2_kindAt 8 = .ok (.iconst 0, 1) := by decide +kernel
theorem dX2_kindAt_9 : decode cX2_kindAt 9 = .ok (.ireturn, 1) := by decide +kernel
theorem dX2_kindAt_10 : decode cX2_kindAt 10 = .ok (.aload_n 0, 1) := by decide +kernel
theorem dX2_kindAt_11 : decode cX2_kindAt 11 = .ok (.iload_n 1, 1) := by decide +kernel
theorem dX2_kindAt_12 : decode cX2_kindAt 12 = .ok (.invokevirtual 201, 3) := by decide +kernel
theorem dX2_kindAt_15 : decode cX2_kindAt 15 = .ok (.istore_n 2, 1) := by decide +kernel
theorem dX2_kindAt_16 : decode cX2_kindAt 16 = .ok (.iload_n 2, 1) := by decide +kernel
theorem dX2_kindAt_17 : decode cX2_kindAt 17 = .ok (.bipush 97, 2) := by decide +kernel
theorem dX2_kindAt_19 : decode cX2_kindAt 19 = .ok (.if_icmp .lt 11, 3) := by decide +kernel
theorem dX2_kindAt_22 : decode cX2_kindAt 22 = .ok (.iload_n 2, 1) := by decide +kernel
theorem dX2_kindAt_23 : decode cX2_kindAt 23 = .ok (.bipush 122, 2) := by decide +kernel
theorem dX2_kindAt_25 : decode cX2_kindAt 25 = .ok (.if_icmp .gt 5, 3) := by decide +kernel
theorem dX2_kindAt_28 : decode cX2_kindAt 28 = .ok (.iconst 1, 1) := by decide +kernel
theorem dX2_kindAt_29 : decode cX2_kindAt 29 = .ok (.ireturn, 1) := by decide +kernel
theorem dX2_kindAt_30 : decode cX2_kindAt 30 = .ok (.iload_n 2, 1) := by decide +kernel
theorem dX2_kindAt_31 : decode cX2_kindAt 31 = .ok (.bipush 48, 2) := by decide +kernel
theorem dX2_kindAt_33 : decode cX2_kindAt 33 = .ok (.if_icmp .lt 11, 3) := by decide +kernel
theorem dX2_kindAt_36 : decode cX2_kindAt 36 = .ok (.iload_n 2, 1) := by decide +kernel
theorem dX2_kindAt_37 : decode cX2_kindAt 37 = .ok (.bipush 57, 2) := by decide +kernel
theorem dX2_kindAt_39 : decode cX2_kindAt 39 = .ok (.if_icmp .gt 5, 3) := by decide +kernel
theorem dX2_kindAt_42 : decode cX2_kindAt 42 = .ok (.iconst 2, 1) := by decide +kernel
theorem dX2_kindAt_43 : decode cX2_kindAt 43 = .ok (.ireturn, 1) := by decide +kernel
theorem dX2_kindAt_44 : decode cX2_kindAt 44 = .ok (.iload_n 2, 1) := by decide +kernel
theorem dX2_kindAt_45 : decode cX2_kindAt 45 = .ok (.bipush 59, 2) := by decide +kernel
theorem dX2_kindAt_47 : decode cX2_kindAt 47 = .ok (.if_icmp .ne 7, 3) := by decide +kernel
theorem dX2_kindAt_50 : decode cX2_kindAt 50 = .ok (.iconst 3, 1) := by decide +kernel
theorem dX2_kindAt_51 : decode cX2_kindAt 51 = .ok (.goto 4, 3) := by decide +kernel
theorem dX2_kindAt_54 : decode cX2_kindAt 54 = .ok (.iconst 4, 1) := by decide +kernel
theorem dX2_kindAt_55 : decode cX2_kindAt 55 = .ok (.ireturn, 1) := by decide +kernel
theorem dX2_charAt_0 : decode cX2_charAt 0 = .ok (.iload_n 1, 1) := by decide +kernel
theorem dX2_charAt_1 : decode cX2_charAt 1 = .ok (.ifCond .lt 19, 3) := by decide +kernel
theorem dX2_charAt_4 : decode cX2_charAt 4 = .ok (.iload_n 1, 1) := by decide +kernel
theorem dX2_charAt_5 : decode cX2_charAt 5 = .ok (.sipush 1000, 3) := by decide +kernel
theorem dX2_charAt_8 : decode cX2_charAt 8 = .ok (.if_icmp .ge 12, 3) := by decide +kernel
theorem dX2_charAt_11 : decode cX2_charAt 11 = .ok (.aload_n 0, 1) := by decide +kernel
theorem dX2_charAt_12 : decode cX2_charAt 12 = .ok (.getfield 9, 3) := by decide +kernel
theorem dX2_charAt_15 : decode cX2_charAt 15 = .ok (.iload_n 1, 1) := by decide +kernel
theorem dX2_charAt_16 : decode cX2_charAt 16 = .ok (.caload, 1) := by decide +kernel
theorem dX2_charAt_17 : decode cX2_charAt 17 = .ok (.goto 5, 3) := by decide +kernel
theorem dX2_charAt_20 : decode cX2_charAt 20 = .ok (.bipush 32, 2) := by decide +kernel
theorem dX2_charAt_22 : decode cX2_charAt 22 = .ok (.ireturn, 1) := by decide +kernel
theorem dX3_init_0 : decode cX3_init 0 = .ok (.aload_n 0, 1) := by decide +kernel
theorem dX3_init_1 : decode cX3_init 1 = .ok (.invokespecial 5, 3) := by decide +kernel
theorem dX3_init_4 : decode cX3_init 4 = .ok (.aload_n 0, 1) := by decide +kernel
theorem dX3_init_5 : decode cX3_init 5 = .ok (.bipush 16, 2) := by decide +kernel
theorem dX3_init_7 : decode cX3_init 7 = .ok (.newarray .int, 2) := by decide +kernel
theorem dX3_init_9 : decode cX3_init 9 = .ok (.putfield 11, 3) := by decide +kernel
theorem dX3_init_12 : decode cX3_init 12 = .ok (.aload_n 0, 1) := by decide +kernel
theorem dX3_init_13 : decode cX3_init 13 = .ok (.iconst 0, 1) := by decide +kernel
theorem dX3_init_14 : decode cX3_init 14 = .ok (.putfield 15, 3) := by decide +kernel
theorem dX3_init_17 : decode cX3_init 17 = .ok (.aload_n 0, 1) := by decide +kernel
theorem dX3_init_18 : decode cX3_init 18 = .ok (.bipush 17, 2) := by decide +kernel
theorem dX3_init_20 : decode cX3_init 20 = .ok (.bipush 17, 2) := by decide +kernel
theorem dX3_init_22 : decode cX3_init 22 = .ok (.multianewarray 19 2, 4) := by decide +kernel
theorem dX3_init_26 : decode cX3_init 26 = .ok (.putfield 21, 3) := by decide +kernel
theorem dX3_init_29 : decode cX3_init 29 = .ok (.return_, 1) := by decide +kernel
theorem dX3_smallestSet_0 : decode cX3_smallestSet 0 = .ok (.aload_n 0, 1) := by decide +kernel
theorem dX3_smallestSet_1 : decode cX3_smallestSet 1 = .ok (.aload_n 1, 1) := by decide +kernel
theorem dX3_smallestSet_2 : decode cX3_smallestSet 2 = .ok (.invokevirtual 24, 3) := by decide +kernel
theorem dX3_smallestSet_5 : decode cX3_smallestSet 5 = .ok (.aload_n 0, 1) := by decide +kernel
theorem dX3_smallestSet_6 : decode cX3_smallestSet 6 = .ok (.aload_n 1, 1) := by decide +kernel
theorem dX3_smallestSet_7 : decode cX3_smallestSet 7 = .ok (.getfield 28, 3) := by decide +kernel
theorem dX3_smallestSet_10 : decode cX3_smallestSet 10 = .ok (.invokevirtual 34, 3) := by decide +kernel
theorem dX3_smallestSet_13 : decode cX3_smallestSet 13 = .ok (.iconst 1, 1) := by decide +kernel
theorem dX3_smallestSet_14 : decode cX3_smallestSet 14 = .ok (.istore_n 3, 1) := by decide +kernel
theorem dX3_smallestSet_15 : decode cX3_smallestSet 15 = .ok (.iload_n 3, 1) := by decide +kernel
theorem dX3_smallestSet_16 : decode cX3_smallestSet 16 = .ok (.aload_n 0, 1) := by decide +kernel
theorem dX3_smallestSet_17 : decode cX3_smallestSet 17 = .ok (.getfield 15, 3) := by decide +kernel
theorem dX3_smallestSet_20 : decode cX3_smallestSet 20 = .ok (.if_icmp .gt 42, 3) := by decide +kernel
theorem dX3_smallestSet_23 : decode cX3_smallestSet 23 = .ok (.aload_n 0, 1) := by decide +kernel
theorem dX3_smallestSet_24 : decode cX3_smallestSet 24 = .ok (.getfield 21, 3) := by decide +kernel
theorem dX3_smallestSet_27 : decode cX3_smallestSet 27 = .ok (.aload_n 0, 1) := by decide +kernel
theorem dX3_smallestSet_28 : decode cX3_smallestSet 28 = .ok (.getfield 15, 3) := by decide +kernel
theorem dX3_smallestSet_31 : decode cX3_smallestSet 31 = .ok (.aaload, 1) := by decide +kernel
theorem dX3_smallestSet_32 : decode cX3_smallestSet 32 = .ok (.iload_n 3, 1) := by decide +kernel
theorem dX3_smallestSet_33 : decode cX3_smallestSet 33 = .ok (.iaload, 1) := by decide +kernel
theorem dX3_smallestSet_34 : decode cX3_smallestSet 34 = .ok (.invokestatic 38, 3) := by decide +kernel
theorem dX3_smallestSet_37 : decode cX3_smallestSet 37 = .ok (.iload_n 2, 1) := by decide +kernel
theorem dX3_smallestSet_38 : decode cX3_smallestSet 38 = .ok (.if_icmp .lt 18, 3) := by decide +kernel
theorem dX3_smallestSet_41 : decode cX3_smallestSet 41 = .ok (.aload_n 0, 1) := by decide +kernel
theorem dX3_smallestSet_42 : decode cX3_smallestSet 42 = .ok (.getfield 21, 3) := by decide +kernel
theorem dX3_smallestSet_45 : decode cX3_smallestSet 45 = .ok (.aload_n 0, 1) := by decide +kernel
theorem dX3_smallestSet_46 : decode cX3_smallestSet 46 = .ok (.getfield 15, 3) := by decide +kernel
theorem dX3_smallestSet_49 : decode cX3_smallestSet 49 = .ok (.aaload, 1) := by decide +kernel
theorem dX3_smallestSet_50 : decode cX3_smallestSet 50 = .ok (.iload_n 3, 1) := by decide +kernel
theorem dX3_smallestSet_51 : decode cX3_smallestSet 51 = .ok (.iaload, 1) := by decide +kernel
theorem dX3_smallestSet_52 : decode cX3_smallestSet 52 = .ok (.invokestatic 42, 3) := by decide +kernel
theorem dX3_smallestSet_55 : decode cX3_smallestSet 55 = .ok (.ireturn, 1) := by decide +kernel
theorem dX3_smallestSet_56 : decode cX3_smallestSet 56 = .ok (.iinc 3 1, 3) := by decide +kernel
theorem dX3_smallestSet_59 : decode cX3_smallestSet 59 = .ok (.goto (-44), 3) := by decide +kernel
theorem dX3_smallestSet_62 : decode cX3_smallestSet 62 = .ok (.iconst (-1), 1) := by decide +kernel
theorem dX3_smallestSet_63 : decode cX3_smallestSet 63 = .ok (.ireturn, 1) := by decide +kernel
theorem dX3_lineUp_0 : decode cX3_lineUp 0 = .ok (.aload_n 0, 1) := by decide +kernel
theorem dX3_lineUp_1 : decode cX3_lineUp 1 = .ok (.iconst 0, 1) := by decide +kernel
theorem dX3_lineUp_2 : decode cX3_lineUp 2 = .ok (.putfield 15, 3) := by decide +kernel
theorem dX3_lineUp_5 : decode cX3_lineUp 5 = .ok (.iconst 0, 1) := by decide +kernel
theorem dX3_lineUp_6 : decode cX3_lineUp 6 = .ok (.istore_n 2, 1) := by decide +kernel
theorem dX3_lineUp_7 : decode cX3_lineUp 7 = .ok (.iload_n 2, 1) := by decide +kernel
theorem dX3_lineUp_8 : decode cX3_lineUp 8 = .ok (.bipush 6, 2) := by decide +kernel
theorem dX3_lineUp_10 : decode cX3_lineUp 10 = .ok (.if_icmp .ge 79, 3) := by decide +kernel
theorem dX3_lineUp_13 : decode cX3_lineUp 13 = .ok (.aload_n 1, 1) := by decide +kernel
theorem dX3_lineUp_14 : decode cX3_lineUp 14 = .ok (.iload_n 2, 1) := by decide +kernel
theorem dX3_lineUp_15 : decode cX3_lineUp 15 = .ok (.invokevirtual 45, 3) := by decide +kernel
theorem dX3_lineUp_18 : decode cX3_lineUp 18 = .ok (.istore_n 3, 1) := by decide +kernel
theorem dX3_lineUp_19 : decode cX3_lineUp 19 = .ok (.iconst 0, 1) := by decide +kernel
theorem dX3_lineUp_20 : decode cX3_lineUp 20 = .ok (.istore 4, 2) := by decide +kernel
theorem dX3_lineUp_22 : decode cX3_lineUp 22 = .ok (.iload 4, 2) := by decide +kernel
theorem dX3_lineUp_24 : decode cX3_lineUp 24 = .ok (.bipush 16, 2) := by decide +kernel
theorem dX3_lineUp_26 : decode cX3_lineUp 26 = .ok (.if_icmp .ge 57, 3) := by decide +kernel
theorem dX3_lineUp_29 : decode cX3_lineUp 29 = .ok (.iload_n 3, 1) := by decide +kernel
theorem dX3_lineUp_30 : decode cX3_lineUp 30 = .ok (.iload 4, 2) := by decide +kernel
theorem dX3_lineUp_32 : decode cX3_lineUp 32 = .ok (.invokestatic 48, 3) := by decide +kernel
theorem dX3_lineUp_35 : decode cX3_lineUp 35 = .ok (.ifCond .eq 42, 3) := by decide +kernel
theorem dX3_lineUp_38 : decode cX3_lineUp 38 = .ok (.aload_n 1, 1) := by decide +kernel
theorem dX3_lineUp_39 : decode cX3_lineUp 39 = .ok (.iload 4, 2) := by decide +kernel
theorem dX3_lineUp_41 : decode cX3_lineUp 41 = .ok (.invokevirtual 52, 3) := by decide +kernel
theorem dX3_lineUp_44 : decode cX3_lineUp 44 = .ok (.ifCond .eq 33, 3) := by decide +kernel
theorem dX3_lineUp_47 : decode cX3_lineUp 47 = .ok (.aload_n 0, 1) := by decide +kernel
theorem dX3_lineUp_48 : decode cX3_lineUp 48 = .ok (.getfield 15, 3) := by decide +kernel
theorem dX3_lineUp_51 : decode cX3_lineUp 51 = .ok (.bipush 16, 2) := by decide +kernel
theorem dX3_lineUp_53 : decode cX3_lineUp 53 = .ok (.if_icmp .ge 24, 3) := by decide +kernel
theorem dX3_lineUp_56 : decode cX3_lineUp 56 = .ok (.aload_n 0, 1) := by decide +kernel
theorem dX3_lineUp_57 : decode cX3_lineUp 57 = .ok (.getfield 11, 3) := by decide +kernel
theorem dX3_lineUp_60 : decode cX3_lineUp 60 = .ok (.aload_n 0, 1) := by decide +kernel
theorem dX3_lineUp_61 : decode cX3_lineUp 61 = .ok (.getfield 15, 3) := by decide +kernel
theorem dX3_lineUp_64 : decode cX3_lineUp 64 = .ok (.iload 4, 2) := by decide +kernel
theorem dX3_lineUp_66 : decode cX3_lineUp 66 = .ok (.iastore, 1) := by decide +kernel
theorem dX3_lineUp_67 : decode cX3_lineUp 67 = .ok (.aload_n 0, 1) := by decide +kernel
theorem dX3_lineUp_68 : decode cX3_lineUp 68 = .ok (.dup, 1) := by decide +kernel
theorem dX3_lineUp_69 : decode cX3_lineUp 69 = .ok (.getfield 15, 3) := by decide +kernel
theorem dX3_lineUp_72 : decode cX3_lineUp 72 = .ok (.iconst 1, 1) := by decide +kernel
theorem dX3_lineUp_73 : decode cX3_lineUp 73 = .ok (.iadd, 1) := by decide +kernel
theorem dX3_lineUp_74 : decode cX3_lineUp 74 = .ok (.putfield 15, 3) := by decide +kernel
theorem dX3_lineUp_77 : decode cX3_lineUp 77 = .ok (.iinc 4 1, 3) := by decide +kernel
theorem dX3_lineUp_80 : decode cX3_lineUp 80 = .ok (.goto (-58), 3) := by decide +kernel
theorem dX3_lineUp_83 : decode cX3_lineUp 83 = .ok (.iinc 2 1, 3) := by decide +kernel
theorem dX3_lineUp_86 : decode cX3_lineUp 86 = .ok (.goto (-79), 3) := by decide +kernel
theorem dX3_lineUp_89 : decode cX3_lineUp 89 = .ok (.return_, 1) := by decide +kernel
theorem dX3_fillBest_0 : decode cX3_fillBest 0 = .ok (.aload_n 0, 1) := by decide +kernel
theorem dX3_fillBest_1 : decode cX3_fillBest 1 = .ok (.getfield 21, 3) := by decide +kernel
theorem dX3_fillBest_4 : decode cX3_fillBest 4 = .ok (.iconst 0, 1) := by decide +kernel
theorem dX3_fillBest_5 : decode cX3_fillBest 5 = .ok (.aaload, 1) := by decide +kernel
theorem dX3_fillBest_6 : decode cX3_fillBest 6 = .ok (.iconst 0, 1) := by decide +kernel
theorem dX3_fillBest_7 : decode cX3_fillBest 7 = .ok (.iconst 0, 1) := by decide +kernel
theorem dX3_fillBest_8 : decode cX3_fillBest 8 = .ok (.iastore, 1) := by decide +kernel
theorem dX3_fillBest_9 : decode cX3_fillBest 9 = .ok (.iconst 1, 1) := by decide +kernel
theorem dX3_fillBest_10 : decode cX3_fillBest 10 = .ok (.istore_n 2, 1) := by decide +kernel
theorem dX3_fillBest_11 : decode cX3_fillBest 11 = .ok (.iload_n 2, 1) := by decide +kernel
theorem dX3_fillBest_12 : decode cX3_fillBest 12 = .ok (.aload_n 0, 1) := by decide +kernel
theorem dX3_fillBest_13 : decode cX3_fillBest 13 = .ok (.getfield 15, 3) := by decide +kernel
theorem dX3_fillBest_16 : decode cX3_fillBest 16 = .ok (.if_icmp .gt 98, 3) := by decide +kernel
theorem dX3_fillBest_19 : decode cX3_fillBest 19 = .ok (.iconst 0, 1) := by decide +kernel
theorem dX3_fillBest_20 : decode cX3_fillBest 20 = .ok (.istore_n 3, 1) := by decide +kernel
theorem dX3_fillBest_21 : decode cX3_fillBest 21 = .ok (.iload_n 3, 1) := by decide +kernel
theorem dX3_fillBest_22 : decode cX3_fillBest 22 = .ok (.iload_n 2, 1) := by decide +kernel
theorem dX3_fillBest_23 : decode cX3_fillBest 23 = .ok (.if_icmp .ge 27, 3) := by decide +kernel
theorem dX3_fillBest_26 : decode cX3_fillBest 26 = .ok (.aload_n 0, 1) := by decide +kernel
theorem dX3_fillBest_27 : decode cX3_fillBest 27 = .ok (.getfield 21, 3) := by decide +kernel
theorem dX3_fillBest_30 : decode cX3_fillBest 30 = .ok (.iload_n 2, 1) := by decide +kernel
theorem dX3_fillBest_31 : decode cX3_fillBest 31 = .ok (.aaload, 1) := by decide +kernel
theorem dX3_fillBest_32 : decode cX3_fillBest 32 = .ok (.iload_n 3, 1) := by decide +kernel
theorem dX3_fillBest_33 : decode cX3_fillBest 33 = .ok (.aload_n 0, 1) := by decide +kernel
theorem dX3_fillBest_34 : decode cX3_fillBest 34 = .ok (.getfield 21, 3) := by decide +kernel
theorem dX3_fillBest_37 : decode cX3_fillBest 37 = .ok (.iload_n 2, 1) := by decide +kernel
theorem dX3_fillBest_38 : decode cX3_fillBest 38 = .ok (.iconst 1, 1) := by decide +kernel
theorem dX3_fillBest_39 : decode cX3_fillBest 39 = .ok (.isub, 1) := by decide +kernel
theorem dX3_fillBest_40 : decode cX3_fillBest 40 = .ok (.aaload, 1) := by decide +kernel
theorem dX3_fillBest_41 : decode cX3_fillBest 41 = .ok (.iload_n 3, 1) := by decide +kernel
theorem dX3_fillBest_42 : decode cX3_fillBest 42 = .ok (.iaload, 1) := by decide +kernel
theorem dX3_fillBest_43 : decode cX3_fillBest 43 = .ok (.iastore, 1) := by decide +kernel
theorem dX3_fillBest_44 : decode cX3_fillBest 44 = .ok (.iinc 3 1, 3) := by decide +kernel
theorem dX3_fillBest_47 : decode cX3_fillBest 47 = .ok (.goto (-26), 3) := by decide +kernel
theorem dX3_fillBest_50 : decode cX3_fillBest 50 = .ok (.aload_n 0, 1) := by decide +kernel
theorem dX3_fillBest_51 : decode cX3_fillBest 51 = .ok (.getfield 21, 3) := by decide +kernel
theorem dX3_fillBest_54 : decode cX3_fillBest 54 = .ok (.iload_n 2, 1) := by decide +kernel
theorem dX3_fillBest_55 : decode cX3_fillBest 55 = .ok (.aaload, 1) := by decide +kernel
theorem dX3_fillBest_56 : decode cX3_fillBest 56 = .ok (.iload_n 2, 1) := by decide +kernel
theorem dX3_fillBest_57 : decode cX3_fillBest 57 = .ok (.ldc 56, 2) := by decide +kernel
theorem dX3_fillBest_59 : decode cX3_fillBest 59 = .ok (.iastore, 1) := by decide +kernel
theorem dX3_fillBest_60 : decode cX3_fillBest 60 = .ok (.iconst 0, 1) := by decide +kernel
theorem dX3_fillBest_61 : decode cX3_fillBest 61 = .ok (.istore_n 3, 1) := by decide +kernel
theorem dX3_fillBest_62 : decode cX3_fillBest 62 = .ok (.iconst 1, 1) := by decide +kernel
theorem dX3_fillBest_63 : decode cX3_fillBest 63 = .ok (.istore 4, 2) := by decide +kernel
theorem dX3_fillBest_65 : decode cX3_fillBest 65 = .ok (.iload 4, 2) := by decide +kernel
theorem dX3_fillBest_67 : decode cX3_fillBest 67 = .ok (.iload_n 2, 1) := by decide +kernel
theorem dX3_fillBest_68 : decode cX3_fillBest 68 = .ok (.if_icmp .gt 40, 3) := by decide +kernel
theorem dX3_fillBest_71 : decode cX3_fillBest 71 = .ok (.iload_n 3, 1) := by decide +kernel
theorem dX3_fillBest_72 : decode cX3_fillBest 72 = .ok (.aload_n 0, 1) := by decide +kernel
theorem dX3_fillBest_73 : decode cX3_fillBest 73 = .ok (.getfield 11, 3) := by decide +kernel
theorem dX3_fillBest_76 : decode cX3_fillBest 76 = .ok (.iload_n 2, 1) := by decide +kernel
theorem dX3_fillBest_77 : decode cX3_fillBest 77 = .ok (.iload 4, 2) := by decide +kernel
theorem dX3_fillBest_79 : decode cX3_fillBest 79 = .ok (.isub, 1) := by decide +kernel
theorem dX3_fillBest_80 : decode cX3_fillBest 80 = .ok (.iaload, 1) := by decide +kernel
theorem dX3_fillBest_81 : decode cX3_fillBest 81 = .ok (.invokestatic 57, 3) := by decide +kernel
theorem dX3_fillBest_84 : decode cX3_fillBest 84 = .ok (.ior, 1) := by decide +kernel
theorem dX3_fillBest_85 : decode cX3_fillBest 85 = .ok (.istore_n 3, 1) := by decide +kernel
theorem dX3_fillBest_86 : decode cX3_fillBest 86 = .ok (.aload_n 0, 1) := by decide +kernel
theorem dX3_fillBest_87 : decode cX3_fillBest 87 = .ok (.iload_n 2, 1) := by decide +kernel
theorem dX3_fillBest_88 : decode cX3_fillBest 88 = .ok (.iload 4, 2) := by decide +kernel
theorem dX3_fillBest_90 : decode cX3_fillBest 90 = .ok (.aload_n 1, 1) := by decide +kernel
theorem dX3_fillBest_91 : decode cX3_fillBest 91 = .ok (.iload_n 3, 1) := by decide +kernel
theorem dX3_fillBest_92 : decode cX3_fillBest 92 = .ok (.invokevirtual 60, 3) := by decide +kernel
theorem dX3_fillBest_95 : decode cX3_fillBest 95 = .ok (.iload_n 3, 1) := by decide +kernel
theorem dX3_fillBest_96 : decode cX3_fillBest 96 = .ok (.invokestatic 65, 3) := by decide +kernel
theorem dX3_fillBest_99 : decode cX3_fillBest 99 = .ok (.invokevirtual 69, 3) := by decide +kernel
theorem dX3_fillBest_102 : decode cX3_fillBest 102 = .ok (.iinc 4 1, 3) := by decide +kernel
theorem dX3_fillBest_105 : decode cX3_fillBest 105 = .ok (.goto (-40), 3) := by decide +kernel
theorem dX3_fillBest_108 : decode cX3_fillBest 108 = .ok (.iinc 2 1, 3) := by decide +kernel
theorem dX3_fillBest_111 : decode cX3_fillBest 111 = .ok (.goto (-100), 3) := by decide +kernel
theorem dX3_fillBest_114 : decode cX3_fillBest 114 = .ok (.return_, 1) := by decide +kernel
theorem dX3_improve_0 : decode cX3_improve 0 = .ok (.iload_n 2, 1) := by decide +kernel
theorem dX3_improve_1 : decode cX3_improve 1 = .ok (.istore 4, 2) := by decide +kernel
theorem dX3_improve_3 : decode cX3_improve 3 = .ok (.iload 4, 2) := by decide +kernel
theorem dX3_improve_5 : decode cX3_improve 5 = .ok (.iload_n 1, 1) := by decide +kernel
theorem dX3_improve_6 : decode cX3_improve 6 = .ok (.if_icmp .gt 45, 3) := by decide +kernel
theorem dX3_improve_9 : decode cX3_improve 9 = .ok (.aload_n 0, 1) := by decide +kernel
theorem dX3_improve_10 : decode cX3_improve 10 = .ok (.getfield 21, 3) := by decide +kernel
theorem dX3_improve_13 : decode cX3_improve 13 = .ok (.iload_n 1, 1) := by decide +kernel
theorem dX3_improve_14 : decode cX3_improve 14 = .ok (.aaload, 1) := by decide +kernel
theorem dX3_improve_15 : decode cX3_improve 15 = .ok (.iload 4, 2) := by decide +kernel
theorem dX3_improve_17 : decode cX3_improve 17 = .ok (.aload_n 0, 1) := by decide +kernel
theorem dX3_improve_18 : decode cX3_improve 18 = .ok (.getfield 21, 3) := by decide +kernel
theorem dX3_improve_21 : decode cX3_improve 21 = .ok (.iload_n 1, 1) := by decide +kernel
theorem dX3_improve_22 : decode cX3_improve 22 = .ok (.aaload, 1) := by decide +kernel
theorem dX3_improve_23 : decode cX3_improve 23 = .ok (.iload 4, 2) := by decide +kernel
theorem dX3_improve_25 : decode cX3_improve 25 = .ok (.iaload, 1) := by decide +kernel
theorem dX3_improve_26 : decode cX3_improve 26 = .ok (.aload_n 0, 1) := by decide +kernel
theorem dX3_improve_27 : decode cX3_improve 27 = .ok (.getfield 21, 3) := by decide +kernel
theorem dX3_improve_30 : decode cX3_improve 30 = .ok (.iload_n 1, 1) := by decide +kernel
theorem dX3_improve_31 : decode cX3_improve 31 = .ok (.iload_n 2, 1) := by decide +kernel
theorem dX3_improve_32 : decode cX3_improve 32 = .ok (.isub, 1) := by decide +kernel
theorem dX3_improve_33 : decode cX3_improve 33 = .ok (.aaload, 1) := by decide +kernel
theorem dX3_improve_34 : decode cX3_improve 34 = .ok (.iload 4, 2) := by decide +kernel
theorem dX3_improve_36 : decode cX3_improve 36 = .ok (.iload_n 2, 1) := by decide +kernel
theorem dX3_improve_37 : decode cX3_improve 37 = .ok (.isub, 1) := by decide +kernel
theorem dX3_improve_38 : decode cX3_improve 38 = .ok (.iaload, 1) := by decide +kernel
theorem dX3_improve_39 : decode cX3_improve 39 = .ok (.iload_n 3, 1) := by decide +kernel
theorem dX3_improve_40 : decode cX3_improve 40 = .ok (.iadd, 1) := by decide +kernel
theorem dX3_improve_41 : decode cX3_improve 41 = .ok (.invokestatic 73, 3) := by decide +kernel
theorem dX3_improve_44 : decode cX3_improve 44 = .ok (.iastore, 1) := by decide +kernel
theorem dX3_improve_45 : decode cX3_improve 45 = .ok (.iinc 4 1, 3) := by decide +kernel
theorem dX3_improve_48 : decode cX3_improve 48 = .ok (.goto (-45), 3) := by decide +kernel
theorem dX3_improve_51 : decode cX3_improve 51 = .ok (.return_, 1) := by decide +kernel
theorem dX3_worth_0 : decode cX3_worth 0 = .ok (.iload_n 0, 1) := by decide +kernel
theorem dX3_worth_1 : decode cX3_worth 1 = .ok (.ldc 78, 2) := by decide +kernel
theorem dX3_worth_3 : decode cX3_worth 3 = .ok (.imul, 1) := by decide +kernel
theorem dX3_worth_4 : decode cX3_worth 4 = .ok (.iload_n 1, 1) := by decide +kernel
theorem dX3_worth_5 : decode cX3_worth 5 = .ok (.isub, 1) := by decide +kernel
theorem dX3_worth_6 : decode cX3_worth 6 = .ok (.ireturn, 1) := by decide +kernel
theorem dX3_unitsIn_0 : decode cX3_unitsIn 0 = .ok (.iload_n 0, 1) := by decide +kernel
theorem dX3_unitsIn_1 : decode cX3_unitsIn 1 = .ok (.ldc 78, 2) := by decide +kernel
theorem dX3_unitsIn_3 : decode cX3_unitsIn 3 = .ok (.iadd, 1) := by decide +kernel
theorem dX3_unitsIn_4 : decode cX3_unitsIn 4 = .ok (.iconst 1, 1) := by decide +kernel
theorem dX3_unitsIn_5 : decode cX3_unitsIn 5 = .ok (.isub, 1) := by decide +kernel
theorem dX3_unitsIn_6 : decode cX3_unitsIn 6 = .ok (.ldc 78, 2) := by decide +kernel
theorem dX3_unitsIn_8 : decode cX3_unitsIn 8 = .ok (.idiv, 1) := by decide +kernel
theorem dX3_unitsIn_9 : decode cX3_unitsIn 9 = .ok (.ireturn, 1) := by decide +kernel
theorem dX3_setIn_0 : decode cX3_setIn 0 = .ok (.iload_n 0, 1) := by decide +kernel
theorem dX3_setIn_1 : decode cX3_setIn 1 = .ok (.invokestatic 38, 3) := by decide +kernel
theorem dX3_setIn_4 : decode cX3_setIn 4 = .ok (.ldc 78, 2) := by decide +kernel
theorem dX3_setIn_6 : decode cX3_setIn 6 = .ok (.imul, 1) := by decide +kernel
theorem dX3_setIn_7 : decode cX3_setIn 7 = .ok (.iload_n 0, 1) := by decide +kernel
theorem dX3_setIn_8 : decode cX3_setIn 8 = .ok (.isub, 1) := by decide +kernel
theorem dX3_setIn_9 : decode cX3_setIn 9 = .ok (.ireturn, 1) := by decide +kernel
theorem dX4_init_0 : decode cX4_init 0 = .ok (.aload_n 0, 1) := by decide +kernel
theorem dX4_init_1 : decode cX4_init 1 = .ok (.invokespecial 3, 3) := by decide +kernel
theorem dX4_init_4 : decode cX4_init 4 = .ok (.aload_n 0, 1) := by decide +kernel
theorem dX4_init_5 : decode cX4_init 5 = .ok (.iconst 2, 1) := by decide +kernel
theorem dX4_init_6 : decode cX4_init 6 = .ok (.newarray .int, 2) := by decide +kernel
theorem dX4_init_8 : decode cX4_init 8 = .ok (.putfield 9, 3) := by decide +kernel
theorem dX4_init_11 : decode cX4_init 11 = .ok (.aload_n 0, 1) := by decide +kernel
theorem dX4_init_12 : decode cX4_init 12 = .ok (.bipush 16, 2) := by decide +kernel
theorem dX4_init_14 : decode cX4_init 14 = .ok (.newarray .int, 2) := by decide +kernel
theorem dX4_init_16 : decode cX4_init 16 = .ok (.putfield 15, 3) := by decide +kernel
theorem dX4_init_19 : decode cX4_init 19 = .ok (.aload_n 0, 1) := by decide +kernel
theorem dX4_init_20 : decode cX4_init 20 = .ok (.bipush 16, 2) := by decide +kernel
theorem dX4_init_22 : decode cX4_init 22 = .ok (.newarray .int, 2) := by decide +kernel
theorem dX4_init_24 : decode cX4_init 24 = .ok (.putfield 18, 3) := by decide +kernel
theorem dX4_init_27 : decode cX4_init 27 = .ok (.aload_n 0, 1) := by decide +kernel
theorem dX4_init_28 : decode cX4_init 28 = .ok (.bipush 16, 2) := by decide +kernel
theorem dX4_init_30 : decode cX4_init 30 = .ok (.newarray .int, 2) := by decide +kernel
theorem dX4_init_32 : decode cX4_init 32 = .ok (.putfield 21, 3) := by decide +kernel
theorem dX4_init_35 : decode cX4_init 35 = .ok (.aload_n 0, 1) := by decide +kernel
theorem dX4_init_36 : decode cX4_init 36 = .ok (.bipush 6, 2) := by decide +kernel
theorem dX4_init_38 : decode cX4_init 38 = .ok (.newarray .int, 2) := by decide +kernel
theorem dX4_init_40 : decode cX4_init 40 = .ok (.putfield 24, 3) := by decide +kernel
theorem dX4_init_43 : decode cX4_init 43 = .ok (.aload_n 0, 1) := by decide +kernel
theorem dX4_init_44 : decode cX4_init 44 = .ok (.bipush 6, 2) := by decide +kernel
theorem dX4_init_46 : decode cX4_init 46 = .ok (.newarray .int, 2) := by decide +kernel
theorem dX4_init_48 : decode cX4_init 48 = .ok (.putfield 27, 3) := by decide +kernel
theorem dX4_init_51 : decode cX4_init 51 = .ok (.aload_n 0, 1) := by decide +kernel
theorem dX4_init_52 : decode cX4_init 52 = .ok (.bipush 6, 2) := by decide +kernel
theorem dX4_init_54 : decode cX4_init 54 = .ok (.newarray .int, 2) := by decide +kernel
theorem dX4_init_56 : decode cX4_init 56 = .ok (.putfield 30, 3) := by decide +kernel
theorem dX4_init_59 : decode cX4_init 59 = .ok (.aload_n 0, 1) := by decide +kernel
theorem dX4_init_60 : decode cX4_init 60 = .ok (.new 33, 3) := by decide +kernel
theorem dX4_init_63 : decode cX4_init 63 = .ok (.dup, 1) := by decide +kernel
theorem dX4_init_64 : decode cX4_init 64 = .ok (.invokespecial 35, 3) := by decide +kernel
theorem dX4_init_67 : decode cX4_init 67 = .ok (.putfield 36, 3) := by decide +kernel
theorem dX4_init_70 : decode cX4_init 70 = .ok (.aload_n 0, 1) := by decide +kernel
theorem dX4_init_71 : decode cX4_init 71 = .ok (.invokevirtual 40, 3) := by decide +kernel
theorem dX4_init_74 : decode cX4_init 74 = .ok (.return_, 1) := by decide +kernel
theorem dX4_reset_0 : decode cX4_reset 0 = .ok (.aload_n 0, 1) := by decide +kernel
theorem dX4_reset_1 : decode cX4_reset 1 = .ok (.iconst 0, 1) := by decide +kernel
theorem dX4_reset_2 : decode cX4_reset 2 = .ok (.putfield 43, 3) := by decide +kernel
theorem dX4_reset_5 : decode cX4_reset 5 = .ok (.aload_n 0, 1) := by decide +kernel
theorem dX4_reset_6 : decode cX4_reset 6 = .ok (.iconst 0, 1) := by decide +kernel
theorem dX4_reset_7 : decode cX4_reset 7 = .ok (.putfield 47, 3) := by decide +kernel
theorem dX4_reset_10 : decode cX4_reset 10 = .ok (.aload_n 0, 1) := by decide +kernel
theorem dX4_reset_11 : decode cX4_reset 11 = .ok (.iconst 0, 1) := by decide +kernel
theorem dX4_reset_12 : decode cX4_reset 12 = .ok (.putfield 50, 3) := by decide +kernel
theorem dX4_reset_15 : decode cX4_reset 15 = .ok (.aload_n 0, 1) := by decide +kernel
theorem dX4_reset_16 : decode cX4_reset 16 = .ok (.iconst 0, 1) := by decide +kernel
theorem dX4_reset_17 : decode cX4_reset 17 = .ok (.putfield 53, 3) := by decide +kernel
theorem dX4_reset_20 : decode cX4_reset 20 = .ok (.aload_n 0, 1) := by decide +kernel
theorem dX4_reset_21 : decode cX4_reset 21 = .ok (.iconst 0, 1) := by decide +kernel
theorem dX4_reset_22 : decode cX4_reset 22 = .ok (.putfield 56, 3) := by decide +kernel
theorem dX4_reset_25 : decode cX4_reset 25 = .ok (.aload_n 0, 1) := by decide +kernel
theorem dX4_reset_26 : decode cX4_reset 26 = .ok (.getfield 9, 3) := by decide +kernel
theorem dX4_reset_29 : decode cX4_reset 29 = .ok (.iconst 0, 1) := by decide +kernel
theorem dX4_reset_30 : decode cX4_reset 30 = .ok (.sipush 200, 3) := by decide +kernel
theorem dX4_reset_33 : decode cX4_reset 33 = .ok (.iastore, 1) := by decide +kernel
theorem dX4_reset_34 : decode cX4_reset 34 = .ok (.aload_n 0, 1) := by decide +kernel
theorem dX4_reset_35 : decode cX4_reset 35 = .ok (.getfield 9, 3) := by decide +kernel
theorem dX4_reset_38 : decode cX4_reset 38 = .ok (.iconst 1, 1) := by decide +kernel
theorem dX4_reset_39 : decode cX4_reset 39 = .ok (.iconst 3, 1) := by decide +kernel
theorem dX4_reset_40 : decode cX4_reset 40 = .ok (.iastore, 1) := by decide +kernel
theorem dX4_reset_41 : decode cX4_reset 41 = .ok (.aload_n 0, 1) := by decide +kernel
theorem dX4_reset_42 : decode cX4_reset 42 = .ok (.getfield 36, 3) := by decide +kernel
theorem dX4_reset_45 : decode cX4_reset 45 = .ok (.iconst 0, 1) := by decide +kernel
theorem dX4_reset_46 : decode cX4_reset 46 = .ok (.putfield 59, 3) := by decide +kernel
theorem dX4_reset_49 : decode cX4_reset 49 = .ok (.return_, 1) := by decide +kernel
theorem dX4_copyFrom_0 : decode cX4_copyFrom 0 = .ok (.aload_n 0, 1) := by decide +kernel
theorem dX4_copyFrom_1 : decode cX4_copyFrom 1 = .ok (.aload_n 1, 1) := by decide +kernel
theorem dX4_copyFrom_2 : decode cX4_copyFrom 2 = .ok (.getfield 43, 3) := by decide +kernel
theorem dX4_copyFrom_5 : decode cX4_copyFrom 5 = .ok (.putfield 43, 3) := by decide +kernel
theorem dX4_copyFrom_8 : decode cX4_copyFrom 8 = .ok (.aload_n 0, 1) := by decide +kernel
theorem dX4_copyFrom_9 : decode cX4_copyFrom 9 = .ok (.aload_n 1, 1) := by decide +kernel
theorem dX4_copyFrom_10 : decode cX4_copyFrom 10 = .ok (.getfield 47, 3) := by decide +kernel
theorem dX4_copyFrom_13 : decode cX4_copyFrom 13 = .ok (.putfield 47, 3) := by decide +kernel
theorem dX4_copyFrom_16 : decode cX4_copyFrom 16 = .ok (.aload_n 0, 1) := by decide +kernel
theorem dX4_copyFrom_17 : decode cX4_copyFrom 17 = .ok (.aload_n 1, 1) := by decide +kernel
theorem dX4_copyFrom_18 : decode cX4_copyFrom 18 = .ok (.getfield 50, 3) := by decide +kernel
theorem dX4_copyFrom_21 : decode cX4_copyFrom 21 = .ok (.putfield 50, 3) := by decide +kernel
theorem dX4_copyFrom_24 : decode cX4_copyFrom 24 = .ok (.aload_n 0, 1) := by decide +kernel
theorem dX4_copyFrom_25 : decode cX4_copyFrom 25 = .ok (.aload_n 1, 1) := by decide +kernel
theorem dX4_copyFrom_26 : decode cX4_copyFrom 26 = .ok (.getfield 53, 3) := by decide +kernel
theorem dX4_copyFrom_29 : decode cX4_copyFrom 29 = .ok (.putfield 53, 3) := by decide +kernel
theorem dX4_copyFrom_32 : decode cX4_copyFrom 32 = .ok (.aload_n 0, 1) := by decide +kernel
theorem dX4_copyFrom_33 : decode cX4_copyFrom 33 = .ok (.aload_n 1, 1) := by decide +kernel
theorem dX4_copyFrom_34 : decode cX4_copyFrom 34 = .ok (.getfield 56, 3) := by decide +kernel
theorem dX4_copyFrom_37 : decode cX4_copyFrom 37 = .ok (.putfield 56, 3) := by decide +kernel
theorem dX4_copyFrom_40 : decode cX4_copyFrom 40 = .ok (.aload_n 1, 1) := by decide +kernel
theorem dX4_copyFrom_41 : decode cX4_copyFrom 41 = .ok (.getfield 9, 3) := by decide +kernel
theorem dX4_copyFrom_44 : decode cX4_copyFrom 44 = .ok (.iconst 0, 1) := by decide +kernel
theorem dX4_copyFrom_45 : decode cX4_copyFrom 45 = .ok (.aload_n 0, 1) := by decide +kernel
theorem dX4_copyFrom_46 : decode cX4_copyFrom 46 = .ok (.getfield 9, 3) := by decide +kernel
theorem dX4_copyFrom_49 : decode cX4_copyFrom 49 = .ok (.iconst 0, 1) := by decide +kernel
theorem dX4_copyFrom_50 : decode cX4_copyFrom 50 = .ok (.iconst 2, 1) := by decide +kernel
theorem dX4_copyFrom_51 : decode cX4_copyFrom 51 = .ok (.invokestatic 62, 3) := by decide +kernel
theorem dX4_copyFrom_54 : decode cX4_copyFrom 54 = .ok (.aload_n 1, 1) := by decide +kernel
theorem dX4_copyFrom_55 : decode cX4_copyFrom 55 = .ok (.getfield 15, 3) := by decide +kernel
theorem dX4_copyFrom_58 : decode cX4_copyFrom 58 = .ok (.iconst 0, 1) := by decide +kernel
theorem dX4_copyFrom_59 : decode cX4_copyFrom 59 = .ok (.aload_n 0, 1) := by decide +kernel
theorem dX4_copyFrom_60 : decode cX4_copyFrom 60 = .ok (.getfield 15, 3) := by decide +kernel
theorem dX4_copyFrom_63 : decode cX4_copyFrom 63 = .ok (.iconst 0, 1) := by decide +kernel
theorem dX4_copyFrom_64 : decode cX4_copyFrom 64 = .ok (.bipush 16, 2) := by decide +kernel
theorem dX4_copyFrom_66 : decode cX4_copyFrom 66 = .ok (.invokestatic 62, 3) := by decide +kernel
theorem dX4_copyFrom_69 : decode cX4_copyFrom 69 = .ok (.aload_n 1, 1) := by decide +kernel
theorem dX4_copyFrom_70 : decode cX4_copyFrom 70 = .ok (.getfield 18, 3) := by decide +kernel
theorem dX4_copyFrom_73 : decode cX4_copyFrom 73 = .ok (.iconst 0, 1) := by decide +kernel
theorem dX4_copyFrom_74 : decode cX4_copyFrom 74 = .ok (.aload_n 0, 1) := by decide +kernel
theorem dX4_copyFrom_75 : decode cX4_copyFrom 75 = .ok (.getfield 18, 3) := by decide +kernel
theorem dX4_copyFrom_78 : decode cX4_copyFrom 78 = .ok (.iconst 0, 1) := by decide +kernel
theorem dX4_copyFrom_79 : decode cX4_copyFrom 79 = .ok (.bipush 16, 2) := by decide +kernel
theorem dX4_copyFrom_81 : decode cX4_copyFrom 81 = .ok (.invokestatic 62, 3) := by decide +kernel
theorem dX4_copyFrom_84 : decode cX4_copyFrom 84 = .ok (.aload_n 1, 1) := by decide +kernel
theorem dX4_copyFrom_85 : decode cX4_copyFrom 85 = .ok (.getfield 21, 3) := by decide +kernel
theorem dX4_copyFrom_88 : decode cX4_copyFrom 88 = .ok (.iconst 0, 1) := by decide +kernel
theorem dX4_copyFrom_89 : decode cX4_copyFrom 89 = .ok (.aload_n 0, 1) := by decide +kernel
theorem dX4_copyFrom_90 : decode cX4_copyFrom 90 = .ok (.getfield 21, 3) := by decide +kernel
theorem dX4_copyFrom_93 : decode cX4_copyFrom 93 = .ok (.iconst 0, 1) := by decide +kernel
theorem dX4_copyFrom_94 : decode cX4_copyFrom 94 = .ok (.bipush 16, 2) := by decide +kernel
theorem dX4_copyFrom_96 : decode cX4_copyFrom 96 = .ok (.invokestatic 62, 3) := by decide +kernel
theorem dX4_copyFrom_99 : decode cX4_copyFrom 99 = .ok (.aload_n 1, 1) := by decide +kernel
theorem dX4_copyFrom_100 : decode cX4_copyFrom 100 = .ok (.getfield 24, 3) := by decide +kernel
theorem dX4_copyFrom_103 : decode cX4_copyFrom 103 = .ok (.iconst 0, 1) := by decide +kernel
theorem dX4_copyFrom_104 : decode cX4_copyFrom 104 = .ok (.aload_n 0, 1) := by decide +kernel
theorem dX4_copyFrom_105 : decode cX4_copyFrom 105 = .ok (.getfield 24, 3) := by decide +kernel
theorem dX4_copyFrom_108 : decode cX4_copyFrom 108 = .ok (.iconst 0, 1) := by decide +kernel
theorem dX4_copyFrom_109 : decode cX4_copyFrom 109 = .ok (.bipush 6, 2) := by decide +kernel
theorem dX4_copyFrom_111 : decode cX4_copyFrom 111 = .ok (.invokestatic 62, 3) := by decide +kernel
theorem dX4_copyFrom_114 : decode cX4_copyFrom 114 = .ok (.aload_n 1, 1) := by decide +kernel
theorem dX4_copyFrom_115 : decode cX4_copyFrom 115 = .ok (.getfield 27, 3) := by decide +kernel
theorem dX4_copyFrom_118 : decode cX4_copyFrom 118 = .ok (.iconst 0, 1) := by decide +kernel
theorem dX4_copyFrom_119 : decode cX4_copyFrom 119 = .ok (.aload_n 0, 1) := by decide +kernel
theorem dX4_copyFrom_120 : decode cX4_copyFrom 120 = .ok (.getfield 27, 3) := by decide +kernel
theorem dX4_copyFrom_123 : decode cX4_copyFrom 123 = .ok (.iconst 0, 1) := by decide +kernel
theorem dX4_copyFrom_124 : decode cX4_copyFrom 124 = .ok (.bipush 6, 2) := by decide +kernel
theorem dX4_copyFrom_126 : decode cX4_copyFrom 126 = .ok (.invokestatic 62, 3) := by decide +kernel
theorem dX4_copyFrom_129 : decode cX4_copyFrom 129 = .ok (.aload_n 1, 1) := by decide +kernel
theorem dX4_copyFrom_130 : decode cX4_copyFrom 130 = .ok (.getfield 30, 3) := by decide +kernel
theorem dX4_copyFrom_133 : decode cX4_copyFrom 133 = .ok (.iconst 0, 1) := by decide +kernel
theorem dX4_copyFrom_134 : decode cX4_copyFrom 134 = .ok (.aload_n 0, 1) := by decide +kernel
theorem dX4_copyFrom_135 : decode cX4_copyFrom 135 = .ok (.getfield 30, 3) := by decide +kernel
theorem dX4_copyFrom_138 : decode cX4_copyFrom 138 = .ok (.iconst 0, 1) := by decide +kernel
theorem dX4_copyFrom_139 : decode cX4_copyFrom 139 = .ok (.bipush 6, 2) := by decide +kernel
theorem dX4_copyFrom_141 : decode cX4_copyFrom 141 = .ok (.invokestatic 62, 3) := by decide +kernel
theorem dX4_copyFrom_144 : decode cX4_copyFrom 144 = .ok (.aload_n 0, 1) := by decide +kernel
theorem dX4_copyFrom_145 : decode cX4_copyFrom 145 = .ok (.getfield 36, 3) := by decide +kernel
theorem dX4_copyFrom_148 : decode cX4_copyFrom 148 = .ok (.aload_n 1, 1) := by decide +kernel
theorem dX4_copyFrom_149 : decode cX4_copyFrom 149 = .ok (.getfield 36, 3) := by decide +kernel
theorem dX4_copyFrom_152 : decode cX4_copyFrom 152 = .ok (.invokevirtual 68, 3) := by decide +kernel
theorem dX4_copyFrom_155 : decode cX4_copyFrom 155 = .ok (.return_, 1) := by decide +kernel
theorem dX4_has_0 : decode cX4_has 0 = .ok (.iload_n 1, 1) := by decide +kernel
theorem dX4_has_1 : decode cX4_has 1 = .ok (.ifCond .lt 24, 3) := by decide +kernel
theorem dX4_has_4 : decode cX4_has 4 = .ok (.iload_n 1, 1) := by decide +kernel
theorem dX4_has_5 : decode cX4_has 5 = .ok (.bipush 22, 2) := by decide +kernel
theorem dX4_has_7 : decode cX4_has 7 = .ok (.if_icmp .ge 18, 3) := by decide +kernel
theorem dX4_has_10 : decode cX4_has 10 = .ok (.aload_n 0, 1) := by decide +kernel
theorem dX4_has_11 : decode cX4_has 11 = .ok (.getfield 53, 3) := by decide +kernel
theorem dX4_has_14 : decode cX4_has 14 = .ok (.iload_n 1, 1) := by decide +kernel
theorem dX4_has_15 : decode cX4_has 15 = .ok (.invokestatic 72, 3) := by decide +kernel
theorem dX4_has_18 : decode cX4_has 18 = .ok (.ifCond .eq 7, 3) := by decide +kernel
theorem dX4_has_21 : decode cX4_has 21 = .ok (.iconst 1, 1) := by decide +kernel
theorem dX4_has_22 : decode cX4_has 22 = .ok (.goto 4, 3) := by decide +kernel
theorem dX4_has_25 : decode cX4_has 25 = .ok (.iconst 0, 1) := by decide +kernel
theorem dX4_has_26 : decode cX4_has 26 = .ok (.ireturn, 1) := by decide +kernel
theorem dX4_hasSnapshot_0 : decode cX4_hasSnapshot 0 = .ok (.iload_n 1, 1) := by decide +kernel
theorem dX4_hasSnapshot_1 : decode cX4_hasSnapshot 1 = .ok (.bipush 16, 2) := by decide +kernel
theorem dX4_hasSnapshot_3 : decode cX4_hasSnapshot 3 = .ok (.if_icmp .ge 15, 3) := by decide +kernel
theorem dX4_hasSnapshot_6 : decode cX4_hasSnapshot 6 = .ok (.aload_n 0, 1) := by decide +kernel
theorem dX4_hasSnapshot_7 : decode cX4_hasSnapshot 7 = .ok (.iload_n 1, 1) := by decide +kernel
theorem dX4_hasSnapshot_8 : decode cX4_hasSnapshot 8 = .ok (.invokevirtual 76, 3) := by decide +kernel
theorem dX4_hasSnapshot_11 : decode cX4_hasSnapshot 11 = .ok (.ifCond .eq 7, 3) := by decide +kernel
theorem dX4_hasSnapshot_14 : decode cX4_hasSnapshot 14 = .ok (.iconst 1, 1) := by decide +kernel
theorem dX4_hasSnapshot_15 : decode cX4_hasSnapshot 15 = .ok (.goto 4, 3) := by decide +kernel
theorem dX4_hasSnapshot_18 : decode cX4_hasSnapshot 18 = .ok (.iconst 0, 1) := by decide +kernel
theorem dX4_hasSnapshot_19 : decode cX4_hasSnapshot 19 = .ok (.ireturn, 1) := by decide +kernel
theorem dX4_hasVolume_0 : decode cX4_hasVolume 0 = .ok (.iload_n 1, 1) := by decide +kernel
theorem dX4_hasVolume_1 : decode cX4_hasVolume 1 = .ok (.ifCond .lt 27, 3) := by decide +kernel
theorem dX4_hasVolume_4 : decode cX4_hasVolume 4 = .ok (.iload_n 1, 1) := by decide +kernel
theorem dX4_hasVolume_5 : decode cX4_hasVolume 5 = .ok (.bipush 6, 2) := by decide +kernel
theorem dX4_hasVolume_7 : decode cX4_hasVolume 7 = .ok (.if_icmp .ge 21, 3) := by decide +kernel
theorem dX4_hasVolume_10 : decode cX4_hasVolume 10 = .ok (.aload_n 0, 1) := by decide +kernel
theorem dX4_hasVolume_11 : decode cX4_hasVolume 11 = .ok (.getfield 53, 3) := by decide +kernel
theorem dX4_hasVolume_14 : decode cX4_hasVolume 14 = .ok (.bipush 16, 2) := by decide +kernel
theorem dX4_hasVolume_16 : decode cX4_hasVolume 16 = .ok (.iload_n 1, 1) := by decide +kernel
theorem dX4_hasVolume_17 : decode cX4_hasVolume 17 = .ok (.iadd, 1) := by decide +kernel
theorem dX4_hasVolume_18 : decode cX4_hasVolume 18 = .ok (.invokestatic 72, 3) := by decide +kernel
theorem dX4_hasVolume_21 : decode cX4_hasVolume 21 = .ok (.ifCond .eq 7, 3) := by decide +kernel
theorem dX4_hasVolume_24 : decode cX4_hasVolume 24 = .ok (.iconst 1, 1) := by decide +kernel
theorem dX4_hasVolume_25 : decode cX4_hasVolume 25 = .ok (.goto 4, 3) := by decide +kernel
theorem dX4_hasVolume_28 : decode cX4_hasVolume 28 = .ok (.iconst 0, 1) := by decide +kernel
theorem dX4_hasVolume_29 : decode cX4_hasVolume 29 = .ok (.ireturn, 1) := by decide +kernel
theorem dX4_snapshotSet_0 : decode cX4_snapshotSet 0 = .ok (.aload_n 0, 1) := by decide +kernel
theorem dX4_snapshotSet_1 : decode cX4_snapshotSet 1 = .ok (.getfield 53, 3) := by decide +kernel
theorem dX4_snapshotSet_4 : decode cX4_snapshotSet 4 = .ok (.bipush 16, 2) := by decide +kernel
theorem dX4_snapshotSet_6 : decode cX4_snapshotSet 6 = .ok (.invokestatic 80, 3) := by decide +kernel
theorem dX4_snapshotSet_9 : decode cX4_snapshotSet 9 = .ok (.iand, 1) := by decide +kernel
theorem dX4_snapshotSet_10 : decode cX4_snapshotSet 10 = .ok (.ireturn, 1) := by decide +kernel
theorem dX4_rowOf_0 : decode cX4_rowOf 0 = .ok (.iconst 0, 1) := by decide +kernel
theorem dX4_rowOf_1 : decode cX4_rowOf 1 = .ok (.istore_n 2, 1) := by decide +kernel
theorem dX4_rowOf_2 : decode cX4_rowOf 2 = .ok (.iconst 0, 1) := by decide +kernel
theorem dX4_rowOf_3 : decode cX4_rowOf 3 = .ok (.istore_n 3, 1) := by decide +kernel
theorem dX4_rowOf_4 : decode cX4_rowOf 4 = .ok (.iload_n 3, 1) := by decide +kernel
theorem dX4_rowOf_5 : decode cX4_rowOf 5 = .ok (.bipush 16, 2) := by decide +kernel
theorem dX4_rowOf_7 : decode cX4_rowOf 7 = .ok (.if_icmp .ge 37, 3) := by decide +kernel
theorem dX4_rowOf_10 : decode cX4_rowOf 10 = .ok (.aload_n 0, 1) := by decide +kernel
theorem dX4_rowOf_11 : decode cX4_rowOf 11 = .ok (.getfield 53, 3) := by decide +kernel
theorem dX4_rowOf_14 : decode cX4_rowOf 14 = .ok (.iload_n 3, 1) := by decide +kernel
theorem dX4_rowOf_15 : decode cX4_rowOf 15 = .ok (.invokestatic 72, 3) := by decide +kernel
theorem dX4_rowOf_18 : decode cX4_rowOf 18 = .ok (.ifCond .eq 20, 3) := by decide +kernel
theorem dX4_rowOf_21 : decode cX4_rowOf 21 = .ok (.aload_n 0, 1) := by decide +kernel
theorem dX4_rowOf_22 : decode cX4_rowOf 22 = .ok (.getfield 15, 3) := by decide +kernel
theorem dX4_rowOf_25 : decode cX4_rowOf 25 = .ok (.iload_n 3, 1) := by decide +kernel
theorem dX4_rowOf_26 : decode cX4_rowOf 26 = .ok (.iaload, 1) := by decide +kernel
theorem dX4_rowOf_27 : decode cX4_rowOf 27 = .ok (.iload_n 1, 1) := by decide +kernel
theorem dX4_rowOf_28 : decode cX4_rowOf 28 = .ok (.if_icmp .ne 10, 3) := by decide +kernel
theorem dX4_rowOf_31 : decode cX4_rowOf 31 = .ok (.iload_n 2, 1) := by decide +kernel
theorem dX4_rowOf_32 : decode cX4_rowOf 32 = .ok (.iload_n 3, 1) := by decide +kernel
theorem dX4_rowOf_33 : decode cX4_rowOf 33 = .ok (.invokestatic 84, 3) := by decide +kernel
theorem dX4_rowOf_36 : decode cX4_rowOf 36 = .ok (.ior, 1) := by decide +kernel
theorem dX4_rowOf_37 : decode cX4_rowOf 37 = .ok (.istore_n 2, 1) := by decide +kernel
theorem dX4_rowOf_38 : decode cX4_rowOf 38 = .ok (.iinc 3 1, 3) := by decide +kernel
theorem dX4_rowOf_41 : decode cX4_rowOf 41 = .ok (.goto (-37), 3) := by decide +kernel
theorem dX4_rowOf_44 : decode cX4_rowOf 44 = .ok (.iload_n 2, 1) := by decide +kernel
theorem dX4_rowOf_45 : decode cX4_rowOf 45 = .ok (.ireturn, 1) := by decide +kernel
theorem dX4_versionsOf_0 : decode cX4_versionsOf 0 = .ok (.aload_n 0, 1) := by decide +kernel
theorem dX4_versionsOf_1 : decode cX4_versionsOf 1 = .ok (.iload_n 1, 1) := by decide +kernel
theorem dX4_versionsOf_2 : decode cX4_versionsOf 2 = .ok (.invokevirtual 87, 3) := by decide +kernel
theorem dX4_versionsOf_5 : decode cX4_versionsOf 5 = .ok (.bipush 16, 2) := by decide +kernel
theorem dX4_versionsOf_7 : decode cX4_versionsOf 7 = .ok (.iload_n 1, 1) := by decide +kernel
theorem dX4_versionsOf_8 : decode cX4_versionsOf 8 = .ok (.iadd, 1) := by decide +kernel
theorem dX4_versionsOf_9 : decode cX4_versionsOf 9 = .ok (.invokestatic 84, 3) := by decide +kernel
theorem dX4_versionsOf_12 : decode cX4_versionsOf 12 = .ok (.ior, 1) := by decide +kernel
theorem dX4_versionsOf_13 : decode cX4_versionsOf 13 = .ok (.ireturn, 1) := by decide +kernel
theorem dX4_rowAhead_0 : decode cX4_rowAhead 0 = .ok (.aload_n 0, 1) := by decide +kernel
theorem dX4_rowAhead_1 : decode cX4_rowAhead 1 = .ok (.aload_n 0, 1) := by decide +kernel
theorem dX4_rowAhead_2 : decode cX4_rowAhead 2 = .ok (.iload_n 1, 1) := by decide +kernel
theorem dX4_rowAhead_3 : decode cX4_rowAhead 3 = .ok (.invokevirtual 90, 3) := by decide +kernel
theorem dX4_rowAhead_6 : decode cX4_rowAhead 6 = .ok (.invokevirtual 87, 3) := by decide +kernel
theorem dX4_rowAhead_9 : decode cX4_rowAhead 9 = .ok (.iload_n 1, 1) := by decide +kernel
theorem dX4_rowAhead_10 : decode cX4_rowAhead 10 = .ok (.invokestatic 80, 3) := by decide +kernel
theorem dX4_rowAhead_13 : decode cX4_rowAhead 13 = .ok (.iand, 1) := by decide +kernel
theorem dX4_rowAhead_14 : decode cX4_rowAhead 14 = .ok (.ireturn, 1) := by decide +kernel
theorem dX4_rowBehind_0 : decode cX4_rowBehind 0 = .ok (.aload_n 0, 1) := by decide +kernel
theorem dX4_rowBehind_1 : decode cX4_rowBehind 1 = .ok (.aload_n 0, 1) := by decide +kernel
theorem dX4_rowBehind_2 : decode cX4_rowBehind 2 = .ok (.getfield 15, 3) := by decide +kernel
theorem dX4_rowBehind_5 : decode cX4_rowBehind 5 = .ok (.iload_n 1, 1) := by decide +kernel
theorem dX4_rowBehind_6 : decode cX4_rowBehind 6 = .ok (.iaload, 1) := by decide +kernel
theorem dX4_rowBehind_7 : decode cX4_rowBehind 7 = .ok (.invokevirtual 87, 3) := by decide +kernel
theorem dX4_rowBehind_10 : decode cX4_rowBehind 10 = .ok (.iload_n 1, 1) := by decide +kernel
theorem dX4_rowBehind_11 : decode cX4_rowBehind 11 = .ok (.iconst 1, 1) := by decide +kernel
theorem dX4_rowBehind_12 : decode cX4_rowBehind 12 = .ok (.iadd, 1) := by decide +kernel
theorem dX4_rowBehind_13 : decode cX4_rowBehind 13 = .ok (.invokestatic 80, 3) := by decide +kernel
theorem dX4_rowBehind_16 : decode cX4_rowBehind 16 = .ok (.iconst (-1), 1) := by decide +kernel
theorem dX4_rowBehind_17 : decode cX4_rowBehind 17 = .ok (.ixor, 1) := by decide +kernel
theorem dX4_rowBehind_18 : decode cX4_rowBehind 18 = .ok (.iand, 1) := by decide +kernel
theorem dX4_rowBehind_19 : decode cX4_rowBehind 19 = .ok (.ireturn, 1) := by decide +kernel
theorem dX4_homeOf_0 : decode cX4_homeOf 0 = .ok (.iload_n 1, 1) := by decide +kernel
theorem dX4_homeOf_1 : decode cX4_homeOf 1 = .ok (.bipush 16, 2) := by decide +kernel
theorem dX4_homeOf_3 : decode cX4_homeOf 3 = .ok (.if_icmp .ge 12, 3) := by decide +kernel
theorem dX4_homeOf_6 : decode cX4_homeOf 6 = .ok (.aload_n 0, 1) := by decide +kernel
theorem dX4_homeOf_7 : decode cX4_homeOf 7 = .ok (.getfield 15, 3) := by decide +kernel
theorem dX4_homeOf_10 : decode cX4_homeOf 10 = .ok (.iload_n 1, 1) := by decide +kernel
theorem dX4_homeOf_11 : decode cX4_homeOf 11 = .ok (.iaload, 1) := by decide +kernel
theorem dX4_homeOf_12 : decode cX4_homeOf 12 = .ok (.goto 7, 3) := by decide +kernel
theorem dX4_homeOf_15 : decode cX4_homeOf 15 = .ok (.iload_n 1, 1) := by decide +kernel
theorem dX4_homeOf_16 : decode cX4_homeOf 16 = .ok (.bipush 16, 2) := by decide +kernel
theorem dX4_homeOf_18 : decode cX4_homeOf 18 = .ok (.isub, 1) := by decide +kernel
theorem dX4_homeOf_19 : decode cX4_homeOf 19 = .ok (.ireturn, 1) := by decide +kernel
theorem dX4_placeOf_0 : decode cX4_placeOf 0 = .ok (.aload_n 0, 1) := by decide +kernel
theorem dX4_placeOf_1 : decode cX4_placeOf 1 = .ok (.iload_n 1, 1) := by decide +kernel
theorem dX4_placeOf_2 : decode cX4_placeOf 2 = .ok (.invokevirtual 93, 3) := by decide +kernel
theorem dX4_placeOf_5 : decode cX4_placeOf 5 = .ok (.invokestatic 96, 3) := by decide +kernel
theorem dX4_placeOf_8 : decode cX4_placeOf 8 = .ok (.ireturn, 1) := by decide +kernel
theorem dX4_ahead_0 : decode cX4_ahead 0 = .ok (.aload_n 0, 1) := by decide +kernel
theorem dX4_ahead_1 : decode cX4_ahead 1 = .ok (.iload_n 1, 1) := by decide +kernel
theorem dX4_ahead_2 : decode cX4_ahead 2 = .ok (.invokevirtual 93, 3) := by decide +kernel
theorem dX4_ahead_5 : decode cX4_ahead 5 = .ok (.istore_n 2, 1) := by decide +kernel
theorem dX4_ahead_6 : decode cX4_ahead 6 = .ok (.iload_n 2, 1) := by decide +kernel
theorem dX4_ahead_7 : decode cX4_ahead 7 = .ok (.ifCond .ne 16, 3) := by decide +kernel
theorem dX4_ahead_10 : decode cX4_ahead 10 = .ok (.aload_n 0, 1) := by decide +kernel
theorem dX4_ahead_11 : decode cX4_ahead 11 = .ok (.getfield 27, 3) := by decide +kernel
theorem dX4_ahead_14 : decode cX4_ahead 14 = .ok (.aload_n 0, 1) := by decide +kernel
theorem dX4_ahead_15 : decode cX4_ahead 15 = .ok (.iload_n 1, 1) := by decide +kernel
theorem dX4_ahead_16 : decode cX4_ahead 16 = .ok (.invokevirtual 90, 3) := by decide +kernel
theorem dX4_ahead_19 : decode cX4_ahead 19 = .ok (.iaload, 1) := by decide +kernel
theorem dX4_ahead_20 : decode cX4_ahead 20 = .ok (.goto 7, 3) := by decide +kernel
theorem dX4_ahead_23 : decode cX4_ahead 23 = .ok (.iload_n 2, 1) := by decide +kernel
theorem dX4_ahead_24 : decode cX4_ahead 24 = .ok (.invokestatic 101, 3) := by decide +kernel
theorem dX4_ahead_27 : decode cX4_ahead 27 = .ok (.ireturn, 1) := by decide +kernel
theorem dX4_follower_0 : decode cX4_follower 0 = .ok (.aload_n 0, 1) := by decide +kernel
theorem dX4_follower_1 : decode cX4_follower 1 = .ok (.iload_n 1, 1) := by decide +kernel
theorem dX4_follower_2 : decode cX4_follower 2 = .ok (.invokevirtual 104, 3) := by decide +kernel
theorem dX4_follower_5 : decode cX4_follower 5 = .ok (.istore_n 2, 1) := by decide +kernel
theorem dX4_follower_6 : decode cX4_follower 6 = .ok (.iload_n 2, 1) := by decide +kernel
theorem dX4_follower_7 : decode cX4_follower 7 = .ok (.ifCond .ne 15, 3) := by decide +kernel
theorem dX4_follower_10 : decode cX4_follower 10 = .ok (.bipush 16, 2) := by decide +kernel
theorem dX4_follower_12 : decode cX4_follower 12 = .ok (.aload_n 0, 1) := by decide +kernel
theorem dX4_follower_13 : decode cX4_follower 13 = .ok (.getfield 15, 3) := by decide +kernel
theorem dX4_follower_16 : decode cX4_follower 16 = .ok (.iload_n 1, 1) := by decide +kernel
theorem dX4_follower_17 : decode cX4_follower 17 = .ok (.iaload, 1) := by decide +kernel
theorem dX4_follower_18 : decode cX4_follower 18 = .ok (.iadd, 1) := by decide +kernel
theorem dX4_follower_19 : decode cX4_follower 19 = .ok (.goto 7, 3) := by decide +kernel
theorem dX4_follower_22 : decode cX4_follower 22 = .ok (.iload_n 2, 1) := by decide +kernel
theorem dX4_follower_23 : decode cX4_follower 23 = .ok (.invokestatic 107, 3) := by decide +kernel
theorem dX4_follower_26 : decode cX4_follower 26 = .ok (.ireturn, 1) := by decide +kernel
theorem dX4_lineage_0 : decode cX4_lineage 0 = .ok (.iconst 0, 1) := by decide +kernel
theorem dX4_lineage_1 : decode cX4_lineage 1 = .ok (.istore_n 2, 1) := by decide +kernel
theorem dX4_lineage_2 : decode cX4_lineage 2 = .ok (.iload_n 1, 1) := by decide +kernel
theorem dX4_lineage_3 : decode cX4_lineage 3 = .ok (.istore_n 3, 1) := by decide +kernel
theorem dX4_lineage_4 : decode cX4_lineage 4 = .ok (.iconst 0, 1) := by decide +kernel
theorem dX4_lineage_5 : decode cX4_lineage 5 = .ok (.istore 4, 2) := by decide +kernel
theorem dX4_lineage_7 : decode cX4_lineage 7 = .ok (.iload 4, 2) := by decide +kernel
theorem dX4_lineage_9 : decode cX4_lineage 9 = .ok (.bipush 22, 2) := by decide +kernel
theorem dX4_lineage_11 : decode cX4_lineage 11 = .ok (.if_icmp .ge 27, 3) := by decide +kernel
theorem dX4_lineage_14 : decode cX4_lineage 14 = .ok (.iload_n 3, 1) := by decide +kernel
theorem dX4_lineage_15 : decode cX4_lineage 15 = .ok (.iconst (-1), 1) := by decide +kernel
theorem dX4_lineage_16 : decode cX4_lineage 16 = .ok (.if_icmp .eq 22, 3) := by decide +kernel
theorem dX4_lineage_19 : decode cX4_lineage 19 = .ok (.iload_n 2, 1) := by decide +kernel
theorem dX4_lineage_20 : decode cX4_lineage 20 = .ok (.iload_n 3, 1) := by decide +kernel
theorem dX4_lineage_21 : decode cX4_lineage 21 = .ok (.invokestatic 84, 3) := by decide +kernel
theorem dX4_lineage_24 : decode cX4_lineage 24 = .ok (.ior, 1) := by decide +kernel
theorem dX4_lineage_25 : decode cX4_lineage 25 = .ok (.istore_n 2, 1) := by decide +kernel
theorem dX4_lineage_26 : decode cX4_lineage 26 = .ok (.aload_n 0, 1) := by decide +kernel
theorem dX4_lineage_27 : decode cX4_lineage 27 = .ok (.iload_n 3, 1) := by decide +kernel
theorem dX4_lineage_28 : decode cX4_lineage 28 = .ok (.invokevirtual 110, 3) := by decide +kernel
theorem dX4_lineage_31 : decode cX4_lineage 31 = .ok (.istore_n 3, 1) := by decide +kernel
theorem dX4_lineage_32 : decode cX4_lineage 32 = .ok (.iinc 4 1, 3) := by decide +kernel
theorem dX4_lineage_35 : decode cX4_lineage 35 = .ok (.goto (-28), 3) := by decide +kernel
theorem dX4_lineage_38 : decode cX4_lineage 38 = .ok (.iload_n 2, 1) := by decide +kernel
theorem dX4_lineage_39 : decode cX4_lineage 39 = .ok (.ireturn, 1) := by decide +kernel
theorem dX4_offspring_0 : decode cX4_offspring 0 = .ok (.iconst 0, 1) := by decide +kernel
theorem dX4_offspring_1 : decode cX4_offspring 1 = .ok (.istore_n 2, 1) := by decide +kernel
theorem dX4_offspring_2 : decode cX4_offspring 2 = .ok (.iconst 0, 1) := by decide +kernel
theorem dX4_offspring_3 : decode cX4_offspring 3 = .ok (.istore_n 3, 1) := by decide +kernel
theorem dX4_offspring_4 : decode cX4_offspring 4 = .ok (.iload_n 3, 1) := by decide +kernel
theorem dX4_offspring_5 : decode cX4_offspring 5 = .ok (.bipush 6, 2) := by decide +kernel
theorem dX4_offspring_7 : decode cX4_offspring 7 = .ok (.if_icmp .ge 40, 3) := by decide +kernel
theorem dX4_offspring_10 : decode cX4_offspring 10 = .ok (.aload_n 0, 1) := by decide +kernel
theorem dX4_offspring_11 : decode cX4_offspring 11 = .ok (.getfield 53, 3) := by decide +kernel
theorem dX4_offspring_14 : decode cX4_offspring 14 = .ok (.bipush 16, 2) := by decide +kernel
theorem dX4_offspring_16 : decode cX4_offspring 16 = .ok (.iload_n 3, 1) := by decide +kernel
theorem dX4_offspring_17 : decode cX4_offspring 17 = .ok (.iadd, 1) := by decide +kernel
theorem dX4_offspring_18 : decode cX4_offspring 18 = .ok (.invokestatic 72, 3) := by decide +kernel
theorem dX4_offspring_21 : decode cX4_offspring 21 = .ok (.ifCond .eq 20, 3) := by decide +kernel
theorem dX4_offspring_24 : decode cX4_offspring 24 = .ok (.aload_n 0, 1) := by decide +kernel
theorem dX4_offspring_25 : decode cX4_offspring 25 = .ok (.getfield 27, 3) := by decide +kernel
theorem dX4_offspring_28 : decode cX4_offspring 28 = .ok (.iload_n 3, 1) := by decide +kernel
theorem dX4_offspring_29 : decode cX4_offspring 29 = .ok (.iaload, 1) := by decide +kernel
theorem dX4_offspring_30 : decode cX4_offspring 30 = .ok (.iload_n 1, 1) := by decide +kernel
theorem dX4_offspring_31 : decode cX4_offspring 31 = .ok (.if_icmp .ne 10, 3) := by decide +kernel
theorem dX4_offspring_34 : decode cX4_offspring 34 = .ok (.iload_n 2, 1) := by decide +kernel
theorem dX4_offspring_35 : decode cX4_offspring 35 = .ok (.iload_n 3, 1) := by decide +kernel
theorem dX4_offspring_36 : decode cX4_offspring 36 = .ok (.invokestatic 84, 3) := by decide +kernel
theorem dX4_offspring_39 : decode cX4_offspring 39 = .ok (.ior, 1) := by decide +kernel
theorem dX4_offspring_40 : decode cX4_offspring 40 = .ok (.istore_n 2, 1) := by decide +kernel
theorem dX4_offspring_41 : decode cX4_offspring 41 = .ok (.iinc 3 1, 3) := by decide +kernel
theorem dX4_offspring_44 : decode cX4_offspring 44 = .ok (.goto (-40), 3) := by decide +kernel
theorem dX4_offspring_47 : decode cX4_offspring 47 = .ok (.iload_n 2, 1) := by decide +kernel
theorem dX4_offspring_48 : decode cX4_offspring 48 = .ok (.ireturn, 1) := by decide +kernel
theorem dX4_canBeCloned_0 : decode cX4_canBeCloned 0 = .ok (.aload_n 0, 1) := by decide +kernel
theorem dX4_canBeCloned_1 : decode cX4_canBeCloned 1 = .ok (.iload_n 1, 1) := by decide +kernel
theorem dX4_canBeCloned_2 : decode cX4_canBeCloned 2 = .ok (.invokevirtual 113, 3) := by decide +kernel
theorem dX4_canBeCloned_5 : decode cX4_canBeCloned 5 = .ok (.invokestatic 96, 3) := by decide +kernel
theorem dX4_canBeCloned_8 : decode cX4_canBeCloned 8 = .ok (.aload_n 0, 1) := by decide +kernel
theorem dX4_canBeCloned_9 : decode cX4_canBeCloned 9 = .ok (.getfield 9, 3) := by decide +kernel
theorem dX4_canBeCloned_12 : decode cX4_canBeCloned 12 = .ok (.iconst 1, 1) := by decide +kernel
theorem dX4_canBeCloned_13 : decode cX4_canBeCloned 13 = .ok (.iaload, 1) := by decide +kernel
theorem dX4_canBeCloned_14 : decode cX4_canBeCloned 14 = .ok (.if_icmp .ge 7, 3) := by decide +kernel
theorem dX4_canBeCloned_17 : decode cX4_canBeCloned 17 = .ok (.iconst 1, 1) := by decide +kernel
theorem dX4_canBeCloned_18 : decode cX4_canBeCloned 18 = .ok (.goto 4, 3) := by decide +kernel
theorem dX4_canBeCloned_21 : decode cX4_canBeCloned 21 = .ok (.iconst 0, 1) := by decide +kernel
theorem dX4_canBeCloned_22 : decode cX4_canBeCloned 22 = .ok (.ireturn, 1) := by decide +kernel
theorem dX4_canDestroy_0 : decode cX4_canDestroy 0 = .ok (.aload_n 0, 1) := by decide +kernel
theorem dX4_canDestroy_1 : decode cX4_canDestroy 1 = .ok (.iload_n 1, 1) := by decide +kernel
theorem dX4_canDestroy_2 : decode cX4_canDestroy 2 = .ok (.invokevirtual 113, 3) := by decide +kernel
theorem dX4_canDestroy_5 : decode cX4_canDestroy 5 = .ok (.ifCond .ne 18, 3) := by decide +kernel
theorem dX4_canDestroy_8 : decode cX4_canDestroy 8 = .ok (.aload_n 0, 1) := by decide +kernel
theorem dX4_canDestroy_9 : decode cX4_canDestroy 9 = .ok (.getfield 56, 3) := by decide +kernel
theorem dX4_canDestroy_12 : decode cX4_canDestroy 12 = .ok (.iload_n 1, 1) := by decide +kernel
theorem dX4_canDestroy_13 : decode cX4_canDestroy 13 = .ok (.invokestatic 72, 3) := by decide +kernel
theorem dX4_canDestroy_16 : decode cX4_canDestroy 16 = .ok (.ifCond .ne 7, 3) := by decide +kernel
theorem dX4_canDestroy_19 : decode cX4_canDestroy 19 = .ok (.iconst 1, 1) := by decide +kernel
theorem dX4_canDestroy_20 : decode cX4_canDestroy 20 = .ok (.goto 4, 3) := by decide +kernel
theorem dX4_canDestroy_23 : decode cX4_canDestroy 23 = .ok (.iconst 0, 1) := by decide +kernel
theorem dX4_canDestroy_24 : decode cX4_canDestroy 24 = .ok (.ireturn, 1) := by decide +kernel
theorem dX4_canDestroyAll_0 : decode cX4_canDestroyAll 0 = .ok (.iconst 0, 1) := by decide +kernel
theorem dX4_canDestroyAll_1 : decode cX4_canDestroyAll 1 = .ok (.istore_n 2, 1) := by decide +kernel
theorem dX4_canDestroyAll_2 : decode cX4_canDestroyAll 2 = .ok (.iload_n 2, 1) := by decide +kernel
theorem dX4_canDestroyAll_3 : decode cX4_canDestroyAll 3 = .ok (.bipush 16, 2) := by decide +kernel
theorem dX4_canDestroyAll_5 : decode cX4_canDestroyAll 5 = .ok (.if_icmp .ge 27, 3) := by decide +kernel
theorem dX4_canDestroyAll_8 : decode cX4_canDestroyAll 8 = .ok (.iload_n 1, 1) := by decide +kernel
theorem dX4_canDestroyAll_9 : decode cX4_canDestroyAll 9 = .ok (.iload_n 2, 1) := by decide +kernel
theorem dX4_canDestroyAll_10 : decode cX4_canDestroyAll 10 = .ok (.invokestatic 72, 3) := by decide +kernel
theorem dX4_canDestroyAll_13 : decode cX4_canDestroyAll 13 = .ok (.ifCond .eq 13, 3) := by decide +kernel
theorem dX4_canDestroyAll_16 : decode cX4_canDestroyAll 16 = .ok (.aload_n 0, 1) := by decide +kernel
theorem dX4_canDestroyAll_17 : decode cX4_canDestroyAll 17 = .ok (.iload_n 2, 1) := by decide +kernel
theorem dX4_canDestroyAll_18 : decode cX4_canDestroyAll 18 = .ok (.invokevirtual 116, 3) := by decide +kernel
theorem dX4_canDestroyAll_21 : decode cX4_canDestroyAll 21 = .ok (.ifCond .ne 5, 3) := by decide +kernel
theorem dX4_canDestroyAll_24 : decode cX4_canDestroyAll 24 = .ok (.iconst 0, 1) := by decide +kernel
theorem dX4_canDestroyAll_25 : decode cX4_canDestroyAll 25 = .ok (.ireturn, 1) := by decide +kernel
theorem dX4_canDestroyAll_26 : decode cX4_canDestroyAll 26 = .ok (.iinc 2 1, 3) := by decide +kernel
theorem dX4_canDestroyAll_29 : decode cX4_canDestroyAll 29 = .ok (.goto (-27), 3) := by decide +kernel
theorem dX4_canDestroyAll_32 : decode cX4_canDestroyAll 32 = .ok (.iconst 1, 1) := by decide +kernel
theorem dX4_canDestroyAll_33 : decode cX4_canDestroyAll 33 = .ok (.ireturn, 1) := by decide +kernel
theorem dX4_volumeWithName_0 : decode cX4_volumeWithName 0 = .ok (.iconst 0, 1) := by decide +kernel
theorem dX4_volumeWithName_1 : decode cX4_volumeWithName 1 = .ok (.istore_n 2, 1) := by decide +kernel
theorem dX4_volumeWithName_2 : decode cX4_volumeWithName 2 = .ok (.iload_n 1, 1) := by decide +kernel
theorem dX4_volumeWithName_3 : decode cX4_volumeWithName 3 = .ok (.ifCond .eq 41, 3) := by decide +kernel
theorem dX4_volumeWithName_6 : decode cX4_volumeWithName 6 = .ok (.iload_n 2, 1) := by decide +kernel
theorem dX4_volumeWithName_7 : decode cX4_volumeWithName 7 = .ok (.bipush 6, 2) := by decide +kernel
theorem dX4_volumeWithName_9 : decode cX4_volumeWithName 9 = .ok (.if_icmp .ge 35, 3) := by decide +kernel
theorem dX4_volumeWithName_12 : decode cX4_volumeWithName 12 = .ok (.aload_n 0, 1) := by decide +kernel
theorem dX4_volumeWithName_13 : decode cX4_volumeWithName 13 = .ok (.getfield 53, 3) := by decide +kernel
theorem dX4_volumeWithName_16 : decode cX4_volumeWithName 16 = .ok (.bipush 16, 2) := by decide +kernel
theorem dX4_volumeWithName_18 : decode cX4_volumeWithName 18 = .ok (.iload_n 2, 1) := by decide +kernel
theorem dX4_volumeWithName_19 : decode cX4_volumeWithName 19 = .ok (.iadd, 1) := by decide +kernel
theorem dX4_volumeWithName_20 : decode cX4_volumeWithName 20 = .ok (.invokestatic 72, 3) := by decide +kernel
theorem dX4_volumeWithName_23 : decode cX4_volumeWithName 23 = .ok (.ifCond .eq 15, 3) := by decide +kernel
theorem dX4_volumeWithName_26 : decode cX4_volumeWithName 26 = .ok (.aload_n 0, 1) := by decide +kernel
theorem dX4_volumeWithName_27 : decode cX4_volumeWithName 27 = .ok (.getfield 24, 3) := by decide +kernel
theorem dX4_volumeWithName_30 : decode cX4_volumeWithName 30 = .ok (.iload_n 2, 1) := by decide +kernel
theorem dX4_volumeWithName_31 : decode cX4_volumeWithName 31 = .ok (.iaload, 1) := by decide +kernel
theorem dX4_volumeWithName_32 : decode cX4_volumeWithName 32 = .ok (.iload_n 1, 1) := by decide +kernel
theorem dX4_volumeWithName_33 : decode cX4_volumeWithName 33 = .ok (.if_icmp .ne 5, 3) := by decide +kernel
theorem dX4_volumeWithName_36 : decode cX4_volumeWithName 36 = .ok (.iload_n 2, 1) := by decide +kernel
theorem dX4_volumeWithName_37 : decode cX4_volumeWithName 37 = .ok (.ireturn, 1) := by decide +kernel
theorem dX4_volumeWithName_38 : decode cX4_volumeWithName 38 = .ok (.iinc 2 1, 3) := by decide +kernel
theorem dX4_volumeWithName_41 : decode cX4_volumeWithName 41 = .ok (.goto (-39), 3) := by decide +kernel
theorem dX4_volumeWithName_44 : decode cX4_volumeWithName 44 = .ok (.iconst (-1), 1) := by decide +kernel
theorem dX4_volumeWithName_45 : decode cX4_volumeWithName 45 = .ok (.ireturn, 1) := by decide +kernel
theorem dX4_snapshotWithName_0 : decode cX4_snapshotWithName 0 = .ok (.iconst 0, 1) := by decide +kernel
theorem dX4_snapshotWithName_1 : decode cX4_snapshotWithName 1 = .ok (.istore_n 2, 1) := by decide +kernel
theorem dX4_snapshotWithName_2 : decode cX4_snapshotWithName 2 = .ok (.iload_n 1, 1) := by decide +kernel
theorem dX4_snapshotWithName_3 : decode cX4_snapshotWithName 3 = .ok (.ifCond .eq 38, 3) := by decide +kernel
theorem dX4_snapshotWithName_6 : decode cX4_snapshotWithName 6 = .ok (.iload_n 2, 1) := by decide +kernel
theorem dX4_snapshotWithName_7 : decode cX4_snapshotWithName 7 = .ok (.bipush 16, 2) := by decide +kernel
theorem dX4_snapshotWithName_9 : decode cX4_snapshotWithName 9 = .ok (.if_icmp .ge 32, 3) := by decide +kernel
theorem dX4_snapshotWithName_12 : decode cX4_snapshotWithName 12 = .ok (.aload_n 0, 1) := by decide +kernel
theorem dX4_snapshotWithName_13 : decode cX4_snapshotWithName 13 = .ok (.getfield 53, 3) := by decide +kernel
theorem dX4_snapshotWithName_16 : decode cX4_snapshotWithName 16 = .ok (.iload_n 2, 1) := by decide +kernel
theorem dX4_snapshotWithName_17 : decode cX4_snapshotWithName 17 = .ok (.invokestatic 72, 3) := by decide +kernel
theorem dX4_snapshotWithName_20 : decode cX4_snapshotWithName 20 = .ok (.ifCond .eq 15, 3) := by decide +kernel
theorem dX4_snapshotWithName_23 : decode cX4_snapshotWithName 23 = .ok (.aload_n 0, 1) := by decide +kernel
theorem dX4_snapshotWithName_24 : decode cX4_snapshotWithName 24 = .ok (.getfield 21, 3) := by decide +kernel
theorem dX4_snapshotWithName_27 : decode cX4_snapshotWithName 27 = .ok (.iload_n 2, 1) := by decide +kernel
theorem dX4_snapshotWithName_28 : decode cX4_snapshotWithName 28 = .ok (.iaload, 1) := by decide +kernel
theorem dX4_snapshotWithName_29 : decode cX4_snapshotWithName 29 = .ok (.iload_n 1, 1) := by decide +kernel
theorem dX4_snapshotWithName_30 : decode cX4_snapshotWithName 30 = .ok (.if_icmp .ne 5, 3) := by decide +kernel
theorem dX4_snapshotWithName_33 : decode cX4_snapshotWithName 33 = .ok (.iload_n 2, 1) := by decide +kernel
theorem dX4_snapshotWithName_34 : decode cX4_snapshotWithName 34 = .ok (.ireturn, 1) := by decide +kernel
theorem dX4_snapshotWithName_35 : decode cX4_snapshotWithName 35 = .ok (.iinc 2 1, 3) := by decide +kernel
theorem dX4_snapshotWithName_38 : decode cX4_snapshotWithName 38 = .ok (.goto (-36), 3) := by decide +kernel
theorem dX4_snapshotWithName_41 : decode cX4_snapshotWithName 41 = .ok (.iconst (-1), 1) := by decide +kernel
theorem dX4_snapshotWithName_42 : decode cX4_snapshotWithName 42 = .ok (.ireturn, 1) := by decide +kernel
theorem dX4_writeAnswer_0 : decode cX4_writeAnswer 0 = .ok (.aload_n 0, 1) := by decide +kernel
theorem dX4_writeAnswer_1 : decode cX4_writeAnswer 1 = .ok (.iload_n 1, 1) := by decide +kernel
theorem dX4_writeAnswer_2 : decode cX4_writeAnswer 2 = .ok (.invokevirtual 119, 3) := by decide +kernel
theorem dX4_writeAnswer_5 : decode cX4_writeAnswer 5 = .ok (.ifCond .ne 5, 3) := by decide +kernel
theorem dX4_writeAnswer_8 : decode cX4_writeAnswer 8 = .ok (.iconst (-1), 1) := by decide +kernel
theorem dX4_writeAnswer_9 : decode cX4_writeAnswer 9 = .ok (.ireturn, 1) := by decide +kernel
theorem dX4_writeAnswer_10 : decode cX4_writeAnswer 10 = .ok (.iload_n 2, 1) := by decide +kernel
theorem dX4_writeAnswer_11 : decode cX4_writeAnswer 11 = .ok (.invokestatic 122, 3) := by decide +kernel
theorem dX4_writeAnswer_14 : decode cX4_writeAnswer 14 = .ok (.ifCond .eq 14, 3) := by decide +kernel
theorem dX4_writeAnswer_17 : decode cX4_writeAnswer 17 = .ok (.iload_n 3, 1) := by decide +kernel
theorem dX4_writeAnswer_18 : decode cX4_writeAnswer 18 = .ok (.iconst 1, 1) := by decide +kernel
theorem dX4_writeAnswer_19 : decode cX4_writeAnswer 19 = .ok (.if_icmp .lt 9, 3) := by decide +kernel
theorem dX4_writeAnswer_22 : decode cX4_writeAnswer 22 = .ok (.iload_n 3, 1) := by decide +kernel
theorem dX4_writeAnswer_23 : decode cX4_writeAnswer 23 = .ok (.bipush 9, 2) := by decide +kernel
theorem dX4_writeAnswer_25 : decode cX4_writeAnswer 25 = .ok (.if_icmp .le 6, 3) := by decide +kernel
theorem dX4_writeAnswer_28 : decode cX4_writeAnswer 28 = .ok (.bipush (-2), 2) := by decide +kernel
theorem dX4_writeAnswer_30 : decode cX4_writeAnswer 30 = .ok (.ireturn, 1) := by decide +kernel
theorem dX4_writeAnswer_31 : decode cX4_writeAnswer 31 = .ok (.bipush 16, 2) := by decide +kernel
theorem dX4_writeAnswer_33 : decode cX4_writeAnswer 33 = .ok (.iload_n 1, 1) := by decide +kernel
theorem dX4_writeAnswer_34 : decode cX4_writeAnswer 34 = .ok (.iadd, 1) := by decide +kernel
theorem dX4_writeAnswer_35 : decode cX4_writeAnswer 35 = .ok (.istore 4, 2) := by decide +kernel
theorem dX4_writeAnswer_37 : decode cX4_writeAnswer 37 = .ok (.aload_n 0, 1) := by decide +kernel
theorem dX4_writeAnswer_38 : decode cX4_writeAnswer 38 = .ok (.getfield 36, 3) := by decide +kernel
theorem dX4_writeAnswer_41 : decode cX4_writeAnswer 41 = .ok (.iconst 0, 1) := by decide +kernel
theorem dX4_writeAnswer_42 : decode cX4_writeAnswer 42 = .ok (.iconst 0, 1) := by decide +kernel
theorem dX4_writeAnswer_43 : decode cX4_writeAnswer 43 = .ok (.iconst 0, 1) := by decide +kernel
theorem dX4_writeAnswer_44 : decode cX4_writeAnswer 44 = .ok (.invokevirtual 125, 3) := by decide +kernel
theorem dX4_writeAnswer_47 : decode cX4_writeAnswer 47 = .ok (.aload_n 0, 1) := by decide +kernel
theorem dX4_writeAnswer_48 : decode cX4_writeAnswer 48 = .ok (.getfield 36, 3) := by decide +kernel
theorem dX4_writeAnswer_51 : decode cX4_writeAnswer 51 = .ok (.iload 4, 2) := by decide +kernel
theorem dX4_writeAnswer_53 : decode cX4_writeAnswer 53 = .ok (.iload_n 2, 1) := by decide +kernel
theorem dX4_writeAnswer_54 : decode cX4_writeAnswer 54 = .ok (.invokevirtual 129, 3) := by decide +kernel
theorem dX4_writeAnswer_57 : decode cX4_writeAnswer 57 = .ok (.isub, 1) := by decide +kernel
theorem dX4_writeAnswer_58 : decode cX4_writeAnswer 58 = .ok (.iload_n 3, 1) := by decide +kernel
theorem dX4_writeAnswer_59 : decode cX4_writeAnswer 59 = .ok (.iadd, 1) := by decide +kernel
theorem dX4_writeAnswer_60 : decode cX4_writeAnswer 60 = .ok (.aload_n 0, 1) := by decide +kernel
theorem dX4_writeAnswer_61 : decode cX4_writeAnswer 61 = .ok (.getfield 9, 3) := by decide +kernel
theorem dX4_writeAnswer_64 : decode cX4_writeAnswer 64 = .ok (.iconst 0, 1) := by decide +kernel
theorem dX4_writeAnswer_65 : decode cX4_writeAnswer 65 = .ok (.iaload, 1) := by decide +kernel
theorem dX4_writeAnswer_66 : decode cX4_writeAnswer 66 = .ok (.if_icmp .le 6, 3) := by decide +kernel
theorem dX4_writeAnswer_69 : decode cX4_writeAnswer 69 = .ok (.bipush (-3), 2) := by decide +kernel
theorem dX4_writeAnswer_71 : decode cX4_writeAnswer 71 = .ok (.ireturn, 1) := by decide +kernel
theorem dX4_writeAnswer_72 : decode cX4_writeAnswer 72 = .ok (.aload_n 0, 1) := by decide +kernel
theorem dX4_writeAnswer_73 : decode cX4_writeAnswer 73 = .ok (.getfield 36, 3) := by decide +kernel
theorem dX4_writeAnswer_76 : decode cX4_writeAnswer 76 = .ok (.iload 4, 2) := by decide +kernel
theorem dX4_writeAnswer_78 : decode cX4_writeAnswer 78 = .ok (.iload_n 2, 1) := by decide +kernel
theorem dX4_writeAnswer_79 : decode cX4_writeAnswer 79 = .ok (.invokevirtual 133, 3) := by decide +kernel
theorem dX4_writeAnswer_82 : decode cX4_writeAnswer 82 = .ok (.istore 5, 2) := by decide +kernel
theorem dX4_writeAnswer_84 : decode cX4_writeAnswer 84 = .ok (.iload 5, 2) := by decide +kernel
theorem dX4_writeAnswer_86 : decode cX4_writeAnswer 86 = .ok (.iconst (-1), 1) := by decide +kernel
theorem dX4_writeAnswer_87 : decode cX4_writeAnswer 87 = .ok (.if_icmp .ne 7, 3) := by decide +kernel
theorem dX4_writeAnswer_90 : decode cX4_writeAnswer 90 = .ok (.iconst 0, 1) := by decide +kernel
theorem dX4_writeAnswer_91 : decode cX4_writeAnswer 91 = .ok (.goto 13, 3) := by decide +kernel
theorem dX4_writeAnswer_94 : decode cX4_writeAnswer 94 = .ok (.aload_n 0, 1) := by decide +kernel
theorem dX4_writeAnswer_95 : decode cX4_writeAnswer 95 = .ok (.getfield 36, 3) := by decide +kernel
theorem dX4_writeAnswer_98 : decode cX4_writeAnswer 98 = .ok (.getfield 136, 3) := by decide +kernel
theorem dX4_writeAnswer_101 : decode cX4_writeAnswer 101 = .ok (.iload 5, 2) := by decide +kernel
theorem dX4_writeAnswer_103 : decode cX4_writeAnswer 103 = .ok (.iaload, 1) := by decide +kernel
theorem dX4_writeAnswer_104 : decode cX4_writeAnswer 104 = .ok (.istore 6, 2) := by decide +kernel
theorem dX4_writeAnswer_106 : decode cX4_writeAnswer 106 = .ok (.aload_n 0, 1) := by decide +kernel
theorem dX4_writeAnswer_107 : decode cX4_writeAnswer 107 = .ok (.getfield 36, 3) := by decide +kernel
theorem dX4_writeAnswer_110 : decode cX4_writeAnswer 110 = .ok (.iload 4, 2) := by decide +kernel
theorem dX4_writeAnswer_112 : decode cX4_writeAnswer 112 = .ok (.invokestatic 84, 3) := by decide +kernel
theorem dX4_writeAnswer_115 : decode cX4_writeAnswer 115 = .ok (.iconst 0, 1) := by decide +kernel
theorem dX4_writeAnswer_116 : decode cX4_writeAnswer 116 = .ok (.iconst 0, 1) := by decide +kernel
theorem dX4_writeAnswer_117 : decode cX4_writeAnswer 117 = .ok (.invokevirtual 125, 3) := by decide +kernel
theorem dX4_writeAnswer_120 : decode cX4_writeAnswer 120 = .ok (.iload 6, 2) := by decide +kernel
theorem dX4_writeAnswer_122 : decode cX4_writeAnswer 122 = .ok (.isub, 1) := by decide +kernel
theorem dX4_writeAnswer_123 : decode cX4_writeAnswer 123 = .ok (.iload_n 3, 1) := by decide +kernel
theorem dX4_writeAnswer_124 : decode cX4_writeAnswer 124 = .ok (.iadd, 1) := by decide +kernel
theorem dX4_writeAnswer_125 : decode cX4_writeAnswer 125 = .ok (.istore 7, 2) := by decide +kernel
theorem dX4_writeAnswer_127 : decode cX4_writeAnswer 127 = .ok (.aload_n 0, 1) := by decide +kernel
theorem dX4_writeAnswer_128 : decode cX4_writeAnswer 128 = .ok (.getfield 30, 3) := by decide +kernel
theorem dX4_writeAnswer_131 : decode cX4_writeAnswer 131 = .ok (.iload_n 1, 1) := by decide +kernel
theorem dX4_writeAnswer_132 : decode cX4_writeAnswer 132 = .ok (.iaload, 1) := by decide +kernel
theorem dX4_writeAnswer_133 : decode cX4_writeAnswer 133 = .ok (.ifCond .eq 17, 3) := by decide +kernel
theorem dX4_writeAnswer_136 : decode cX4_writeAnswer 136 = .ok (.iload 7, 2) := by decide +kernel
theorem dX4_writeAnswer_138 : decode cX4_writeAnswer 138 = .ok (.aload_n 0, 1) := by decide +kernel
theorem dX4_writeAnswer_139 : decode cX4_writeAnswer 139 = .ok (.getfield 30, 3) := by decide +kernel
theorem dX4_writeAnswer_142 : decode cX4_writeAnswer 142 = .ok (.iload_n 1, 1) := by decide +kernel
theorem dX4_writeAnswer_143 : decode cX4_writeAnswer 143 = .ok (.iaload, 1) := by decide +kernel
theorem dX4_writeAnswer_144 : decode cX4_writeAnswer 144 = .ok (.if_icmp .le 6, 3) := by decide +kernel
theorem dX4_writeAnswer_147 : decode cX4_writeAnswer 147 = .ok (.bipush (-5), 2) := by decide +kernel
theorem dX4_writeAnswer_149 : decode cX4_writeAnswer 149 = .ok (.ireturn, 1) := by decide +kernel
theorem dX4_writeAnswer_150 : decode cX4_writeAnswer 150 = .ok (.aload_n 0, 1) := by decide +kernel
theorem dX4_writeAnswer_151 : decode cX4_writeAnswer 151 = .ok (.getfield 43, 3) := by decide +kernel
theorem dX4_writeAnswer_154 : decode cX4_writeAnswer 154 = .ok (.iconst 1, 1) := by decide +kernel
theorem dX4_writeAnswer_155 : decode cX4_writeAnswer 155 = .ok (.iadd, 1) := by decide +kernel
theorem dX4_writeAnswer_156 : decode cX4_writeAnswer 156 = .ok (.ireturn, 1) := by decide +kernel
theorem dX4_putBlock_0 : decode cX4_putBlock 0 = .ok (.aload_n 0, 1) := by decide +kernel
theorem dX4_putBlock_1 : decode cX4_putBlock 1 = .ok (.dup, 1) := by decide +kernel
theorem dX4_putBlock_2 : decode cX4_putBlock 2 = .ok (.getfield 43, 3) := by decide +kernel
theorem dX4_putBlock_5 : decode cX4_putBlock 5 = .ok (.iconst 1, 1) := by decide +kernel
theorem dX4_putBlock_6 : decode cX4_putBlock 6 = .ok (.iadd, 1) := by decide +kernel
theorem dX4_putBlock_7 : decode cX4_putBlock 7 = .ok (.putfield 43, 3) := by decide +kernel
theorem dX4_putBlock_10 : decode cX4_putBlock 10 = .ok (.aload_n 0, 1) := by decide +kernel
theorem dX4_putBlock_11 : decode cX4_putBlock 11 = .ok (.getfield 36, 3) := by decide +kernel
theorem dX4_putBlock_14 : decode cX4_putBlock 14 = .ok (.bipush 16, 2) := by decide +kernel
theorem dX4_putBlock_16 : decode cX4_putBlock 16 = .ok (.iload_n 1, 1) := by decide +kernel
theorem dX4_putBlock_17 : decode cX4_putBlock 17 = .ok (.iadd, 1) := by decide +kernel
theorem dX4_putBlock_18 : decode cX4_putBlock 18 = .ok (.iload_n 2, 1) := by decide +kernel
theorem dX4_putBlock_19 : decode cX4_putBlock 19 = .ok (.invokevirtual 139, 3) := by decide +kernel
theorem dX4_putBlock_22 : decode cX4_putBlock 22 = .ok (.pop, 1) := by decide +kernel
theorem dX4_putBlock_23 : decode cX4_putBlock 23 = .ok (.aload_n 0, 1) := by decide +kernel
theorem dX4_putBlock_24 : decode cX4_putBlock 24 = .ok (.getfield 36, 3) := by decide +kernel
theorem dX4_putBlock_27 : decode cX4_putBlock 27 = .ok (.aload_n 0, 1) := by decide +kernel
theorem dX4_putBlock_28 : decode cX4_putBlock 28 = .ok (.getfield 43, 3) := by decide +kernel
theorem dX4_putBlock_31 : decode cX4_putBlock 31 = .ok (.iload_n 3, 1) := by decide +kernel
theorem dX4_putBlock_32 : decode cX4_putBlock 32 = .ok (.iload_n 2, 1) := by decide +kernel
theorem dX4_putBlock_33 : decode cX4_putBlock 33 = .ok (.bipush 16, 2) := by decide +kernel
theorem dX4_putBlock_35 : decode cX4_putBlock 35 = .ok (.iload_n 1, 1) := by decide +kernel
theorem dX4_putBlock_36 : decode cX4_putBlock 36 = .ok (.iadd, 1) := by decide +kernel
theorem dX4_putBlock_37 : decode cX4_putBlock 37 = .ok (.invokevirtual 142, 3) := by decide +kernel
theorem dX4_putBlock_40 : decode cX4_putBlock 40 = .ok (.return_, 1) := by decide +kernel
theorem dX4_addVolume_0 : decode cX4_addVolume 0 = .ok (.aload_n 0, 1) := by decide +kernel
theorem dX4_addVolume_1 : decode cX4_addVolume 1 = .ok (.getfield 47, 3) := by decide +kernel
theorem dX4_addVolume_4 : decode cX4_addVolume 4 = .ok (.istore_n 3, 1) := by decide +kernel
theorem dX4_addVolume_5 : decode cX4_addVolume 5 = .ok (.aload_n 0, 1) := by decide +kernel
theorem dX4_addVolume_6 : decode cX4_addVolume 6 = .ok (.dup, 1) := by decide +kernel
theorem dX4_addVolume_7 : decode cX4_addVolume 7 = .ok (.getfield 47, 3) := by decide +kernel
theorem dX4_addVolume_10 : decode cX4_addVolume 10 = .ok (.iconst 1, 1) := by decide +kernel
theorem dX4_addVolume_11 : decode cX4_addVolume 11 = .ok (.iadd, 1) := by decide +kernel
theorem dX4_addVolume_12 : decode cX4_addVolume 12 = .ok (.putfield 47, 3) := by decide +kernel
theorem dX4_addVolume_15 : decode cX4_addVolume 15 = .ok (.aload_n 0, 1) := by decide +kernel
theorem dX4_addVolume_16 : decode cX4_addVolume 16 = .ok (.dup, 1) := by decide +kernel
theorem dX4_addVolume_17 : decode cX4_addVolume 17 = .ok (.getfield 53, 3) := by decide +kernel
theorem dX4_addVolume_20 : decode cX4_addVolume 20 = .ok (.bipush 16, 2) := by decide +kernel
theorem dX4_addVolume_22 : decode cX4_addVolume 22 = .ok (.iload_n 3, 1) := by decide +kernel
theorem dX4_addVolume_23 : decode cX4_addVolume 23 = .ok (.iadd, 1) := by decide +kernel
theorem dX4_addVolume_24 : decode cX4_addVolume 24 = .ok (.invokestatic 84, 3) := by decide +kernel
theorem dX4_addVolume_27 : decode cX4_addVolume 27 = .ok (.ior, 1) := by decide +kernel
theorem dX4_addVolume_28 : decode cX4_addVolume 28 = .ok (.putfield 53, 3) := by decide +kernel
theorem dX4_addVolume_31 : decode cX4_addVolume 31 = .ok (.aload_n 0, 1) := by decide +kernel
theorem dX4_addVolume_32 : decode cX4_addVolume 32 = .ok (.getfield 24, 3) := by decide +kernel
theorem dX4_addVolume_35 : decode cX4_addVolume 35 = .ok (.iload_n 3, 1) := by decide +kernel
theorem dX4_addVolume_36 : decode cX4_addVolume 36 = .ok (.iload_n 1, 1) := by decide +kernel
theorem dX4_addVolume_37 : decode cX4_addVolume 37 = .ok (.iastore, 1) := by decide +kernel
theorem dX4_addVolume_38 : decode cX4_addVolume 38 = .ok (.aload_n 0, 1) := by decide +kernel
theorem dX4_addVolume_39 : decode cX4_addVolume 39 = .ok (.getfield 27, 3) := by decide +kernel
theorem dX4_addVolume_42 : decode cX4_addVolume 42 = .ok (.iload_n 3, 1) := by decide +kernel
theorem dX4_addVolume_43 : decode cX4_addVolume 43 = .ok (.iload_n 2, 1) := by decide +kernel
theorem dX4_addVolume_44 : decode cX4_addVolume 44 = .ok (.iastore, 1) := by decide +kernel
theorem dX4_addVolume_45 : decode cX4_addVolume 45 = .ok (.aload_n 0, 1) := by decide +kernel
theorem dX4_addVolume_46 : decode cX4_addVolume 46 = .ok (.getfield 30, 3) := by decide +kernel
theorem dX4_addVolume_49 : decode cX4_addVolume 49 = .ok (.iload_n 3, 1) := by decide +kernel
theorem dX4_addVolume_50 : decode cX4_addVolume 50 = .ok (.iconst 0, 1) := by decide +kernel
theorem dX4_addVolume_51 : decode cX4_addVolume 51 = .ok (.iastore, 1) := by decide +kernel
theorem dX4_addVolume_52 : decode cX4_addVolume 52 = .ok (.iload_n 2, 1) := by decide +kernel
theorem dX4_addVolume_53 : decode cX4_addVolume 53 = .ok (.iconst (-1), 1) := by decide +kernel
theorem dX4_addVolume_54 : decode cX4_addVolume 54 = .ok (.if_icmp .eq 15, 3) := by decide +kernel
theorem dX4_addVolume_57 : decode cX4_addVolume 57 = .ok (.aload_n 0, 1) := by decide +kernel
theorem dX4_addVolume_58 : decode cX4_addVolume 58 = .ok (.getfield 36, 3) := by decide +kernel
theorem dX4_addVolume_61 : decode cX4_addVolume 61 = .ok (.iload_n 2, 1) := by decide +kernel
theorem dX4_addVolume_62 : decode cX4_addVolume 62 = .ok (.bipush 16, 2) := by decide +kernel
theorem dX4_addVolume_64 : decode cX4_addVolume 64 = .ok (.iload_n 3, 1) := by decide +kernel
theorem dX4_addVolume_65 : decode cX4_addVolume 65 = .ok (.iadd, 1) := by decide +kernel
theorem dX4_addVolume_66 : decode cX4_addVolume 66 = .ok (.invokevirtual 146, 3) := by decide +kernel
theorem dX4_addVolume_69 : decode cX4_addVolume 69 = .ok (.iload_n 3, 1) := by decide +kernel
theorem dX4_addVolume_70 : decode cX4_addVolume 70 = .ok (.ireturn, 1) := by decide +kernel
theorem dX4_addSnapshot_0 : decode cX4_addSnapshot 0 = .ok (.aload_n 0, 1) := by decide +kernel
theorem dX4_addSnapshot_1 : decode cX4_addSnapshot 1 = .ok (.getfield 50, 3) := by decide +kernel
theorem dX4_addSnapshot_4 : decode cX4_addSnapshot 4 = .ok (.istore_n 3, 1) := by decide +kernel
theorem dX4_addSnapshot_5 : decode cX4_addSnapshot 5 = .ok (.aload_n 0, 1) := by decide +kernel
theorem dX4_addSnapshot_6 : decode cX4_addSnapshot 6 = .ok (.dup, 1) := by decide +kernel
theorem dX4_addSnapshot_7 : decode cX4_addSnapshot 7 = .ok (.getfield 50, 3) := by decide +kernel
theorem dX4_addSnapshot_10 : decode cX4_addSnapshot 10 = .ok (.iconst 1, 1) := by decide +kernel
theorem dX4_addSnapshot_11 : decode cX4_addSnapshot 11 = .ok (.iadd, 1) := by decide +kernel
theorem dX4_addSnapshot_12 : decode cX4_addSnapshot 12 = .ok (.putfield 50, 3) := by decide +kernel
theorem dX4_addSnapshot_15 : decode cX4_addSnapshot 15 = .ok (.aload_n 0, 1) := by decide +kernel
theorem dX4_addSnapshot_16 : decode cX4_addSnapshot 16 = .ok (.dup, 1) := by decide +kernel
theorem dX4_addSnapshot_17 : decode cX4_addSnapshot 17 = .ok (.getfield 43, 3) := by decide +kernel
theorem dX4_addSnapshot_20 : decode cX4_addSnapshot 20 = .ok (.iconst 1, 1) := by decide +kernel
theorem dX4_addSnapshot_21 : decode cX4_addSnapshot 21 = .ok (.iadd, 1) := by decide +kernel
theorem dX4_addSnapshot_22 : decode cX4_addSnapshot 22 = .ok (.putfield 43, 3) := by decide +kernel
theorem dX4_addSnapshot_25 : decode cX4_addSnapshot 25 = .ok (.aload_n 0, 1) := by decide +kernel
theorem dX4_addSnapshot_26 : decode cX4_addSnapshot 26 = .ok (.dup, 1) := by decide +kernel
theorem dX4_addSnapshot_27 : decode cX4_addSnapshot 27 = .ok (.getfield 53, 3) := by decide +kernel
theorem dX4_addSnapshot_30 : decode cX4_addSnapshot 30 = .ok (.iload_n 3, 1) := by decide +kernel
theorem dX4_addSnapshot_31 : decode cX4_addSnapshot 31 = .ok (.invokestatic 84, 3) := by decide +kernel
theorem dX4_addSnapshot_34 : decode cX4_addSnapshot 34 = .ok (.ior, 1) := by decide +kernel
theorem dX4_addSnapshot_35 : decode cX4_addSnapshot 35 = .ok (.putfield 53, 3) := by decide +kernel
theorem dX4_addSnapshot_38 : decode cX4_addSnapshot 38 = .ok (.aload_n 0, 1) := by decide +kernel
theorem dX4_addSnapshot_39 : decode cX4_addSnapshot 39 = .ok (.getfield 21, 3) := by decide +kernel
theorem dX4_addSnapshot_42 : decode cX4_addSnapshot 42 = .ok (.iload_n 3, 1) := by decide +kernel
theorem dX4_addSnapshot_43 : decode cX4_addSnapshot 43 = .ok (.iload_n 1, 1) := by decide +kernel
theorem dX4_addSnapshot_44 : decode cX4_addSnapshot 44 = .ok (.iastore, 1) := by decide +kernel
theorem dX4_addSnapshot_45 : decode cX4_addSnapshot 45 = .ok (.aload_n 0, 1) := by decide +kernel
theorem dX4_addSnapshot_46 : decode cX4_addSnapshot 46 = .ok (.getfield 15, 3) := by decide +kernel
theorem dX4_addSnapshot_49 : decode cX4_addSnapshot 49 = .ok (.iload_n 3, 1) := by decide +kernel
theorem dX4_addSnapshot_50 : decode cX4_addSnapshot 50 = .ok (.iload_n 2, 1) := by decide +kernel
theorem dX4_addSnapshot_51 : decode cX4_addSnapshot 51 = .ok (.iastore, 1) := by decide +kernel
theorem dX4_addSnapshot_52 : decode cX4_addSnapshot 52 = .ok (.aload_n 0, 1) := by decide +kernel
theorem dX4_addSnapshot_53 : decode cX4_addSnapshot 53 = .ok (.getfield 18, 3) := by decide +kernel
theorem dX4_addSnapshot_56 : decode cX4_addSnapshot 56 = .ok (.iload_n 3, 1) := by decide +kernel
theorem dX4_addSnapshot_57 : decode cX4_addSnapshot 57 = .ok (.aload_n 0, 1) := by decide +kernel
theorem dX4_addSnapshot_58 : decode cX4_addSnapshot 58 = .ok (.getfield 43, 3) := by decide +kernel
theorem dX4_addSnapshot_61 : decode cX4_addSnapshot 61 = .ok (.iastore, 1) := by decide +kernel
theorem dX4_addSnapshot_62 : decode cX4_addSnapshot 62 = .ok (.aload_n 0, 1) := by decide +kernel
theorem dX4_addSnapshot_63 : decode cX4_addSnapshot 63 = .ok (.getfield 36, 3) := by decide +kernel
theorem dX4_addSnapshot_66 : decode cX4_addSnapshot 66 = .ok (.bipush 16, 2) := by decide +kernel
theorem dX4_addSnapshot_68 : decode cX4_addSnapshot 68 = .ok (.iload_n 2, 1) := by decide +kernel
theorem dX4_addSnapshot_69 : decode cX4_addSnapshot 69 = .ok (.iadd, 1) := by decide +kernel
theorem dX4_addSnapshot_70 : decode cX4_addSnapshot 70 = .ok (.iload_n 3, 1) := by decide +kernel
theorem dX4_addSnapshot_71 : decode cX4_addSnapshot 71 = .ok (.invokevirtual 146, 3) := by decide +kernel
theorem dX4_addSnapshot_74 : decode cX4_addSnapshot 74 = .ok (.iload_n 3, 1) := by decide +kernel
theorem dX4_addSnapshot_75 : decode cX4_addSnapshot 75 = .ok (.ireturn, 1) := by decide +kernel
theorem dX4_moveOriginInto_0 : decode cX4_moveOriginInto 0 = .ok (.aload_n 0, 1) := by decide +kernel
theorem dX4_moveOriginInto_1 : decode cX4_moveOriginInto 1 = .ok (.getfield 27, 3) := by decide +kernel
theorem dX4_moveOriginInto_4 : decode cX4_moveOriginInto 4 = .ok (.iload_n 1, 1) := by decide +kernel
theorem dX4_moveOriginInto_5 : decode cX4_moveOriginInto 5 = .ok (.iaload, 1) := by decide +kernel
theorem dX4_moveOriginInto_6 : decode cX4_moveOriginInto 6 = .ok (.istore_n 2, 1) := by decide +kernel
theorem dX4_moveOriginInto_7 : decode cX4_moveOriginInto 7 = .ok (.aload_n 0, 1) := by decide +kernel
theorem dX4_moveOriginInto_8 : decode cX4_moveOriginInto 8 = .ok (.getfield 15, 3) := by decide +kernel
theorem dX4_moveOriginInto_11 : decode cX4_moveOriginInto 11 = .ok (.iload_n 2, 1) := by decide +kernel
theorem dX4_moveOriginInto_12 : decode cX4_moveOriginInto 12 = .ok (.iaload, 1) := by decide +kernel
theorem dX4_moveOriginInto_13 : decode cX4_moveOriginInto 13 = .ok (.istore_n 3, 1) := by decide +kernel
theorem dX4_moveOriginInto_14 : decode cX4_moveOriginInto 14 = .ok (.aload_n 0, 1) := by decide +kernel
theorem dX4_moveOriginInto_15 : decode cX4_moveOriginInto 15 = .ok (.iload_n 2, 1) := by decide +kernel
theorem dX4_moveOriginInto_16 : decode cX4_moveOriginInto 16 = .ok (.invokevirtual 93, 3) := by decide +kernel
theorem dX4_moveOriginInto_19 : decode cX4_moveOriginInto 19 = .ok (.iload_n 2, 1) := by decide +kernel
theorem dX4_moveOriginInto_20 : decode cX4_moveOriginInto 20 = .ok (.invokestatic 84, 3) := by decide +kernel
theorem dX4_moveOriginInto_23 : decode cX4_moveOriginInto 23 = .ok (.ior, 1) := by decide +kernel
theorem dX4_moveOriginInto_24 : decode cX4_moveOriginInto 24 = .ok (.istore 4, 2) := by decide +kernel
theorem dX4_moveOriginInto_26 : decode cX4_moveOriginInto 26 = .ok (.iconst 0, 1) := by decide +kernel
theorem dX4_moveOriginInto_27 : decode cX4_moveOriginInto 27 = .ok (.istore 5, 2) := by decide +kernel
theorem dX4_moveOriginInto_29 : decode cX4_moveOriginInto 29 = .ok (.iload 5, 2) := by decide +kernel
theorem dX4_moveOriginInto_31 : decode cX4_moveOriginInto 31 = .ok (.bipush 16, 2) := by decide +kernel
theorem dX4_moveOriginInto_33 : decode cX4_moveOriginInto 33 = .ok (.if_icmp .ge 27, 3) := by decide +kernel
theorem dX4_moveOriginInto_36 : decode cX4_moveOriginInto 36 = .ok (.iload 4, 2) := by decide +kernel
theorem dX4_moveOriginInto_38 : decode cX4_moveOriginInto 38 = .ok (.iload 5, 2) := by decide +kernel
theorem dX4_moveOriginInto_40 : decode cX4_moveOriginInto 40 = .ok (.invokestatic 72, 3) := by decide +kernel
theorem dX4_moveOriginInto_43 : decode cX4_moveOriginInto 43 = .ok (.ifCond .eq 11, 3) := by decide +kernel
theorem dX4_moveOriginInto_46 : decode cX4_moveOriginInto 46 = .ok (.aload_n 0, 1) := by decide +kernel
theorem dX4_moveOriginInto_47 : decode cX4_moveOriginInto 47 = .ok (.getfield 15, 3) := by decide +kernel
theorem dX4_moveOriginInto_50 : decode cX4_moveOriginInto 50 = .ok (.iload 5, 2) := by decide +kernel
theorem dX4_moveOriginInto_52 : decode cX4_moveOriginInto 52 = .ok (.iload_n 1, 1) := by decide +kernel
theorem dX4_moveOriginInto_53 : decode cX4_moveOriginInto 53 = .ok (.iastore, 1) := by decide +kernel
theorem dX4_moveOriginInto_54 : decode cX4_moveOriginInto 54 = .ok (.iinc 5 1, 3) := by decide +kernel
theorem dX4_moveOriginInto_57 : decode cX4_moveOriginInto 57 = .ok (.goto (-28), 3) := by decide +kernel
theorem dX4_moveOriginInto_60 : decode cX4_moveOriginInto 60 = .ok (.aload_n 0, 1) := by decide +kernel
theorem dX4_moveOriginInto_61 : decode cX4_moveOriginInto 61 = .ok (.getfield 27, 3) := by decide +kernel
theorem dX4_moveOriginInto_64 : decode cX4_moveOriginInto 64 = .ok (.iload_n 1, 1) := by decide +kernel
theorem dX4_moveOriginInto_65 : decode cX4_moveOriginInto 65 = .ok (.aload_n 0, 1) := by decide +kernel
theorem dX4_moveOriginInto_66 : decode cX4_moveOriginInto 66 = .ok (.getfield 27, 3) := by decide +kernel
theorem dX4_moveOriginInto_69 : decode cX4_moveOriginInto 69 = .ok (.iload_n 3, 1) := by decide +kernel
theorem dX4_moveOriginInto_70 : decode cX4_moveOriginInto 70 = .ok (.iaload, 1) := by decide +kernel
theorem dX4_moveOriginInto_71 : decode cX4_moveOriginInto 71 = .ok (.iastore, 1) := by decide +kernel
theorem dX4_moveOriginInto_72 : decode cX4_moveOriginInto 72 = .ok (.aload_n 0, 1) := by decide +kernel
theorem dX4_moveOriginInto_73 : decode cX4_moveOriginInto 73 = .ok (.getfield 27, 3) := by decide +kernel
theorem dX4_moveOriginInto_76 : decode cX4_moveOriginInto 76 = .ok (.iload_n 3, 1) := by decide +kernel
theorem dX4_moveOriginInto_77 : decode cX4_moveOriginInto 77 = .ok (.iload_n 2, 1) := by decide +kernel
theorem dX4_moveOriginInto_78 : decode cX4_moveOriginInto 78 = .ok (.iastore, 1) := by decide +kernel
theorem dX4_moveOriginInto_79 : decode cX4_moveOriginInto 79 = .ok (.iload 4, 2) := by decide +kernel
theorem dX4_moveOriginInto_81 : decode cX4_moveOriginInto 81 = .ok (.invokestatic 96, 3) := by decide +kernel
theorem dX4_moveOriginInto_84 : decode cX4_moveOriginInto 84 = .ok (.ireturn, 1) := by decide +kernel
theorem dX4_remove_0 : decode cX4_remove 0 = .ok (.aload_n 0, 1) := by decide +kernel
theorem dX4_remove_1 : decode cX4_remove 1 = .ok (.dup, 1) := by decide +kernel
theorem dX4_remove_2 : decode cX4_remove 2 = .ok (.getfield 53, 3) := by decide +kernel
theorem dX4_remove_5 : decode cX4_remove 5 = .ok (.iload_n 1, 1) := by decide +kernel
theorem dX4_remove_6 : decode cX4_remove 6 = .ok (.iconst (-1), 1) := by decide +kernel
theorem dX4_remove_7 : decode cX4_remove 7 = .ok (.ixor, 1) := by decide +kernel
theorem dX4_remove_8 : decode cX4_remove 8 = .ok (.iand, 1) := by decide +kernel
theorem dX4_remove_9 : decode cX4_remove 9 = .ok (.putfield 53, 3) := by decide +kernel
theorem dX4_remove_12 : decode cX4_remove 12 = .ok (.aload_n 0, 1) := by decide +kernel
theorem dX4_remove_13 : decode cX4_remove 13 = .ok (.getfield 36, 3) := by decide +kernel
theorem dX4_remove_16 : decode cX4_remove 16 = .ok (.iload_n 1, 1) := by decide +kernel
theorem dX4_remove_17 : decode cX4_remove 17 = .ok (.invokevirtual 150, 3) := by decide +kernel
theorem dX4_remove_20 : decode cX4_remove 20 = .ok (.ireturn, 1) := by decide +kernel
theorem dX4_returnTo_0 : decode cX4_returnTo 0 = .ok (.bipush 16, 2) := by decide +kernel
theorem dX4_returnTo_2 : decode cX4_returnTo 2 = .ok (.aload_n 0, 1) := by decide +kernel
theorem dX4_returnTo_3 : decode cX4_returnTo 3 = .ok (.getfield 15, 3) := by decide +kernel
theorem dX4_returnTo_6 : decode cX4_returnTo 6 = .ok (.iload_n 1, 1) := by decide +kernel
theorem dX4_returnTo_7 : decode cX4_returnTo 7 = .ok (.iaload, 1) := by decide +kernel
theorem dX4_returnTo_8 : decode cX4_returnTo 8 = .ok (.iadd, 1) := by decide +kernel
theorem dX4_returnTo_9 : decode cX4_returnTo 9 = .ok (.istore_n 2, 1) := by decide +kernel
theorem dX4_returnTo_10 : decode cX4_returnTo 10 = .ok (.aload_n 0, 1) := by decide +kernel
theorem dX4_returnTo_11 : decode cX4_returnTo 11 = .ok (.iload_n 1, 1) := by decide +kernel
theorem dX4_returnTo_12 : decode cX4_returnTo 12 = .ok (.invokevirtual 104, 3) := by decide +kernel
theorem dX4_returnTo_15 : decode cX4_returnTo 15 = .ok (.istore_n 3, 1) := by decide +kernel
theorem dX4_returnTo_16 : decode cX4_returnTo 16 = .ok (.aload_n 0, 1) := by decide +kernel
theorem dX4_returnTo_17 : decode cX4_returnTo 17 = .ok (.dup, 1) := by decide +kernel
theorem dX4_returnTo_18 : decode cX4_returnTo 18 = .ok (.getfield 53, 3) := by decide +kernel
theorem dX4_returnTo_21 : decode cX4_returnTo 21 = .ok (.iload_n 3, 1) := by decide +kernel
theorem dX4_returnTo_22 : decode cX4_returnTo 22 = .ok (.iconst (-1), 1) := by decide +kernel
theorem dX4_returnTo_23 : decode cX4_returnTo 23 = .ok (.ixor, 1) := by decide +kernel
theorem dX4_returnTo_24 : decode cX4_returnTo 24 = .ok (.iand, 1) := by decide +kernel
theorem dX4_returnTo_25 : decode cX4_returnTo 25 = .ok (.putfield 53, 3) := by decide +kernel
theorem dX4_returnTo_28 : decode cX4_returnTo 28 = .ok (.aload_n 0, 1) := by decide +kernel
theorem dX4_returnTo_29 : decode cX4_returnTo 29 = .ok (.getfield 36, 3) := by decide +kernel
theorem dX4_returnTo_32 : decode cX4_returnTo 32 = .ok (.iload_n 3, 1) := by decide +kernel
theorem dX4_returnTo_33 : decode cX4_returnTo 33 = .ok (.iload_n 2, 1) := by decide +kernel
theorem dX4_returnTo_34 : decode cX4_returnTo 34 = .ok (.invokestatic 84, 3) := by decide +kernel
theorem dX4_returnTo_37 : decode cX4_returnTo 37 = .ok (.ior, 1) := by decide +kernel
theorem dX4_returnTo_38 : decode cX4_returnTo 38 = .ok (.invokevirtual 150, 3) := by decide +kernel
theorem dX4_returnTo_41 : decode cX4_returnTo 41 = .ok (.istore 4, 2) := by decide +kernel
theorem dX4_returnTo_43 : decode cX4_returnTo 43 = .ok (.aload_n 0, 1) := by decide +kernel
theorem dX4_returnTo_44 : decode cX4_returnTo 44 = .ok (.getfield 36, 3) := by decide +kernel
theorem dX4_returnTo_47 : decode cX4_returnTo 47 = .ok (.iload_n 1, 1) := by decide +kernel
theorem dX4_returnTo_48 : decode cX4_returnTo 48 = .ok (.iload_n 2, 1) := by decide +kernel
theorem dX4_returnTo_49 : decode cX4_returnTo 49 = .ok (.invokevirtual 146, 3) := by decide +kernel
theorem dX4_returnTo_52 : decode cX4_returnTo 52 = .ok (.iload 4, 2) := by decide +kernel
theorem dX4_returnTo_54 : decode cX4_returnTo 54 = .ok (.ireturn, 1) := by decide +kernel
theorem dX5_init_0 : decode cX5_init 0 = .ok (.aload_n 0, 1) := by decide +kernel
theorem dX5_init_1 : decode cX5_init 1 = .ok (.invokespecial 3, 3) := by decide +kernel
theorem dX5_init_4 : decode cX5_init 4 = .ok (.aload_n 0, 1) := by decide +kernel
theorem dX5_init_5 : decode cX5_init 5 = .ok (.new 9, 3) := by decide +kernel
theorem dX5_init_8 : decode cX5_init 8 = .ok (.dup, 1) := by decide +kernel
theorem dX5_init_9 : decode cX5_init 9 = .ok (.invokespecial 11, 3) := by decide +kernel
theorem dX5_init_12 : decode cX5_init 12 = .ok (.putfield 12, 3) := by decide +kernel
theorem dX5_init_15 : decode cX5_init 15 = .ok (.aload_n 0, 1) := by decide +kernel
theorem dX5_init_16 : decode cX5_init 16 = .ok (.new 16, 3) := by decide +kernel
theorem dX5_init_19 : decode cX5_init 19 = .ok (.dup, 1) := by decide +kernel
theorem dX5_init_20 : decode cX5_init 20 = .ok (.invokespecial 18, 3) := by decide +kernel
theorem dX5_init_23 : decode cX5_init 23 = .ok (.putfield 19, 3) := by decide +kernel
theorem dX5_init_26 : decode cX5_init 26 = .ok (.aload_n 0, 1) := by decide +kernel
theorem dX5_init_27 : decode cX5_init 27 = .ok (.new 23, 3) := by decide +kernel
theorem dX5_init_30 : decode cX5_init 30 = .ok (.dup, 1) := by decide +kernel
theorem dX5_init_31 : decode cX5_init 31 = .ok (.invokespecial 25, 3) := by decide +kernel
theorem dX5_init_34 : decode cX5_init 34 = .ok (.putfield 26, 3) := by decide +kernel
theorem dX5_init_37 : decode cX5_init 37 = .ok (.aload_n 0, 1) := by decide +kernel
theorem dX5_init_38 : decode cX5_init 38 = .ok (.new 30, 3) := by decide +kernel
theorem dX5_init_41 : decode cX5_init 41 = .ok (.dup, 1) := by decide +kernel
theorem dX5_init_42 : decode cX5_init 42 = .ok (.invokespecial 32, 3) := by decide +kernel
theorem dX5_init_45 : decode cX5_init 45 = .ok (.putfield 33, 3) := by decide +kernel
theorem dX5_init_48 : decode cX5_init 48 = .ok (.aload_n 0, 1) := by decide +kernel
theorem dX5_init_49 : decode cX5_init 49 = .ok (.new 37, 3) := by decide +kernel
theorem dX5_init_52 : decode cX5_init 52 = .ok (.dup, 1) := by decide +kernel
theorem dX5_init_53 : decode cX5_init 53 = .ok (.invokespecial 39, 3) := by decide +kernel
theorem dX5_init_56 : decode cX5_init 56 = .ok (.putfield 40, 3) := by decide +kernel
theorem dX5_init_59 : decode cX5_init 59 = .ok (.return_, 1) := by decide +kernel
theorem dX5_feed_0 : decode cX5_feed 0 = .ok (.aload_n 0, 1) := by decide +kernel
theorem dX5_feed_1 : decode cX5_feed 1 = .ok (.getfield 26, 3) := by decide +kernel
theorem dX5_feed_4 : decode cX5_feed 4 = .ok (.getfield 44, 3) := by decide +kernel
theorem dX5_feed_7 : decode cX5_feed 7 = .ok (.bipush 20, 2) := by decide +kernel
theorem dX5_feed_9 : decode cX5_feed 9 = .ok (.iadd, 1) := by decide +kernel
theorem dX5_feed_10 : decode cX5_feed 10 = .ok (.sipush 1000, 3) := by decide +kernel
theorem dX5_feed_13 : decode cX5_feed 13 = .ok (.if_icmp .le 6, 3) := by decide +kernel
theorem dX5_feed_16 : decode cX5_feed 16 = .ok (.bipush (-3), 2) := by decide +kernel
theorem dX5_feed_18 : decode cX5_feed 18 = .ok (.ireturn, 1) := by decide +kernel
theorem dX5_feed_19 : decode cX5_feed 19 = .ok (.aload_n 0, 1) := by decide +kernel
theorem dX5_feed_20 : decode cX5_feed 20 = .ok (.getfield 26, 3) := by decide +kernel
theorem dX5_feed_23 : decode cX5_feed 23 = .ok (.iload_n 1, 1) := by decide +kernel
theorem dX5_feed_24 : decode cX5_feed 24 = .ok (.invokevirtual 48, 3) := by decide +kernel
theorem dX5_feed_27 : decode cX5_feed 27 = .ok (.aload_n 0, 1) := by decide +kernel
theorem dX5_feed_28 : decode cX5_feed 28 = .ok (.getfield 26, 3) := by decide +kernel
theorem dX5_feed_31 : decode cX5_feed 31 = .ok (.iload_n 2, 1) := by decide +kernel
theorem dX5_feed_32 : decode cX5_feed 32 = .ok (.invokevirtual 48, 3) := by decide +kernel
theorem dX5_feed_35 : decode cX5_feed 35 = .ok (.aload_n 0, 1) := by decide +kernel
theorem dX5_feed_36 : decode cX5_feed 36 = .ok (.getfield 26, 3) := by decide +kernel
theorem dX5_feed_39 : decode cX5_feed 39 = .ok (.iload_n 3, 1) := by decide +kernel
theorem dX5_feed_40 : decode cX5_feed 40 = .ok (.invokevirtual 48, 3) := by decide +kernel
theorem dX5_feed_43 : decode cX5_feed 43 = .ok (.aload_n 0, 1) := by decide +kernel
theorem dX5_feed_44 : decode cX5_feed 44 = .ok (.getfield 26, 3) := by decide +kernel
theorem dX5_feed_47 : decode cX5_feed 47 = .ok (.iload 4, 2) := by decide +kernel
theorem dX5_feed_49 : decode cX5_feed 49 = .ok (.invokevirtual 48, 3) := by decide +kernel
theorem dX5_feed_52 : decode cX5_feed 52 = .ok (.aload_n 0, 1) := by decide +kernel
theorem dX5_feed_53 : decode cX5_feed 53 = .ok (.getfield 26, 3) := by decide +kernel
theorem dX5_feed_56 : decode cX5_feed 56 = .ok (.iload 5, 2) := by decide +kernel
theorem dX5_feed_58 : decode cX5_feed 58 = .ok (.invokevirtual 48, 3) := by decide +kernel
theorem dX5_feed_61 : decode cX5_feed 61 = .ok (.aload_n 0, 1) := by decide +kernel
theorem dX5_feed_62 : decode cX5_feed 62 = .ok (.getfield 26, 3) := by decide +kernel
theorem dX5_feed_65 : decode cX5_feed 65 = .ok (.getfield 44, 3) := by decide +kernel
theorem dX5_feed_68 : decode cX5_feed 68 = .ok (.ireturn, 1) := by decide +kernel
theorem dX5_load_0 : decode cX5_load 0 = .ok (.iload_n 1, 1) := by decide +kernel
theorem dX5_load_1 : decode cX5_load 1 = .ok (.ifCond .lt 14, 3) := by decide +kernel
theorem dX5_load_4 : decode cX5_load 4 = .ok (.iload_n 1, 1) := by decide +kernel
theorem dX5_load_5 : decode cX5_load 5 = .ok (.aload_n 0, 1) := by decide +kernel
theorem dX5_load_6 : decode cX5_load 6 = .ok (.getfield 26, 3) := by decide +kernel
theorem dX5_load_9 : decode cX5_load 9 = .ok (.getfield 44, 3) := by decide +kernel
theorem dX5_load_12 : decode cX5_load 12 = .ok (.if_icmp .le 6, 3) := by decide +kernel
theorem dX5_load_15 : decode cX5_load 15 = .ok (.bipush (-2), 2) := by decide +kernel
theorem dX5_load_17 : decode cX5_load 17 = .ok (.ireturn, 1) := by decide +kernel
theorem dX5_load_18 : decode cX5_load 18 = .ok (.aload_n 0, 1) := by decide +kernel
theorem dX5_load_19 : decode cX5_load 19 = .ok (.getfield 26, 3) := by decide +kernel
theorem dX5_load_22 : decode cX5_load 22 = .ok (.iload_n 1, 1) := by decide +kernel
theorem dX5_load_23 : decode cX5_load 23 = .ok (.invokevirtual 52, 3) := by decide +kernel
theorem dX5_load_26 : decode cX5_load 26 = .ok (.istore_n 2, 1) := by decide +kernel
theorem dX5_load_27 : decode cX5_load 27 = .ok (.aload_n 0, 1) := by decide +kernel
theorem dX5_load_28 : decode cX5_load 28 = .ok (.getfield 26, 3) := by decide +kernel
theorem dX5_load_31 : decode cX5_load 31 = .ok (.iconst 0, 1) := by decide +kernel
theorem dX5_load_32 : decode cX5_load 32 = .ok (.putfield 44, 3) := by decide +kernel
theorem dX5_load_35 : decode cX5_load 35 = .ok (.aload_n 0, 1) := by decide +kernel
theorem dX5_load_36 : decode cX5_load 36 = .ok (.getfield 26, 3) := by decide +kernel
theorem dX5_load_39 : decode cX5_load 39 = .ok (.getfield 56, 3) := by decide +kernel
theorem dX5_load_42 : decode cX5_load 42 = .ok (.iconst (-1), 1) := by decide +kernel
theorem dX5_load_43 : decode cX5_load 43 = .ok (.if_icmp .ne 24, 3) := by decide +kernel
theorem dX5_load_46 : decode cX5_load 46 = .ok (.aload_n 0, 1) := by decide +kernel
theorem dX5_load_47 : decode cX5_load 47 = .ok (.getfield 12, 3) := by decide +kernel
theorem dX5_load_50 : decode cX5_load 50 = .ok (.aload_n 0, 1) := by decide +kernel
theorem dX5_load_51 : decode cX5_load 51 = .ok (.getfield 26, 3) := by decide +kernel
theorem dX5_load_54 : decode cX5_load 54 = .ok (.getfield 59, 3) := by decide +kernel
theorem dX5_load_57 : decode cX5_load 57 = .ok (.invokevirtual 62, 3) := by decide +kernel
theorem dX5_load_60 : decode cX5_load 60 = .ok (.aload_n 0, 1) := by decide +kernel
theorem dX5_load_61 : decode cX5_load 61 = .ok (.getfield 19, 3) := by decide +kernel
theorem dX5_load_64 : decode cX5_load 64 = .ok (.invokevirtual 66, 3) := by decide +kernel
theorem dX5_load_67 : decode cX5_load 67 = .ok (.iload_n 2, 1) := by decide +kernel
theorem dX5_load_68 : decode cX5_load 68 = .ok (.ireturn, 1) := by decide +kernel
theorem dX5_errorPosition_0 : decode cX5_errorPosition 0 = .ok (.aload_n 0, 1) := by decide +kernel
theorem dX5_errorPosition_1 : decode cX5_errorPosition 1 = .ok (.getfield 26, 3) := by decide +kernel
theorem dX5_errorPosition_4 : decode cX5_errorPosition 4 = .ok (.getfield 56, 3) := by decide +kernel
theorem dX5_errorPosition_7 : decode cX5_errorPosition 7 = .ok (.ireturn, 1) := by decide +kernel
theorem dX5_writeOut_0 : decode cX5_writeOut 0 = .ok (.aload_n 0, 1) := by decide +kernel
theorem dX5_writeOut_1 : decode cX5_writeOut 1 = .ok (.iload_n 1, 1) := by decide +kernel
theorem dX5_writeOut_2 : decode cX5_writeOut 2 = .ok (.invokevirtual 69, 3) := by decide +kernel
theorem dX5_writeOut_5 : decode cX5_writeOut 5 = .ok (.aload_n 0, 1) := by decide +kernel
theorem dX5_writeOut_6 : decode cX5_writeOut 6 = .ok (.getfield 40, 3) := by decide +kernel
theorem dX5_writeOut_9 : decode cX5_writeOut 9 = .ok (.iconst 0, 1) := by decide +kernel
theorem dX5_writeOut_10 : decode cX5_writeOut 10 = .ok (.invokevirtual 72, 3) := by decide +kernel
theorem dX5_writeOut_13 : decode cX5_writeOut 13 = .ok (.aload_n 0, 1) := by decide +kernel
theorem dX5_writeOut_14 : decode cX5_writeOut 14 = .ok (.aload_n 0, 1) := by decide +kernel
theorem dX5_writeOut_15 : decode cX5_writeOut 15 = .ok (.getfield 12, 3) := by decide +kernel
theorem dX5_writeOut_18 : decode cX5_writeOut 18 = .ok (.getfield 75, 3) := by decide +kernel
theorem dX5_writeOut_21 : decode cX5_writeOut 21 = .ok (.iload_n 1, 1) := by decide +kernel
theorem dX5_writeOut_22 : decode cX5_writeOut 22 = .ok (.iaload, 1) := by decide +kernel
theorem dX5_writeOut_23 : decode cX5_writeOut 23 = .ok (.invokevirtual 79, 3) := by decide +kernel
theorem dX5_writeOut_26 : decode cX5_writeOut 26 = .ok (.aload_n 0, 1) := by decide +kernel
theorem dX5_writeOut_27 : decode cX5_writeOut 27 = .ok (.getfield 40, 3) := by decide +kernel
theorem dX5_writeOut_30 : decode cX5_writeOut 30 = .ok (.bipush 58, 2) := by decide +kernel
theorem dX5_writeOut_32 : decode cX5_writeOut 32 = .ok (.invokevirtual 82, 3) := by decide +kernel
theorem dX5_writeOut_35 : decode cX5_writeOut 35 = .ok (.pop, 1) := by decide +kernel
theorem dX5_writeOut_36 : decode cX5_writeOut 36 = .ok (.aload_n 0, 1) := by decide +kernel
theorem dX5_writeOut_37 : decode cX5_writeOut 37 = .ok (.getfield 12, 3) := by decide +kernel
theorem dX5_writeOut_40 : decode cX5_writeOut 40 = .ok (.iload_n 1, 1) := by decide +kernel
theorem dX5_writeOut_41 : decode cX5_writeOut 41 = .ok (.invokevirtual 85, 3) := by decide +kernel
theorem dX5_writeOut_44 : decode cX5_writeOut 44 = .ok (.istore_n 2, 1) := by decide +kernel
theorem dX5_writeOut_45 : decode cX5_writeOut 45 = .ok (.iconst 0, 1) := by decide +kernel
theorem dX5_writeOut_46 : decode cX5_writeOut 46 = .ok (.istore_n 3, 1) := by decide +kernel
theorem dX5_writeOut_47 : decode cX5_writeOut 47 = .ok (.iload_n 3, 1) := by decide +kernel
theorem dX5_writeOut_48 : decode cX5_writeOut 48 = .ok (.bipush 16, 2) := by decide +kernel
theorem dX5_writeOut_50 : decode cX5_writeOut 50 = .ok (.if_icmp .ge 40, 3) := by decide +kernel
theorem dX5_writeOut_53 : decode cX5_writeOut 53 = .ok (.iload_n 2, 1) := by decide +kernel
theorem dX5_writeOut_54 : decode cX5_writeOut 54 = .ok (.iload_n 3, 1) := by decide +kernel
theorem dX5_writeOut_55 : decode cX5_writeOut 55 = .ok (.invokestatic 88, 3) := by decide +kernel
theorem dX5_writeOut_58 : decode cX5_writeOut 58 = .ok (.ifCond .eq 26, 3) := by decide +kernel
theorem dX5_writeOut_61 : decode cX5_writeOut 61 = .ok (.aload_n 0, 1) := by decide +kernel
theorem dX5_writeOut_62 : decode cX5_writeOut 62 = .ok (.getfield 40, 3) := by decide +kernel
theorem dX5_writeOut_65 : decode cX5_writeOut 65 = .ok (.bipush 32, 2) := by decide +kernel
theorem dX5_writeOut_67 : decode cX5_writeOut 67 = .ok (.invokevirtual 82, 3) := by decide +kernel
theorem dX5_writeOut_70 : decode cX5_writeOut 70 = .ok (.pop, 1) := by decide +kernel
theorem dX5_writeOut_71 : decode cX5_writeOut 71 = .ok (.aload_n 0, 1) := by decide +kernel
theorem dX5_writeOut_72 : decode cX5_writeOut 72 = .ok (.aload_n 0, 1) := by decide +kernel
theorem dX5_writeOut_73 : decode cX5_writeOut 73 = .ok (.getfield 12, 3) := by decide +kernel
theorem dX5_writeOut_76 : decode cX5_writeOut 76 = .ok (.getfield 92, 3) := by decide +kernel
theorem dX5_writeOut_79 : decode cX5_writeOut 79 = .ok (.iload_n 3, 1) := by decide +kernel
theorem dX5_writeOut_80 : decode cX5_writeOut 80 = .ok (.iaload, 1) := by decide +kernel
theorem dX5_writeOut_81 : decode cX5_writeOut 81 = .ok (.invokevirtual 79, 3) := by decide +kernel
theorem dX5_writeOut_84 : decode cX5_writeOut 84 = .ok (.iinc 3 1, 3) := by decide +kernel
theorem dX5_writeOut_87 : decode cX5_writeOut 87 = .ok (.goto (-40), 3) := by decide +kernel
theorem dX5_writeOut_90 : decode cX5_writeOut 90 = .ok (.iconst 0, 1) := by decide +kernel
theorem dX5_writeOut_91 : decode cX5_writeOut 91 = .ok (.istore_n 3, 1) := by decide +kernel
theorem dX5_writeOut_92 : decode cX5_writeOut 92 = .ok (.iload_n 3, 1) := by decide +kernel
theorem dX5_writeOut_93 : decode cX5_writeOut 93 = .ok (.bipush 12, 2) := by decide +kernel
theorem dX5_writeOut_95 : decode cX5_writeOut 95 = .ok (.if_icmp .ge 38, 3) := by decide +kernel
theorem dX5_writeOut_98 : decode cX5_writeOut 98 = .ok (.aload_n 0, 1) := by decide +kernel
theorem dX5_writeOut_99 : decode cX5_writeOut 99 = .ok (.getfield 40, 3) := by decide +kernel
theorem dX5_writeOut_102 : decode cX5_writeOut 102 = .ok (.bipush 32, 2) := by decide +kernel
theorem dX5_writeOut_104 : decode cX5_writeOut 104 = .ok (.invokevirtual 82, 3) := by decide +kernel
theorem dX5_writeOut_107 : decode cX5_writeOut 107 = .ok (.pop, 1) := by decide +kernel
theorem dX5_writeOut_108 : decode cX5_writeOut 108 = .ok (.aload_n 0, 1) := by decide +kernel
theorem dX5_writeOut_109 : decode cX5_writeOut 109 = .ok (.aload_n 0, 1) := by decide +kernel
theorem dX5_writeOut_110 : decode cX5_writeOut 110 = .ok (.getfield 12, 3) := by decide +kernel
theorem dX5_writeOut_113 : decode cX5_writeOut 113 = .ok (.getfield 95, 3) := by decide +kernel
theorem dX5_writeOut_116 : decode cX5_writeOut 116 = .ok (.bipush 16, 2) := by decide +kernel
theorem dX5_writeOut_118 : decode cX5_writeOut 118 = .ok (.iload_n 1, 1) := by decide +kernel
theorem dX5_writeOut_119 : decode cX5_writeOut 119 = .ok (.iadd, 1) := by decide +kernel
theorem dX5_writeOut_120 : decode cX5_writeOut 120 = .ok (.iload_n 3, 1) := by decide +kernel
theorem dX5_writeOut_121 : decode cX5_writeOut 121 = .ok (.invokevirtual 99, 3) := by decide +kernel
theorem dX5_writeOut_124 : decode cX5_writeOut 124 = .ok (.invokevirtual 105, 3) := by decide +kernel
theorem dX5_writeOut_127 : decode cX5_writeOut 127 = .ok (.iinc 3 1, 3) := by decide +kernel
theorem dX5_writeOut_130 : decode cX5_writeOut 130 = .ok (.goto (-38), 3) := by decide +kernel
theorem dX5_writeOut_133 : decode cX5_writeOut 133 = .ok (.aload_n 0, 1) := by decide +kernel
theorem dX5_writeOut_134 : decode cX5_writeOut 134 = .ok (.getfield 40, 3) := by decide +kernel
theorem dX5_writeOut_137 : decode cX5_writeOut 137 = .ok (.invokevirtual 108, 3) := by decide +kernel
theorem dX5_writeOut_140 : decode cX5_writeOut 140 = .ok (.ireturn, 1) := by decide +kernel
theorem dX5_outputAt_0 : decode cX5_outputAt 0 = .ok (.iload_n 1, 1) := by decide +kernel
theorem dX5_outputAt_1 : decode cX5_outputAt 1 = .ok (.ifCond .lt 14, 3) := by decide +kernel
theorem dX5_outputAt_4 : decode cX5_outputAt 4 = .ok (.iload_n 1, 1) := by decide +kernel
theorem dX5_outputAt_5 : decode cX5_outputAt 5 = .ok (.aload_n 0, 1) := by decide +kernel
theorem dX5_outputAt_6 : decode cX5_outputAt 6 = .ok (.getfield 40, 3) := by decide +kernel
theorem dX5_outputAt_9 : decode cX5_outputAt 9 = .ok (.invokevirtual 108, 3) := by decide +kernel
theorem dX5_outputAt_12 : decode cX5_outputAt 12 = .ok (.if_icmp .lt 5, 3) := by decide +kernel
theorem dX5_outputAt_15 : decode cX5_outputAt 15 = .ok (.iconst (-1), 1) := by decide +kernel
theorem dX5_outputAt_16 : decode cX5_outputAt 16 = .ok (.ireturn, 1) := by decide +kernel
theorem dX5_outputAt_17 : decode cX5_outputAt 17 = .ok (.aload_n 0, 1) := by decide +kernel
theorem dX5_outputAt_18 : decode cX5_outputAt 18 = .ok (.getfield 40, 3) := by decide +kernel
theorem dX5_outputAt_21 : decode cX5_outputAt 21 = .ok (.iload_n 1, 1) := by decide +kernel
theorem dX5_outputAt_22 : decode cX5_outputAt 22 = .ok (.invokevirtual 112, 3) := by decide +kernel
theorem dX5_outputAt_25 : decode cX5_outputAt 25 = .ok (.ireturn, 1) := by decide +kernel
theorem dX5_count_0 : decode cX5_count 0 = .ok (.iload_n 1, 1) := by decide +kernel
theorem dX5_count_1 : decode cX5_count 1 = .ok (.tableswitch 104 0 5 #[39, 47, 55, 66, 74, 93], 39) := by decide +kernel
theorem dX5_count_40 : decode cX5_count 40 = .ok (.aload_n 0, 1) := by decide +kernel
theorem dX5_count_41 : decode cX5_count 41 = .ok (.getfield 12, 3) := by decide +kernel
theorem dX5_count_44 : decode cX5_count 44 = .ok (.getfield 116, 3) := by decide +kernel
theorem dX5_count_47 : decode cX5_count 47 = .ok (.ireturn, 1) := by decide +kernel
theorem dX5_count_48 : decode cX5_count 48 = .ok (.aload_n 0, 1) := by decide +kernel
theorem dX5_count_49 : decode cX5_count 49 = .ok (.getfield 12, 3) := by decide +kernel
theorem dX5_count_52 : decode cX5_count 52 = .ok (.getfield 119, 3) := by decide +kernel
theorem dX5_count_55 : decode cX5_count 55 = .ok (.ireturn, 1) := by decide +kernel
theorem dX5_count_56 : decode cX5_count 56 = .ok (.aload_n 0, 1) := by decide +kernel
theorem dX5_count_57 : decode cX5_count 57 = .ok (.getfield 12, 3) := by decide +kernel
theorem dX5_count_60 : decode cX5_count 60 = .ok (.getfield 95, 3) := by decide +kernel
theorem dX5_count_63 : decode cX5_count 63 = .ok (.getfield 122, 3) := by decide +kernel
theorem dX5_count_66 : decode cX5_count 66 = .ok (.ireturn, 1) := by decide +kernel
theorem dX5_count_67 : decode cX5_count 67 = .ok (.aload_n 0, 1) := by decide +kernel
theorem dX5_count_68 : decode cX5_count 68 = .ok (.getfield 12, 3) := by decide +kernel
theorem dX5_count_71 : decode cX5_count 71 = .ok (.getfield 124, 3) := by decide +kernel
theorem dX5_count_74 : decode cX5_count 74 = .ok (.ireturn, 1) := by decide +kernel
theorem dX5_count_75 : decode cX5_count 75 = .ok (.aload_n 0, 1) := by decide +kernel
theorem dX5_count_76 : decode cX5_count 76 = .ok (.getfield 12, 3) := by decide +kernel
theorem dX5_count_79 : decode cX5_count 79 = .ok (.getfield 127, 3) := by decide +kernel
theorem dX5_count_82 : decode cX5_count 82 = .ok (.bipush 16, 2) := by decide +kernel
theorem dX5_count_84 : decode cX5_count 84 = .ok (.invokestatic 130, 3) := by decide +kernel
theorem dX5_count_87 : decode cX5_count 87 = .ok (.iconst (-1), 1) := by decide +kernel
theorem dX5_count_88 : decode cX5_count 88 = .ok (.ixor, 1) := by decide +kernel
theorem dX5_count_89 : decode cX5_count 89 = .ok (.iand, 1) := by decide +kernel
theorem dX5_count_90 : decode cX5_count 90 = .ok (.invokestatic 133, 3) := by decide +kernel
theorem dX5_count_93 : decode cX5_count 93 = .ok (.ireturn, 1) := by decide +kernel
theorem dX5_count_94 : decode cX5_count 94 = .ok (.aload_n 0, 1) := by decide +kernel
theorem dX5_count_95 : decode cX5_count 95 = .ok (.getfield 12, 3) := by decide +kernel
theorem dX5_count_98 : decode cX5_count 98 = .ok (.invokevirtual 138, 3) := by decide +kernel
theorem dX5_count_101 : decode cX5_count 101 = .ok (.invokestatic 133, 3) := by decide +kernel
theorem dX5_count_104 : decode cX5_count 104 = .ok (.ireturn, 1) := by decide +kernel
theorem dX5_count_105 : decode cX5_count 105 = .ok (.bipush (-2), 2) := by decide +kernel
theorem dX5_count_107 : decode cX5_count 107 = .ok (.ireturn, 1) := by decide +kernel
theorem dX5_named_0 : decode cX5_named 0 = .ok (.iload_n 1, 1) := by decide +kernel
theorem dX5_named_1 : decode cX5_named 1 = .ok (.ifCond .eq 14, 3) := by decide +kernel
theorem dX5_named_4 : decode cX5_named 4 = .ok (.aload_n 0, 1) := by decide +kernel
theorem dX5_named_5 : decode cX5_named 5 = .ok (.getfield 12, 3) := by decide +kernel
theorem dX5_named_8 : decode cX5_named 8 = .ok (.iload_n 2, 1) := by decide +kernel
theorem dX5_named_9 : decode cX5_named 9 = .ok (.invokevirtual 141, 3) := by decide +kernel
theorem dX5_named_12 : decode cX5_named 12 = .ok (.goto 11, 3) := by decide +kernel
theorem dX5_named_15 : decode cX5_named 15 = .ok (.aload_n 0, 1) := by decide +kernel
theorem dX5_named_16 : decode cX5_named 16 = .ok (.getfield 12, 3) := by decide +kernel
theorem dX5_named_19 : decode cX5_named 19 = .ok (.iload_n 2, 1) := by decide +kernel
theorem dX5_named_20 : decode cX5_named 20 = .ok (.invokevirtual 144, 3) := by decide +kernel
theorem dX5_named_23 : decode cX5_named 23 = .ok (.ireturn, 1) := by decide +kernel
theorem dX5_undoCount_0 : decode cX5_undoCount 0 = .ok (.aload_n 0, 1) := by decide +kernel
theorem dX5_undoCount_1 : decode cX5_undoCount 1 = .ok (.getfield 19, 3) := by decide +kernel
theorem dX5_undoCount_4 : decode cX5_undoCount 4 = .ok (.getfield 147, 3) := by decide +kernel
theorem dX5_undoCount_7 : decode cX5_undoCount 7 = .ok (.ireturn, 1) := by decide +kernel
theorem dX5_getSetting_0 : decode cX5_getSetting 0 = .ok (.iload_n 1, 1) := by decide +kernel
theorem dX5_getSetting_1 : decode cX5_getSetting 1 = .ok (.ifCond .eq 11, 3) := by decide +kernel
theorem dX5_getSetting_4 : decode cX5_getSetting 4 = .ok (.iload_n 1, 1) := by decide +kernel
theorem dX5_getSetting_5 : decode cX5_getSetting 5 = .ok (.iconst 1, 1) := by decide +kernel
theorem dX5_getSetting_6 : decode cX5_getSetting 6 = .ok (.if_icmp .eq 6, 3) := by decide +kernel
theorem dX5_getSetting_9 : decode cX5_getSetting 9 = .ok (.bipush (-2), 2) := by decide +kernel
theorem dX5_getSetting_11 : decode cX5_getSetting 11 = .ok (.ireturn, 1) := by decide +kernel
theorem dX5_getSetting_12 : decode cX5_getSetting 12 = .ok (.aload_n 0, 1) := by decide +kernel
theorem dX5_getSetting_13 : decode cX5_getSetting 13 = .ok (.getfield 12, 3) := by decide +kernel
theorem dX5_getSetting_16 : decode cX5_getSetting 16 = .ok (.getfield 148, 3) := by decide +kernel
theorem dX5_getSetting_19 : decode cX5_getSetting 19 = .ok (.iload_n 1, 1) := by decide +kernel
theorem dX5_getSetting_20 : decode cX5_getSetting 20 = .ok (.iaload, 1) := by decide +kernel
theorem dX5_getSetting_21 : decode cX5_getSetting 21 = .ok (.ireturn, 1) := by decide +kernel
theorem dX5_isThere_0 : decode cX5_isThere 0 = .ok (.aload_n 0, 1) := by decide +kernel
theorem dX5_isThere_1 : decode cX5_isThere 1 = .ok (.getfield 12, 3) := by decide +kernel
theorem dX5_isThere_4 : decode cX5_isThere 4 = .ok (.iload_n 1, 1) := by decide +kernel
theorem dX5_isThere_5 : decode cX5_isThere 5 = .ok (.invokevirtual 151, 3) := by decide +kernel
theorem dX5_isThere_8 : decode cX5_isThere 8 = .ok (.ireturn, 1) := by decide +kernel
theorem dX5_volumeNumber_0 : decode cX5_volumeNumber 0 = .ok (.aload_n 0, 1) := by decide +kernel
theorem dX5_volumeNumber_1 : decode cX5_volumeNumber 1 = .ok (.iload_n 1, 1) := by decide +kernel
theorem dX5_volumeNumber_2 : decode cX5_volumeNumber 2 = .ok (.invokevirtual 69, 3) := by decide +kernel
theorem dX5_volumeNumber_5 : decode cX5_volumeNumber 5 = .ok (.iload_n 2, 1) := by decide +kernel
theorem dX5_volumeNumber_6 : decode cX5_volumeNumber 6 = .ok (.tableswitch 58 0 2 #[26, 36, 48], 26) := by decide +kernel
theorem dX5_volumeNumber_32 : decode cX5_volumeNumber 32 = .ok (.aload_n 0, 1) := by decide +kernel
theorem dX5_volumeNumber_33 : decode cX5_volumeNumber 33 = .ok (.getfield 12, 3) := by decide +kernel
theorem dX5_volumeNumber_36 : decode cX5_volumeNumber 36 = .ok (.getfield 155, 3) := by decide +kernel
theorem dX5_volumeNumber_39 : decode cX5_volumeNumber 39 = .ok (.iload_n 1, 1) := by decide +kernel
theorem dX5_volumeNumber_40 : decode cX5_volumeNumber 40 = .ok (.iaload, 1) := by decide +kernel
theorem dX5_volumeNumber_41 : decode cX5_volumeNumber 41 = .ok (.ireturn, 1) := by decide +kernel
theorem dX5_volumeNumber_42 : decode cX5_volumeNumber 42 = .ok (.aload_n 0, 1) := by decide +kernel
theorem dX5_volumeNumber_43 : decode cX5_volumeNumber 43 = .ok (.getfield 12, 3) := by decide +kernel
theorem dX5_volumeNumber_46 : decode cX5_volumeNumber 46 = .ok (.iload_n 1, 1) := by decide +kernel
theorem dX5_volumeNumber_47 : decode cX5_volumeNumber 47 = .ok (.invokevirtual 85, 3) := by decide +kernel
theorem dX5_volumeNumber_50 : decode cX5_volumeNumber 50 = .ok (.invokestatic 133, 3) := by decide +kernel
theorem dX5_volumeNumber_53 : decode cX5_volumeNumber 53 = .ok (.ireturn, 1) := by decide +kernel
theorem dX5_volumeNumber_54 : decode cX5_volumeNumber 54 = .ok (.aload_n 0, 1) := by decide +kernel
theorem dX5_volumeNumber_55 : decode cX5_volumeNumber 55 = .ok (.getfield 12, 3) := by decide +kernel
theorem dX5_volumeNumber_58 : decode cX5_volumeNumber 58 = .ok (.getfield 158, 3) := by decide +kernel
theorem dX5_volumeNumber_61 : decode cX5_volumeNumber 61 = .ok (.iload_n 1, 1) := by decide +kernel
theorem dX5_volumeNumber_62 : decode cX5_volumeNumber 62 = .ok (.iaload, 1) := by decide +kernel
theorem dX5_volumeNumber_63 : decode cX5_volumeNumber 63 = .ok (.ireturn, 1) := by decide +kernel
theorem dX5_volumeNumber_64 : decode cX5_volumeNumber 64 = .ok (.bipush (-2), 2) := by decide +kernel
theorem dX5_volumeNumber_66 : decode cX5_volumeNumber 66 = .ok (.ireturn, 1) := by decide +kernel
theorem dX5_snapshotNumber_0 : decode cX5_snapshotNumber 0 = .ok (.aload_n 0, 1) := by decide +kernel
theorem dX5_snapshotNumber_1 : decode cX5_snapshotNumber 1 = .ok (.iload_n 1, 1) := by decide +kernel
theorem dX5_snapshotNumber_2 : decode cX5_snapshotNumber 2 = .ok (.invokevirtual 161, 3) := by decide +kernel
theorem dX5_snapshotNumber_5 : decode cX5_snapshotNumber 5 = .ok (.iload_n 2, 1) := by decide +kernel
theorem dX5_snapshotNumber_6 : decode cX5_snapshotNumber 6 = .ok (.tableswitch 95 0 4 #[34, 44, 54, 74, 86], 34) := by decide +kernel
theorem dX5_snapshotNumber_40 : decode cX5_snapshotNumber 40 = .ok (.aload_n 0, 1) := by decide +kernel
theorem dX5_snapshotNumber_41 : decode cX5_snapshotNumber 41 = .ok (.getfield 12, 3) := by decide +kernel
theorem dX5_snapshotNumber_44 : decode cX5_snapshotNumber 44 = .ok (.getfield 164, 3) := by decide +kernel
theorem dX5_snapshotNumber_47 : decode cX5_snapshotNumber 47 = .ok (.iload_n 1, 1) := by decide +kernel
theorem dX5_snapshotNumber_48 : decode cX5_snapshotNumber 48 = .ok (.iaload, 1) := by decide +kernel
theorem dX5_snapshotNumber_49 : decode cX5_snapshotNumber 49 = .ok (.ireturn, 1) := by decide +kernel
theorem dX5_snapshotNumber_50 : decode cX5_snapshotNumber 50 = .ok (.aload_n 0, 1) := by decide +kernel
theorem dX5_snapshotNumber_51 : decode cX5_snapshotNumber 51 = .ok (.getfield 12, 3) := by decide +kernel
theorem dX5_snapshotNumber_54 : decode cX5_snapshotNumber 54 = .ok (.getfield 167, 3) := by decide +kernel
theorem dX5_snapshotNumber_57 : decode cX5_snapshotNumber 57 = .ok (.iload_n 1, 1) := by decide +kernel
theorem dX5_snapshotNumber_58 : decode cX5_snapshotNumber 58 = .ok (.iaload, 1) := by decide +kernel
theorem dX5_snapshotNumber_59 : decode cX5_snapshotNumber 59 = .ok (.ireturn, 1) := by decide +kernel
theorem dX5_snapshotNumber_60 : decode cX5_snapshotNumber 60 = .ok (.aload_n 0, 1) := by decide +kernel
theorem dX5_snapshotNumber_61 : decode cX5_snapshotNumber 61 = .ok (.getfield 12, 3) := by decide +kernel
theorem dX5_snapshotNumber_64 : decode cX5_snapshotNumber 64 = .ok (.getfield 170, 3) := by decide +kernel
theorem dX5_snapshotNumber_67 : decode cX5_snapshotNumber 67 = .ok (.iload_n 1, 1) := by decide +kernel
theorem dX5_snapshotNumber_68 : decode cX5_snapshotNumber 68 = .ok (.invokestatic 88, 3) := by decide +kernel
theorem dX5_snapshotNumber_71 : decode cX5_snapshotNumber 71 = .ok (.ifCond .eq 7, 3) := by decide +kernel
theorem dX5_snapshotNumber_74 : decode cX5_snapshotNumber 74 = .ok (.iconst 1, 1) := by decide +kernel
theorem dX5_snapshotNumber_75 : decode cX5_snapshotNumber 75 = .ok (.goto 4, 3) := by decide +kernel
theorem dX5_snapshotNumber_78 : decode cX5_snapshotNumber 78 = .ok (.iconst 0, 1) := by decide +kernel
theorem dX5_snapshotNumber_79 : decode cX5_snapshotNumber 79 = .ok (.ireturn, 1) := by decide +kernel
theorem dX5_snapshotNumber_80 : decode cX5_snapshotNumber 80 = .ok (.aload_n 0, 1) := by decide +kernel
theorem dX5_snapshotNumber_81 : decode cX5_snapshotNumber 81 = .ok (.getfield 12, 3) := by decide +kernel
theorem dX5_snapshotNumber_84 : decode cX5_snapshotNumber 84 = .ok (.iload_n 1, 1) := by decide +kernel
theorem dX5_snapshotNumber_85 : decode cX5_snapshotNumber 85 = .ok (.invokevirtual 173, 3) := by decide +kernel
theorem dX5_snapshotNumber_88 : decode cX5_snapshotNumber 88 = .ok (.invokestatic 133, 3) := by decide +kernel
theorem dX5_snapshotNumber_91 : decode cX5_snapshotNumber 91 = .ok (.ireturn, 1) := by decide +kernel
theorem dX5_snapshotNumber_92 : decode cX5_snapshotNumber 92 = .ok (.aload_n 0, 1) := by decide +kernel
theorem dX5_snapshotNumber_93 : decode cX5_snapshotNumber 93 = .ok (.getfield 12, 3) := by decide +kernel
theorem dX5_snapshotNumber_96 : decode cX5_snapshotNumber 96 = .ok (.iload_n 1, 1) := by decide +kernel
theorem dX5_snapshotNumber_97 : decode cX5_snapshotNumber 97 = .ok (.invokevirtual 176, 3) := by decide +kernel
theorem dX5_snapshotNumber_100 : decode cX5_snapshotNumber 100 = .ok (.ireturn, 1) := by decide +kernel
theorem dX5_snapshotNumber_101 : decode cX5_snapshotNumber 101 = .ok (.bipush (-2), 2) := by decide +kernel
theorem dX5_snapshotNumber_103 : decode cX5_snapshotNumber 103 = .ok (.ireturn, 1) := by decide +kernel
theorem dX5_snapshotAt_0 : decode cX5_snapshotAt 0 = .ok (.aload_n 0, 1) := by decide +kernel
theorem dX5_snapshotAt_1 : decode cX5_snapshotAt 1 = .ok (.iload_n 1, 1) := by decide +kernel
theorem dX5_snapshotAt_2 : decode cX5_snapshotAt 2 = .ok (.invokevirtual 69, 3) := by decide +kernel
theorem dX5_snapshotAt_5 : decode cX5_snapshotAt 5 = .ok (.aload_n 0, 1) := by decide +kernel
theorem dX5_snapshotAt_6 : decode cX5_snapshotAt 6 = .ok (.getfield 12, 3) := by decide +kernel
theorem dX5_snapshotAt_9 : decode cX5_snapshotAt 9 = .ok (.iload_n 1, 1) := by decide +kernel
theorem dX5_snapshotAt_10 : decode cX5_snapshotAt 10 = .ok (.invokevirtual 85, 3) := by decide +kernel
theorem dX5_snapshotAt_13 : decode cX5_snapshotAt 13 = .ok (.istore_n 3, 1) := by decide +kernel
theorem dX5_snapshotAt_14 : decode cX5_snapshotAt 14 = .ok (.iconst 0, 1) := by decide +kernel
theorem dX5_snapshotAt_15 : decode cX5_snapshotAt 15 = .ok (.istore 4, 2) := by decide +kernel
theorem dX5_snapshotAt_17 : decode cX5_snapshotAt 17 = .ok (.iload 4, 2) := by decide +kernel
theorem dX5_snapshotAt_19 : decode cX5_snapshotAt 19 = .ok (.bipush 16, 2) := by decide +kernel
theorem dX5_snapshotAt_21 : decode cX5_snapshotAt 21 = .ok (.if_icmp .ge 34, 3) := by decide +kernel
theorem dX5_snapshotAt_24 : decode cX5_snapshotAt 24 = .ok (.iload_n 3, 1) := by decide +kernel
theorem dX5_snapshotAt_25 : decode cX5_snapshotAt 25 = .ok (.iload 4, 2) := by decide +kernel
theorem dX5_snapshotAt_27 : decode cX5_snapshotAt 27 = .ok (.invokestatic 88, 3) := by decide +kernel
theorem dX5_snapshotAt_30 : decode cX5_snapshotAt 30 = .ok (.ifCond .eq 19, 3) := by decide +kernel
theorem dX5_snapshotAt_33 : decode cX5_snapshotAt 33 = .ok (.aload_n 0, 1) := by decide +kernel
theorem dX5_snapshotAt_34 : decode cX5_snapshotAt 34 = .ok (.getfield 12, 3) := by decide +kernel
theorem dX5_snapshotAt_37 : decode cX5_snapshotAt 37 = .ok (.iload 4, 2) := by decide +kernel
theorem dX5_snapshotAt_39 : decode cX5_snapshotAt 39 = .ok (.invokevirtual 176, 3) := by decide +kernel
theorem dX5_snapshotAt_42 : decode cX5_snapshotAt 42 = .ok (.iload_n 2, 1) := by decide +kernel
theorem dX5_snapshotAt_43 : decode cX5_snapshotAt 43 = .ok (.if_icmp .ne 6, 3) := by decide +kernel
theorem dX5_snapshotAt_46 : decode cX5_snapshotAt 46 = .ok (.iload 4, 2) := by decide +kernel
theorem dX5_snapshotAt_48 : decode cX5_snapshotAt 48 = .ok (.ireturn, 1) := by decide +kernel
theorem dX5_snapshotAt_49 : decode cX5_snapshotAt 49 = .ok (.iinc 4 1, 3) := by decide +kernel
theorem dX5_snapshotAt_52 : decode cX5_snapshotAt 52 = .ok (.goto (-35), 3) := by decide +kernel
theorem dX5_snapshotAt_55 : decode cX5_snapshotAt 55 = .ok (.iconst (-1), 1) := by decide +kernel
theorem dX5_snapshotAt_56 : decode cX5_snapshotAt 56 = .ok (.ireturn, 1) := by decide +kernel
theorem dX5_clonesOf_0 : decode cX5_clonesOf 0 = .ok (.aload_n 0, 1) := by decide +kernel
theorem dX5_clonesOf_1 : decode cX5_clonesOf 1 = .ok (.iload_n 1, 1) := by decide +kernel
theorem dX5_clonesOf_2 : decode cX5_clonesOf 2 = .ok (.invokevirtual 161, 3) := by decide +kernel
theorem dX5_clonesOf_5 : decode cX5_clonesOf 5 = .ok (.aload_n 0, 1) := by decide +kernel
theorem dX5_clonesOf_6 : decode cX5_clonesOf 6 = .ok (.getfield 12, 3) := by decide +kernel
theorem dX5_clonesOf_9 : decode cX5_clonesOf 9 = .ok (.iload_n 1, 1) := by decide +kernel
theorem dX5_clonesOf_10 : decode cX5_clonesOf 10 = .ok (.invokevirtual 173, 3) := by decide +kernel
theorem dX5_clonesOf_13 : decode cX5_clonesOf 13 = .ok (.ireturn, 1) := by decide +kernel
theorem dX5_before_0 : decode cX5_before 0 = .ok (.aload_n 0, 1) := by decide +kernel
theorem dX5_before_1 : decode cX5_before 1 = .ok (.iload_n 1, 1) := by decide +kernel
theorem dX5_before_2 : decode cX5_before 2 = .ok (.invokevirtual 179, 3) := by decide +kernel
theorem dX5_before_5 : decode cX5_before 5 = .ok (.aload_n 0, 1) := by decide +kernel
theorem dX5_before_6 : decode cX5_before 6 = .ok (.getfield 12, 3) := by decide +kernel
theorem dX5_before_9 : decode cX5_before 9 = .ok (.iload_n 1, 1) := by decide +kernel
theorem dX5_before_10 : decode cX5_before 10 = .ok (.invokevirtual 182, 3) := by decide +kernel
theorem dX5_before_13 : decode cX5_before 13 = .ok (.ireturn, 1) := by decide +kernel
theorem dX5_behind_0 : decode cX5_behind 0 = .ok (.aload_n 0, 1) := by decide +kernel
theorem dX5_behind_1 : decode cX5_behind 1 = .ok (.iload_n 1, 1) := by decide +kernel
theorem dX5_behind_2 : decode cX5_behind 2 = .ok (.invokevirtual 161, 3) := by decide +kernel
theorem dX5_behind_5 : decode cX5_behind 5 = .ok (.aload_n 0, 1) := by decide +kernel
theorem dX5_behind_6 : decode cX5_behind 6 = .ok (.getfield 12, 3) := by decide +kernel
theorem dX5_behind_9 : decode cX5_behind 9 = .ok (.iload_n 1, 1) := by decide +kernel
theorem dX5_behind_10 : decode cX5_behind 10 = .ok (.invokevirtual 185, 3) := by decide +kernel
theorem dX5_behind_13 : decode cX5_behind 13 = .ok (.ireturn, 1) := by decide +kernel
theorem dX5_depthOf_0 : decode cX5_depthOf 0 = .ok (.aload_n 0, 1) := by decide +kernel
theorem dX5_depthOf_1 : decode cX5_depthOf 1 = .ok (.iload_n 1, 1) := by decide +kernel
theorem dX5_depthOf_2 : decode cX5_depthOf 2 = .ok (.invokevirtual 179, 3) := by decide +kernel
theorem dX5_depthOf_5 : decode cX5_depthOf 5 = .ok (.aload_n 0, 1) := by decide +kernel
theorem dX5_depthOf_6 : decode cX5_depthOf 6 = .ok (.getfield 12, 3) := by decide +kernel
theorem dX5_depthOf_9 : decode cX5_depthOf 9 = .ok (.iload_n 1, 1) := by decide +kernel
theorem dX5_depthOf_10 : decode cX5_depthOf 10 = .ok (.invokevirtual 188, 3) := by decide +kernel
theorem dX5_depthOf_13 : decode cX5_depthOf 13 = .ok (.invokestatic 133, 3) := by decide +kernel
theorem dX5_depthOf_16 : decode cX5_depthOf 16 = .ok (.iconst 1, 1) := by decide +kernel
theorem dX5_depthOf_17 : decode cX5_depthOf 17 = .ok (.isub, 1) := by decide +kernel
theorem dX5_depthOf_18 : decode cX5_depthOf 18 = .ok (.ireturn, 1) := by decide +kernel
theorem dX5_common_0 : decode cX5_common 0 = .ok (.aload_n 0, 1) := by decide +kernel
theorem dX5_common_1 : decode cX5_common 1 = .ok (.iload_n 1, 1) := by decide +kernel
theorem dX5_common_2 : decode cX5_common 2 = .ok (.invokevirtual 179, 3) := by decide +kernel
theorem dX5_common_5 : decode cX5_common 5 = .ok (.aload_n 0, 1) := by decide +kernel
theorem dX5_common_6 : decode cX5_common 6 = .ok (.iload_n 2, 1) := by decide +kernel
theorem dX5_common_7 : decode cX5_common 7 = .ok (.invokevirtual 179, 3) := by decide +kernel
theorem dX5_common_10 : decode cX5_common 10 = .ok (.aload_n 0, 1) := by decide +kernel
theorem dX5_common_11 : decode cX5_common 11 = .ok (.getfield 12, 3) := by decide +kernel
theorem dX5_common_14 : decode cX5_common 14 = .ok (.iload_n 1, 1) := by decide +kernel
theorem dX5_common_15 : decode cX5_common 15 = .ok (.invokevirtual 188, 3) := by decide +kernel
theorem dX5_common_18 : decode cX5_common 18 = .ok (.aload_n 0, 1) := by decide +kernel
theorem dX5_common_19 : decode cX5_common 19 = .ok (.getfield 12, 3) := by decide +kernel
theorem dX5_common_22 : decode cX5_common 22 = .ok (.iload_n 2, 1) := by decide +kernel
theorem dX5_common_23 : decode cX5_common 23 = .ok (.invokevirtual 188, 3) := by decide +kernel
theorem dX5_common_26 : decode cX5_common 26 = .ok (.iand, 1) := by decide +kernel
theorem dX5_common_27 : decode cX5_common 27 = .ok (.invokestatic 191, 3) := by decide +kernel
theorem dX5_common_30 : decode cX5_common 30 = .ok (.ireturn, 1) := by decide +kernel
theorem dX5_blockAt_0 : decode cX5_blockAt 0 = .ok (.aload_n 0, 1) := by decide +kernel
theorem dX5_blockAt_1 : decode cX5_blockAt 1 = .ok (.iload_n 1, 1) := by decide +kernel
theorem dX5_blockAt_2 : decode cX5_blockAt 2 = .ok (.invokevirtual 179, 3) := by decide +kernel
theorem dX5_blockAt_5 : decode cX5_blockAt 5 = .ok (.aload_n 0, 1) := by decide +kernel
theorem dX5_blockAt_6 : decode cX5_blockAt 6 = .ok (.iload_n 2, 1) := by decide +kernel
theorem dX5_blockAt_7 : decode cX5_blockAt 7 = .ok (.invokevirtual 194, 3) := by decide +kernel
theorem dX5_blockAt_10 : decode cX5_blockAt 10 = .ok (.aload_n 0, 1) := by decide +kernel
theorem dX5_blockAt_11 : decode cX5_blockAt 11 = .ok (.getfield 12, 3) := by decide +kernel
theorem dX5_blockAt_14 : decode cX5_blockAt 14 = .ok (.getfield 95, 3) := by decide +kernel
theorem dX5_blockAt_17 : decode cX5_blockAt 17 = .ok (.iload_n 1, 1) := by decide +kernel
theorem dX5_blockAt_18 : decode cX5_blockAt 18 = .ok (.iload_n 2, 1) := by decide +kernel
theorem dX5_blockAt_19 : decode cX5_blockAt 19 = .ok (.invokevirtual 99, 3) := by decide +kernel
theorem dX5_blockAt_22 : decode cX5_blockAt 22 = .ok (.istore_n 3, 1) := by decide +kernel
theorem dX5_blockAt_23 : decode cX5_blockAt 23 = .ok (.iload_n 3, 1) := by decide +kernel
theorem dX5_blockAt_24 : decode cX5_blockAt 24 = .ok (.iconst (-1), 1) := by decide +kernel
theorem dX5_blockAt_25 : decode cX5_blockAt 25 = .ok (.if_icmp .ne 7, 3) := by decide +kernel
theorem dX5_blockAt_28 : decode cX5_blockAt 28 = .ok (.iconst (-1), 1) := by decide +kernel
theorem dX5_blockAt_29 : decode cX5_blockAt 29 = .ok (.goto 15, 3) := by decide +kernel
theorem dX5_blockAt_32 : decode cX5_blockAt 32 = .ok (.aload_n 0, 1) := by decide +kernel
theorem dX5_blockAt_33 : decode cX5_blockAt 33 = .ok (.getfield 12, 3) := by decide +kernel
theorem dX5_blockAt_36 : decode cX5_blockAt 36 = .ok (.getfield 95, 3) := by decide +kernel
theorem dX5_blockAt_39 : decode cX5_blockAt 39 = .ok (.getfield 197, 3) := by decide +kernel
theorem dX5_blockAt_42 : decode cX5_blockAt 42 = .ok (.iload_n 3, 1) := by decide +kernel
theorem dX5_blockAt_43 : decode cX5_blockAt 43 = .ok (.iaload, 1) := by decide +kernel
theorem dX5_blockAt_44 : decode cX5_blockAt 44 = .ok (.ireturn, 1) := by decide +kernel
theorem dX5_birthIn_0 : decode cX5_birthIn 0 = .ok (.aload_n 0, 1) := by decide +kernel
theorem dX5_birthIn_1 : decode cX5_birthIn 1 = .ok (.iload_n 1, 1) := by decide +kernel
theorem dX5_birthIn_2 : decode cX5_birthIn 2 = .ok (.invokevirtual 179, 3) := by decide +kernel
theorem dX5_birthIn_5 : decode cX5_birthIn 5 = .ok (.aload_n 0, 1) := by decide +kernel
theorem dX5_birthIn_6 : decode cX5_birthIn 6 = .ok (.getfield 12, 3) := by decide +kernel
theorem dX5_birthIn_9 : decode cX5_birthIn 9 = .ok (.getfield 95, 3) := by decide +kernel
theorem dX5_birthIn_12 : decode cX5_birthIn 12 = .ok (.iload_n 1, 1) := by decide +kernel
theorem dX5_birthIn_13 : decode cX5_birthIn 13 = .ok (.invokestatic 200, 3) := by decide +kernel
theorem dX5_birthIn_16 : decode cX5_birthIn 16 = .ok (.iconst 0, 1) := by decide +kernel
theorem dX5_birthIn_17 : decode cX5_birthIn 17 = .ok (.invokevirtual 203, 3) := by decide +kernel
theorem dX5_birthIn_20 : decode cX5_birthIn 20 = .ok (.iconst 1, 1) := by decide +kernel
theorem dX5_birthIn_21 : decode cX5_birthIn 21 = .ok (.isub, 1) := by decide +kernel
theorem dX5_birthIn_22 : decode cX5_birthIn 22 = .ok (.istore_n 3, 1) := by decide +kernel
theorem dX5_birthIn_23 : decode cX5_birthIn 23 = .ok (.aload_n 0, 1) := by decide +kernel
theorem dX5_birthIn_24 : decode cX5_birthIn 24 = .ok (.getfield 12, 3) := by decide +kernel
theorem dX5_birthIn_27 : decode cX5_birthIn 27 = .ok (.getfield 95, 3) := by decide +kernel
theorem dX5_birthIn_30 : decode cX5_birthIn 30 = .ok (.iload_n 1, 1) := by decide +kernel
theorem dX5_birthIn_31 : decode cX5_birthIn 31 = .ok (.invokestatic 200, 3) := by decide +kernel
theorem dX5_birthIn_34 : decode cX5_birthIn 34 = .ok (.iconst 0, 1) := by decide +kernel
theorem dX5_birthIn_35 : decode cX5_birthIn 35 = .ok (.iload_n 2, 1) := by decide +kernel
theorem dX5_birthIn_36 : decode cX5_birthIn 36 = .ok (.ifCond .eq 7, 3) := by decide +kernel
theorem dX5_birthIn_39 : decode cX5_birthIn 39 = .ok (.iload_n 3, 1) := by decide +kernel
theorem dX5_birthIn_40 : decode cX5_birthIn 40 = .ok (.goto 4, 3) := by decide +kernel
theorem dX5_birthIn_43 : decode cX5_birthIn 43 = .ok (.iconst 0, 1) := by decide +kernel
theorem dX5_birthIn_44 : decode cX5_birthIn 44 = .ok (.invokevirtual 206, 3) := by decide +kernel
theorem dX5_birthIn_47 : decode cX5_birthIn 47 = .ok (.ireturn, 1) := by decide +kernel
theorem dX5_sameAt_0 : decode cX5_sameAt 0 = .ok (.aload_n 0, 1) := by decide +kernel
theorem dX5_sameAt_1 : decode cX5_sameAt 1 = .ok (.iload_n 1, 1) := by decide +kernel
theorem dX5_sameAt_2 : decode cX5_sameAt 2 = .ok (.invokevirtual 179, 3) := by decide +kernel
theorem dX5_sameAt_5 : decode cX5_sameAt 5 = .ok (.aload_n 0, 1) := by decide +kernel
theorem dX5_sameAt_6 : decode cX5_sameAt 6 = .ok (.iload_n 2, 1) := by decide +kernel
theorem dX5_sameAt_7 : decode cX5_sameAt 7 = .ok (.invokevirtual 194, 3) := by decide +kernel
theorem dX5_sameAt_10 : decode cX5_sameAt 10 = .ok (.aload_n 0, 1) := by decide +kernel
theorem dX5_sameAt_11 : decode cX5_sameAt 11 = .ok (.getfield 12, 3) := by decide +kernel
theorem dX5_sameAt_14 : decode cX5_sameAt 14 = .ok (.getfield 95, 3) := by decide +kernel
theorem dX5_sameAt_17 : decode cX5_sameAt 17 = .ok (.iload_n 1, 1) := by decide +kernel
