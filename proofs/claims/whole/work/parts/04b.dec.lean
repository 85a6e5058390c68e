theorem dX5_sameAt_18 : decode cX5_sameAt 18 = .ok (.iload_n 2, 1) := by decide +kernel
theorem dX5_sameAt_19 : decode cX5_sameAt 19 = .ok (.invokevirtual 99, 3) := by decide +kernel
theorem dX5_sameAt_22 : decode cX5_sameAt 22 = .ok (.istore_n 3, 1) := by decide +kernel
theorem dX5_sameAt_23 : decode cX5_sameAt 23 = .ok (.iload_n 3, 1) := by decide +kernel
theorem dX5_sameAt_24 : decode cX5_sameAt 24 = .ok (.iconst (-1), 1) := by decide +kernel
theorem dX5_sameAt_25 : decode cX5_sameAt 25 = .ok (.if_icmp .ne 25, 3) := by decide +kernel
theorem dX5_sameAt_28 : decode cX5_sameAt 28 = .ok (.aload_n 0, 1) := by decide +kernel
theorem dX5_sameAt_29 : decode cX5_sameAt 29 = .ok (.getfield 12, 3) := by decide +kernel
theorem dX5_sameAt_32 : decode cX5_sameAt 32 = .ok (.getfield 127, 3) := by decide +kernel
theorem dX5_sameAt_35 : decode cX5_sameAt 35 = .ok (.aload_n 0, 1) := by decide +kernel
theorem dX5_sameAt_36 : decode cX5_sameAt 36 = .ok (.getfield 12, 3) := by decide +kernel
theorem dX5_sameAt_39 : decode cX5_sameAt 39 = .ok (.getfield 95, 3) := by decide +kernel
theorem dX5_sameAt_42 : decode cX5_sameAt 42 = .ok (.iload_n 2, 1) := by decide +kernel
theorem dX5_sameAt_43 : decode cX5_sameAt 43 = .ok (.invokevirtual 210, 3) := by decide +kernel
theorem dX5_sameAt_46 : decode cX5_sameAt 46 = .ok (.iconst (-1), 1) := by decide +kernel
theorem dX5_sameAt_47 : decode cX5_sameAt 47 = .ok (.ixor, 1) := by decide +kernel
theorem dX5_sameAt_48 : decode cX5_sameAt 48 = .ok (.iand, 1) := by decide +kernel
theorem dX5_sameAt_49 : decode cX5_sameAt 49 = .ok (.ireturn, 1) := by decide +kernel
theorem dX5_sameAt_50 : decode cX5_sameAt 50 = .ok (.aload_n 0, 1) := by decide +kernel
theorem dX5_sameAt_51 : decode cX5_sameAt 51 = .ok (.getfield 12, 3) := by decide +kernel
theorem dX5_sameAt_54 : decode cX5_sameAt 54 = .ok (.getfield 95, 3) := by decide +kernel
theorem dX5_sameAt_57 : decode cX5_sameAt 57 = .ok (.getfield 213, 3) := by decide +kernel
theorem dX5_sameAt_60 : decode cX5_sameAt 60 = .ok (.iload_n 3, 1) := by decide +kernel
theorem dX5_sameAt_61 : decode cX5_sameAt 61 = .ok (.iaload, 1) := by decide +kernel
theorem dX5_sameAt_62 : decode cX5_sameAt 62 = .ok (.ireturn, 1) := by decide +kernel
theorem dX5_besideOrigin_0 : decode cX5_besideOrigin 0 = .ok (.aload_n 0, 1) := by decide +kernel
theorem dX5_besideOrigin_1 : decode cX5_besideOrigin 1 = .ok (.iload_n 1, 1) := by decide +kernel
theorem dX5_besideOrigin_2 : decode cX5_besideOrigin 2 = .ok (.invokevirtual 69, 3) := by decide +kernel
theorem dX5_besideOrigin_5 : decode cX5_besideOrigin 5 = .ok (.aload_n 0, 1) := by decide +kernel
theorem dX5_besideOrigin_6 : decode cX5_besideOrigin 6 = .ok (.getfield 12, 3) := by decide +kernel
theorem dX5_besideOrigin_9 : decode cX5_besideOrigin 9 = .ok (.getfield 155, 3) := by decide +kernel
theorem dX5_besideOrigin_12 : decode cX5_besideOrigin 12 = .ok (.iload_n 1, 1) := by decide +kernel
theorem dX5_besideOrigin_13 : decode cX5_besideOrigin 13 = .ok (.iaload, 1) := by decide +kernel
theorem dX5_besideOrigin_14 : decode cX5_besideOrigin 14 = .ok (.istore_n 2, 1) := by decide +kernel
theorem dX5_besideOrigin_15 : decode cX5_besideOrigin 15 = .ok (.iload_n 2, 1) := by decide +kernel
theorem dX5_besideOrigin_16 : decode cX5_besideOrigin 16 = .ok (.iconst (-1), 1) := by decide +kernel
theorem dX5_besideOrigin_17 : decode cX5_besideOrigin 17 = .ok (.if_icmp .ne 7, 3) := by decide +kernel
theorem dX5_besideOrigin_20 : decode cX5_besideOrigin 20 = .ok (.iconst 0, 1) := by decide +kernel
theorem dX5_besideOrigin_21 : decode cX5_besideOrigin 21 = .ok (.goto 7, 3) := by decide +kernel
theorem dX5_besideOrigin_24 : decode cX5_besideOrigin 24 = .ok (.iload_n 2, 1) := by decide +kernel
theorem dX5_besideOrigin_25 : decode cX5_besideOrigin 25 = .ok (.invokestatic 200, 3) := by decide +kernel
theorem dX5_besideOrigin_28 : decode cX5_besideOrigin 28 = .ok (.istore_n 3, 1) := by decide +kernel
theorem dX5_besideOrigin_29 : decode cX5_besideOrigin 29 = .ok (.aload_n 0, 1) := by decide +kernel
theorem dX5_besideOrigin_30 : decode cX5_besideOrigin 30 = .ok (.getfield 12, 3) := by decide +kernel
theorem dX5_besideOrigin_33 : decode cX5_besideOrigin 33 = .ok (.getfield 95, 3) := by decide +kernel
theorem dX5_besideOrigin_36 : decode cX5_besideOrigin 36 = .ok (.astore 4, 2) := by decide +kernel
theorem dX5_besideOrigin_38 : decode cX5_besideOrigin 38 = .ok (.aload 4, 2) := by decide +kernel
theorem dX5_besideOrigin_40 : decode cX5_besideOrigin 40 = .ok (.iconst 0, 1) := by decide +kernel
theorem dX5_besideOrigin_41 : decode cX5_besideOrigin 41 = .ok (.iload_n 3, 1) := by decide +kernel
theorem dX5_besideOrigin_42 : decode cX5_besideOrigin 42 = .ok (.iconst 0, 1) := by decide +kernel
theorem dX5_besideOrigin_43 : decode cX5_besideOrigin 43 = .ok (.invokevirtual 216, 3) := by decide +kernel
theorem dX5_besideOrigin_46 : decode cX5_besideOrigin 46 = .ok (.aload 4, 2) := by decide +kernel
theorem dX5_besideOrigin_48 : decode cX5_besideOrigin 48 = .ok (.iconst 0, 1) := by decide +kernel
theorem dX5_besideOrigin_49 : decode cX5_besideOrigin 49 = .ok (.iload_n 3, 1) := by decide +kernel
theorem dX5_besideOrigin_50 : decode cX5_besideOrigin 50 = .ok (.aload_n 0, 1) := by decide +kernel
theorem dX5_besideOrigin_51 : decode cX5_besideOrigin 51 = .ok (.getfield 12, 3) := by decide +kernel
theorem dX5_besideOrigin_54 : decode cX5_besideOrigin 54 = .ok (.iload_n 1, 1) := by decide +kernel
theorem dX5_besideOrigin_55 : decode cX5_besideOrigin 55 = .ok (.invokevirtual 219, 3) := by decide +kernel
theorem dX5_besideOrigin_58 : decode cX5_besideOrigin 58 = .ok (.ior, 1) := by decide +kernel
theorem dX5_besideOrigin_59 : decode cX5_besideOrigin 59 = .ok (.iconst 0, 1) := by decide +kernel
theorem dX5_besideOrigin_60 : decode cX5_besideOrigin 60 = .ok (.invokevirtual 216, 3) := by decide +kernel
theorem dX5_besideOrigin_63 : decode cX5_besideOrigin 63 = .ok (.isub, 1) := by decide +kernel
theorem dX5_besideOrigin_64 : decode cX5_besideOrigin 64 = .ok (.ireturn, 1) := by decide +kernel
theorem dX5_wouldFree_0 : decode cX5_wouldFree 0 = .ok (.aload_n 0, 1) := by decide +kernel
theorem dX5_wouldFree_1 : decode cX5_wouldFree 1 = .ok (.iload_n 1, 1) := by decide +kernel
theorem dX5_wouldFree_2 : decode cX5_wouldFree 2 = .ok (.invokevirtual 69, 3) := by decide +kernel
theorem dX5_wouldFree_5 : decode cX5_wouldFree 5 = .ok (.aload_n 0, 1) := by decide +kernel
theorem dX5_wouldFree_6 : decode cX5_wouldFree 6 = .ok (.iload_n 2, 1) := by decide +kernel
theorem dX5_wouldFree_7 : decode cX5_wouldFree 7 = .ok (.invokevirtual 194, 3) := by decide +kernel
theorem dX5_wouldFree_10 : decode cX5_wouldFree 10 = .ok (.aload_n 0, 1) := by decide +kernel
theorem dX5_wouldFree_11 : decode cX5_wouldFree 11 = .ok (.getfield 12, 3) := by decide +kernel
theorem dX5_wouldFree_14 : decode cX5_wouldFree 14 = .ok (.getfield 95, 3) := by decide +kernel
theorem dX5_wouldFree_17 : decode cX5_wouldFree 17 = .ok (.bipush 16, 2) := by decide +kernel
theorem dX5_wouldFree_19 : decode cX5_wouldFree 19 = .ok (.iload_n 1, 1) := by decide +kernel
theorem dX5_wouldFree_20 : decode cX5_wouldFree 20 = .ok (.iadd, 1) := by decide +kernel
theorem dX5_wouldFree_21 : decode cX5_wouldFree 21 = .ok (.iload_n 2, 1) := by decide +kernel
theorem dX5_wouldFree_22 : decode cX5_wouldFree 22 = .ok (.invokevirtual 222, 3) := by decide +kernel
theorem dX5_wouldFree_25 : decode cX5_wouldFree 25 = .ok (.ireturn, 1) := by decide +kernel
theorem dX5_sizeOf_0 : decode cX5_sizeOf 0 = .ok (.aload_n 0, 1) := by decide +kernel
theorem dX5_sizeOf_1 : decode cX5_sizeOf 1 = .ok (.getfield 12, 3) := by decide +kernel
theorem dX5_sizeOf_4 : decode cX5_sizeOf 4 = .ok (.getfield 95, 3) := by decide +kernel
theorem dX5_sizeOf_7 : decode cX5_sizeOf 7 = .ok (.iload_n 1, 1) := by decide +kernel
theorem dX5_sizeOf_8 : decode cX5_sizeOf 8 = .ok (.invokevirtual 225, 3) := by decide +kernel
theorem dX5_sizeOf_11 : decode cX5_sizeOf 11 = .ok (.istore_n 2, 1) := by decide +kernel
theorem dX5_sizeOf_12 : decode cX5_sizeOf 12 = .ok (.iload_n 2, 1) := by decide +kernel
theorem dX5_sizeOf_13 : decode cX5_sizeOf 13 = .ok (.iconst (-1), 1) := by decide +kernel
theorem dX5_sizeOf_14 : decode cX5_sizeOf 14 = .ok (.if_icmp .ne 7, 3) := by decide +kernel
theorem dX5_sizeOf_17 : decode cX5_sizeOf 17 = .ok (.iconst (-1), 1) := by decide +kernel
theorem dX5_sizeOf_18 : decode cX5_sizeOf 18 = .ok (.goto 15, 3) := by decide +kernel
theorem dX5_sizeOf_21 : decode cX5_sizeOf 21 = .ok (.aload_n 0, 1) := by decide +kernel
theorem dX5_sizeOf_22 : decode cX5_sizeOf 22 = .ok (.getfield 12, 3) := by decide +kernel
theorem dX5_sizeOf_25 : decode cX5_sizeOf 25 = .ok (.getfield 95, 3) := by decide +kernel
theorem dX5_sizeOf_28 : decode cX5_sizeOf 28 = .ok (.getfield 228, 3) := by decide +kernel
theorem dX5_sizeOf_31 : decode cX5_sizeOf 31 = .ok (.iload_n 2, 1) := by decide +kernel
theorem dX5_sizeOf_32 : decode cX5_sizeOf 32 = .ok (.iaload, 1) := by decide +kernel
theorem dX5_sizeOf_33 : decode cX5_sizeOf 33 = .ok (.ireturn, 1) := by decide +kernel
theorem dX5_holders_0 : decode cX5_holders 0 = .ok (.aload_n 0, 1) := by decide +kernel
theorem dX5_holders_1 : decode cX5_holders 1 = .ok (.getfield 12, 3) := by decide +kernel
theorem dX5_holders_4 : decode cX5_holders 4 = .ok (.getfield 95, 3) := by decide +kernel
theorem dX5_holders_7 : decode cX5_holders 7 = .ok (.iload_n 1, 1) := by decide +kernel
theorem dX5_holders_8 : decode cX5_holders 8 = .ok (.invokevirtual 225, 3) := by decide +kernel
theorem dX5_holders_11 : decode cX5_holders 11 = .ok (.istore_n 2, 1) := by decide +kernel
theorem dX5_holders_12 : decode cX5_holders 12 = .ok (.iload_n 2, 1) := by decide +kernel
theorem dX5_holders_13 : decode cX5_holders 13 = .ok (.iconst (-1), 1) := by decide +kernel
theorem dX5_holders_14 : decode cX5_holders 14 = .ok (.if_icmp .ne 7, 3) := by decide +kernel
theorem dX5_holders_17 : decode cX5_holders 17 = .ok (.iconst 0, 1) := by decide +kernel
theorem dX5_holders_18 : decode cX5_holders 18 = .ok (.goto 15, 3) := by decide +kernel
theorem dX5_holders_21 : decode cX5_holders 21 = .ok (.aload_n 0, 1) := by decide +kernel
theorem dX5_holders_22 : decode cX5_holders 22 = .ok (.getfield 12, 3) := by decide +kernel
theorem dX5_holders_25 : decode cX5_holders 25 = .ok (.getfield 95, 3) := by decide +kernel
theorem dX5_holders_28 : decode cX5_holders 28 = .ok (.getfield 213, 3) := by decide +kernel
theorem dX5_holders_31 : decode cX5_holders 31 = .ok (.iload_n 2, 1) := by decide +kernel
theorem dX5_holders_32 : decode cX5_holders 32 = .ok (.iaload, 1) := by decide +kernel
theorem dX5_holders_33 : decode cX5_holders 33 = .ok (.ireturn, 1) := by decide +kernel
theorem dX5_used_0 : decode cX5_used 0 = .ok (.aload_n 0, 1) := by decide +kernel
theorem dX5_used_1 : decode cX5_used 1 = .ok (.getfield 12, 3) := by decide +kernel
theorem dX5_used_4 : decode cX5_used 4 = .ok (.getfield 95, 3) := by decide +kernel
theorem dX5_used_7 : decode cX5_used 7 = .ok (.iconst 0, 1) := by decide +kernel
theorem dX5_used_8 : decode cX5_used 8 = .ok (.iconst 0, 1) := by decide +kernel
theorem dX5_used_9 : decode cX5_used 9 = .ok (.iconst 0, 1) := by decide +kernel
theorem dX5_used_10 : decode cX5_used 10 = .ok (.invokevirtual 216, 3) := by decide +kernel
theorem dX5_used_13 : decode cX5_used 13 = .ok (.ireturn, 1) := by decide +kernel
theorem dX5_referenced_0 : decode cX5_referenced 0 = .ok (.aload_n 0, 1) := by decide +kernel
theorem dX5_referenced_1 : decode cX5_referenced 1 = .ok (.iload_n 1, 1) := by decide +kernel
theorem dX5_referenced_2 : decode cX5_referenced 2 = .ok (.invokevirtual 179, 3) := by decide +kernel
theorem dX5_referenced_5 : decode cX5_referenced 5 = .ok (.aload_n 0, 1) := by decide +kernel
theorem dX5_referenced_6 : decode cX5_referenced 6 = .ok (.getfield 12, 3) := by decide +kernel
theorem dX5_referenced_9 : decode cX5_referenced 9 = .ok (.getfield 95, 3) := by decide +kernel
theorem dX5_referenced_12 : decode cX5_referenced 12 = .ok (.iload_n 1, 1) := by decide +kernel
theorem dX5_referenced_13 : decode cX5_referenced 13 = .ok (.invokestatic 200, 3) := by decide +kernel
theorem dX5_referenced_16 : decode cX5_referenced 16 = .ok (.iconst 0, 1) := by decide +kernel
theorem dX5_referenced_17 : decode cX5_referenced 17 = .ok (.iconst 0, 1) := by decide +kernel
theorem dX5_referenced_18 : decode cX5_referenced 18 = .ok (.invokevirtual 216, 3) := by decide +kernel
theorem dX5_referenced_21 : decode cX5_referenced 21 = .ok (.ireturn, 1) := by decide +kernel
theorem dX5_exclusive_0 : decode cX5_exclusive 0 = .ok (.aload_n 0, 1) := by decide +kernel
theorem dX5_exclusive_1 : decode cX5_exclusive 1 = .ok (.iload_n 1, 1) := by decide +kernel
theorem dX5_exclusive_2 : decode cX5_exclusive 2 = .ok (.invokevirtual 179, 3) := by decide +kernel
theorem dX5_exclusive_5 : decode cX5_exclusive 5 = .ok (.aload_n 0, 1) := by decide +kernel
theorem dX5_exclusive_6 : decode cX5_exclusive 6 = .ok (.getfield 12, 3) := by decide +kernel
theorem dX5_exclusive_9 : decode cX5_exclusive 9 = .ok (.getfield 95, 3) := by decide +kernel
theorem dX5_exclusive_12 : decode cX5_exclusive 12 = .ok (.iload_n 1, 1) := by decide +kernel
theorem dX5_exclusive_13 : decode cX5_exclusive 13 = .ok (.invokestatic 200, 3) := by decide +kernel
theorem dX5_exclusive_16 : decode cX5_exclusive 16 = .ok (.invokevirtual 231, 3) := by decide +kernel
theorem dX5_exclusive_19 : decode cX5_exclusive 19 = .ok (.ireturn, 1) := by decide +kernel
theorem dX5_shared_0 : decode cX5_shared 0 = .ok (.aload_n 0, 1) := by decide +kernel
theorem dX5_shared_1 : decode cX5_shared 1 = .ok (.iload_n 1, 1) := by decide +kernel
theorem dX5_shared_2 : decode cX5_shared 2 = .ok (.invokevirtual 179, 3) := by decide +kernel
theorem dX5_shared_5 : decode cX5_shared 5 = .ok (.aload_n 0, 1) := by decide +kernel
theorem dX5_shared_6 : decode cX5_shared 6 = .ok (.iload_n 2, 1) := by decide +kernel
theorem dX5_shared_7 : decode cX5_shared 7 = .ok (.invokevirtual 179, 3) := by decide +kernel
theorem dX5_shared_10 : decode cX5_shared 10 = .ok (.aload_n 0, 1) := by decide +kernel
theorem dX5_shared_11 : decode cX5_shared 11 = .ok (.getfield 12, 3) := by decide +kernel
theorem dX5_shared_14 : decode cX5_shared 14 = .ok (.getfield 95, 3) := by decide +kernel
theorem dX5_shared_17 : decode cX5_shared 17 = .ok (.iload_n 1, 1) := by decide +kernel
theorem dX5_shared_18 : decode cX5_shared 18 = .ok (.invokestatic 200, 3) := by decide +kernel
theorem dX5_shared_21 : decode cX5_shared 21 = .ok (.iload_n 2, 1) := by decide +kernel
theorem dX5_shared_22 : decode cX5_shared 22 = .ok (.invokestatic 200, 3) := by decide +kernel
theorem dX5_shared_25 : decode cX5_shared 25 = .ok (.ior, 1) := by decide +kernel
theorem dX5_shared_26 : decode cX5_shared 26 = .ok (.iconst 0, 1) := by decide +kernel
theorem dX5_shared_27 : decode cX5_shared 27 = .ok (.iconst 0, 1) := by decide +kernel
theorem dX5_shared_28 : decode cX5_shared 28 = .ok (.invokevirtual 216, 3) := by decide +kernel
theorem dX5_shared_31 : decode cX5_shared 31 = .ok (.ireturn, 1) := by decide +kernel
theorem dX5_unlike_0 : decode cX5_unlike 0 = .ok (.aload_n 0, 1) := by decide +kernel
theorem dX5_unlike_1 : decode cX5_unlike 1 = .ok (.iload_n 1, 1) := by decide +kernel
theorem dX5_unlike_2 : decode cX5_unlike 2 = .ok (.invokevirtual 179, 3) := by decide +kernel
theorem dX5_unlike_5 : decode cX5_unlike 5 = .ok (.aload_n 0, 1) := by decide +kernel
theorem dX5_unlike_6 : decode cX5_unlike 6 = .ok (.iload_n 2, 1) := by decide +kernel
theorem dX5_unlike_7 : decode cX5_unlike 7 = .ok (.invokevirtual 179, 3) := by decide +kernel
theorem dX5_unlike_10 : decode cX5_unlike 10 = .ok (.iconst 0, 1) := by decide +kernel
theorem dX5_unlike_11 : decode cX5_unlike 11 = .ok (.istore_n 3, 1) := by decide +kernel
theorem dX5_unlike_12 : decode cX5_unlike 12 = .ok (.iconst 0, 1) := by decide +kernel
theorem dX5_unlike_13 : decode cX5_unlike 13 = .ok (.istore 4, 2) := by decide +kernel
theorem dX5_unlike_15 : decode cX5_unlike 15 = .ok (.iload 4, 2) := by decide +kernel
theorem dX5_unlike_17 : decode cX5_unlike 17 = .ok (.bipush 12, 2) := by decide +kernel
theorem dX5_unlike_19 : decode cX5_unlike 19 = .ok (.if_icmp .ge 46, 3) := by decide +kernel
theorem dX5_unlike_22 : decode cX5_unlike 22 = .ok (.aload_n 0, 1) := by decide +kernel
theorem dX5_unlike_23 : decode cX5_unlike 23 = .ok (.getfield 12, 3) := by decide +kernel
theorem dX5_unlike_26 : decode cX5_unlike 26 = .ok (.getfield 95, 3) := by decide +kernel
theorem dX5_unlike_29 : decode cX5_unlike 29 = .ok (.iload_n 1, 1) := by decide +kernel
theorem dX5_unlike_30 : decode cX5_unlike 30 = .ok (.iload 4, 2) := by decide +kernel
theorem dX5_unlike_32 : decode cX5_unlike 32 = .ok (.invokevirtual 99, 3) := by decide +kernel
theorem dX5_unlike_35 : decode cX5_unlike 35 = .ok (.aload_n 0, 1) := by decide +kernel
theorem dX5_unlike_36 : decode cX5_unlike 36 = .ok (.getfield 12, 3) := by decide +kernel
theorem dX5_unlike_39 : decode cX5_unlike 39 = .ok (.getfield 95, 3) := by decide +kernel
theorem dX5_unlike_42 : decode cX5_unlike 42 = .ok (.iload_n 2, 1) := by decide +kernel
theorem dX5_unlike_43 : decode cX5_unlike 43 = .ok (.iload 4, 2) := by decide +kernel
theorem dX5_unlike_45 : decode cX5_unlike 45 = .ok (.invokevirtual 99, 3) := by decide +kernel
theorem dX5_unlike_48 : decode cX5_unlike 48 = .ok (.if_icmp .eq 11, 3) := by decide +kernel
theorem dX5_unlike_51 : decode cX5_unlike 51 = .ok (.iload_n 3, 1) := by decide +kernel
theorem dX5_unlike_52 : decode cX5_unlike 52 = .ok (.iload 4, 2) := by decide +kernel
theorem dX5_unlike_54 : decode cX5_unlike 54 = .ok (.invokestatic 200, 3) := by decide +kernel
theorem dX5_unlike_57 : decode cX5_unlike 57 = .ok (.ior, 1) := by decide +kernel
theorem dX5_unlike_58 : decode cX5_unlike 58 = .ok (.istore_n 3, 1) := by decide +kernel
theorem dX5_unlike_59 : decode cX5_unlike 59 = .ok (.iinc 4 1, 3) := by decide +kernel
theorem dX5_unlike_62 : decode cX5_unlike 62 = .ok (.goto (-47), 3) := by decide +kernel
theorem dX5_unlike_65 : decode cX5_unlike 65 = .ok (.iload_n 3, 1) := by decide +kernel
theorem dX5_unlike_66 : decode cX5_unlike 66 = .ok (.ireturn, 1) := by decide +kernel
theorem dX5_writtenSince_0 : decode cX5_writtenSince 0 = .ok (.aload_n 0, 1) := by decide +kernel
theorem dX5_writtenSince_1 : decode cX5_writtenSince 1 = .ok (.iload_n 1, 1) := by decide +kernel
theorem dX5_writtenSince_2 : decode cX5_writtenSince 2 = .ok (.invokevirtual 69, 3) := by decide +kernel
theorem dX5_writtenSince_5 : decode cX5_writtenSince 5 = .ok (.aload_n 0, 1) := by decide +kernel
theorem dX5_writtenSince_6 : decode cX5_writtenSince 6 = .ok (.iload_n 2, 1) := by decide +kernel
theorem dX5_writtenSince_7 : decode cX5_writtenSince 7 = .ok (.invokevirtual 161, 3) := by decide +kernel
theorem dX5_writtenSince_10 : decode cX5_writtenSince 10 = .ok (.aload_n 0, 1) := by decide +kernel
theorem dX5_writtenSince_11 : decode cX5_writtenSince 11 = .ok (.getfield 12, 3) := by decide +kernel
theorem dX5_writtenSince_14 : decode cX5_writtenSince 14 = .ok (.getfield 95, 3) := by decide +kernel
theorem dX5_writtenSince_17 : decode cX5_writtenSince 17 = .ok (.bipush 16, 2) := by decide +kernel
theorem dX5_writtenSince_19 : decode cX5_writtenSince 19 = .ok (.iload_n 1, 1) := by decide +kernel
theorem dX5_writtenSince_20 : decode cX5_writtenSince 20 = .ok (.iadd, 1) := by decide +kernel
theorem dX5_writtenSince_21 : decode cX5_writtenSince 21 = .ok (.invokestatic 200, 3) := by decide +kernel
theorem dX5_writtenSince_24 : decode cX5_writtenSince 24 = .ok (.iconst 0, 1) := by decide +kernel
theorem dX5_writtenSince_25 : decode cX5_writtenSince 25 = .ok (.aload_n 0, 1) := by decide +kernel
theorem dX5_writtenSince_26 : decode cX5_writtenSince 26 = .ok (.getfield 12, 3) := by decide +kernel
theorem dX5_writtenSince_29 : decode cX5_writtenSince 29 = .ok (.getfield 167, 3) := by decide +kernel
theorem dX5_writtenSince_32 : decode cX5_writtenSince 32 = .ok (.iload_n 2, 1) := by decide +kernel
theorem dX5_writtenSince_33 : decode cX5_writtenSince 33 = .ok (.iaload, 1) := by decide +kernel
theorem dX5_writtenSince_34 : decode cX5_writtenSince 34 = .ok (.invokevirtual 216, 3) := by decide +kernel
theorem dX5_writtenSince_37 : decode cX5_writtenSince 37 = .ok (.ireturn, 1) := by decide +kernel
theorem dX5_deadCount_0 : decode cX5_deadCount 0 = .ok (.aload_n 0, 1) := by decide +kernel
theorem dX5_deadCount_1 : decode cX5_deadCount 1 = .ok (.iload_n 1, 1) := by decide +kernel
theorem dX5_deadCount_2 : decode cX5_deadCount 2 = .ok (.invokevirtual 179, 3) := by decide +kernel
theorem dX5_deadCount_5 : decode cX5_deadCount 5 = .ok (.aload_n 0, 1) := by decide +kernel
theorem dX5_deadCount_6 : decode cX5_deadCount 6 = .ok (.getfield 12, 3) := by decide +kernel
theorem dX5_deadCount_9 : decode cX5_deadCount 9 = .ok (.iload_n 1, 1) := by decide +kernel
theorem dX5_deadCount_10 : decode cX5_deadCount 10 = .ok (.invokevirtual 182, 3) := by decide +kernel
theorem dX5_deadCount_13 : decode cX5_deadCount 13 = .ok (.istore_n 2, 1) := by decide +kernel
theorem dX5_deadCount_14 : decode cX5_deadCount 14 = .ok (.iload_n 2, 1) := by decide +kernel
theorem dX5_deadCount_15 : decode cX5_deadCount 15 = .ok (.iconst (-1), 1) := by decide +kernel
theorem dX5_deadCount_16 : decode cX5_deadCount 16 = .ok (.if_icmp .ne 7, 3) := by decide +kernel
theorem dX5_deadCount_19 : decode cX5_deadCount 19 = .ok (.iconst 0, 1) := by decide +kernel
theorem dX5_deadCount_20 : decode cX5_deadCount 20 = .ok (.goto 21, 3) := by decide +kernel
theorem dX5_deadCount_23 : decode cX5_deadCount 23 = .ok (.aload_n 0, 1) := by decide +kernel
theorem dX5_deadCount_24 : decode cX5_deadCount 24 = .ok (.getfield 12, 3) := by decide +kernel
theorem dX5_deadCount_27 : decode cX5_deadCount 27 = .ok (.getfield 95, 3) := by decide +kernel
theorem dX5_deadCount_30 : decode cX5_deadCount 30 = .ok (.iload_n 2, 1) := by decide +kernel
theorem dX5_deadCount_31 : decode cX5_deadCount 31 = .ok (.invokestatic 200, 3) := by decide +kernel
theorem dX5_deadCount_34 : decode cX5_deadCount 34 = .ok (.iload_n 1, 1) := by decide +kernel
theorem dX5_deadCount_35 : decode cX5_deadCount 35 = .ok (.invokestatic 200, 3) := by decide +kernel
theorem dX5_deadCount_38 : decode cX5_deadCount 38 = .ok (.invokevirtual 203, 3) := by decide +kernel
theorem dX5_deadCount_41 : decode cX5_deadCount 41 = .ok (.ireturn, 1) := by decide +kernel
theorem dX5_deadBlock_0 : decode cX5_deadBlock 0 = .ok (.aload_n 0, 1) := by decide +kernel
theorem dX5_deadBlock_1 : decode cX5_deadBlock 1 = .ok (.iload_n 1, 1) := by decide +kernel
theorem dX5_deadBlock_2 : decode cX5_deadBlock 2 = .ok (.invokevirtual 179, 3) := by decide +kernel
theorem dX5_deadBlock_5 : decode cX5_deadBlock 5 = .ok (.aload_n 0, 1) := by decide +kernel
theorem dX5_deadBlock_6 : decode cX5_deadBlock 6 = .ok (.getfield 12, 3) := by decide +kernel
theorem dX5_deadBlock_9 : decode cX5_deadBlock 9 = .ok (.iload_n 1, 1) := by decide +kernel
theorem dX5_deadBlock_10 : decode cX5_deadBlock 10 = .ok (.invokevirtual 182, 3) := by decide +kernel
theorem dX5_deadBlock_13 : decode cX5_deadBlock 13 = .ok (.istore_n 3, 1) := by decide +kernel
theorem dX5_deadBlock_14 : decode cX5_deadBlock 14 = .ok (.iload_n 3, 1) := by decide +kernel
theorem dX5_deadBlock_15 : decode cX5_deadBlock 15 = .ok (.iconst (-1), 1) := by decide +kernel
theorem dX5_deadBlock_16 : decode cX5_deadBlock 16 = .ok (.if_icmp .ne 7, 3) := by decide +kernel
theorem dX5_deadBlock_19 : decode cX5_deadBlock 19 = .ok (.iconst (-1), 1) := by decide +kernel
theorem dX5_deadBlock_20 : decode cX5_deadBlock 20 = .ok (.goto 22, 3) := by decide +kernel
theorem dX5_deadBlock_23 : decode cX5_deadBlock 23 = .ok (.aload_n 0, 1) := by decide +kernel
theorem dX5_deadBlock_24 : decode cX5_deadBlock 24 = .ok (.getfield 12, 3) := by decide +kernel
theorem dX5_deadBlock_27 : decode cX5_deadBlock 27 = .ok (.getfield 95, 3) := by decide +kernel
theorem dX5_deadBlock_30 : decode cX5_deadBlock 30 = .ok (.iload_n 3, 1) := by decide +kernel
theorem dX5_deadBlock_31 : decode cX5_deadBlock 31 = .ok (.invokestatic 200, 3) := by decide +kernel
theorem dX5_deadBlock_34 : decode cX5_deadBlock 34 = .ok (.iload_n 1, 1) := by decide +kernel
theorem dX5_deadBlock_35 : decode cX5_deadBlock 35 = .ok (.invokestatic 200, 3) := by decide +kernel
theorem dX5_deadBlock_38 : decode cX5_deadBlock 38 = .ok (.iload_n 2, 1) := by decide +kernel
theorem dX5_deadBlock_39 : decode cX5_deadBlock 39 = .ok (.invokevirtual 206, 3) := by decide +kernel
theorem dX5_deadBlock_42 : decode cX5_deadBlock 42 = .ok (.ireturn, 1) := by decide +kernel
theorem dX5_byDeadBlocks_0 : decode cX5_byDeadBlocks 0 = .ok (.aload_n 0, 1) := by decide +kernel
theorem dX5_byDeadBlocks_1 : decode cX5_byDeadBlocks 1 = .ok (.iload_n 1, 1) := by decide +kernel
theorem dX5_byDeadBlocks_2 : decode cX5_byDeadBlocks 2 = .ok (.invokevirtual 161, 3) := by decide +kernel
theorem dX5_byDeadBlocks_5 : decode cX5_byDeadBlocks 5 = .ok (.aload_n 0, 1) := by decide +kernel
theorem dX5_byDeadBlocks_6 : decode cX5_byDeadBlocks 6 = .ok (.getfield 12, 3) := by decide +kernel
theorem dX5_byDeadBlocks_9 : decode cX5_byDeadBlocks 9 = .ok (.iload_n 1, 1) := by decide +kernel
theorem dX5_byDeadBlocks_10 : decode cX5_byDeadBlocks 10 = .ok (.invokevirtual 182, 3) := by decide +kernel
theorem dX5_byDeadBlocks_13 : decode cX5_byDeadBlocks 13 = .ok (.istore_n 2, 1) := by decide +kernel
theorem dX5_byDeadBlocks_14 : decode cX5_byDeadBlocks 14 = .ok (.iload_n 2, 1) := by decide +kernel
theorem dX5_byDeadBlocks_15 : decode cX5_byDeadBlocks 15 = .ok (.iconst (-1), 1) := by decide +kernel
theorem dX5_byDeadBlocks_16 : decode cX5_byDeadBlocks 16 = .ok (.if_icmp .ne 7, 3) := by decide +kernel
theorem dX5_byDeadBlocks_19 : decode cX5_byDeadBlocks 19 = .ok (.iconst 0, 1) := by decide +kernel
theorem dX5_byDeadBlocks_20 : decode cX5_byDeadBlocks 20 = .ok (.goto 12, 3) := by decide +kernel
theorem dX5_byDeadBlocks_23 : decode cX5_byDeadBlocks 23 = .ok (.aload_n 0, 1) := by decide +kernel
theorem dX5_byDeadBlocks_24 : decode cX5_byDeadBlocks 24 = .ok (.getfield 12, 3) := by decide +kernel
theorem dX5_byDeadBlocks_27 : decode cX5_byDeadBlocks 27 = .ok (.getfield 167, 3) := by decide +kernel
theorem dX5_byDeadBlocks_30 : decode cX5_byDeadBlocks 30 = .ok (.iload_n 2, 1) := by decide +kernel
theorem dX5_byDeadBlocks_31 : decode cX5_byDeadBlocks 31 = .ok (.iaload, 1) := by decide +kernel
theorem dX5_byDeadBlocks_32 : decode cX5_byDeadBlocks 32 = .ok (.istore_n 3, 1) := by decide +kernel
theorem dX5_byDeadBlocks_33 : decode cX5_byDeadBlocks 33 = .ok (.aload_n 0, 1) := by decide +kernel
theorem dX5_byDeadBlocks_34 : decode cX5_byDeadBlocks 34 = .ok (.getfield 12, 3) := by decide +kernel
theorem dX5_byDeadBlocks_37 : decode cX5_byDeadBlocks 37 = .ok (.getfield 95, 3) := by decide +kernel
theorem dX5_byDeadBlocks_40 : decode cX5_byDeadBlocks 40 = .ok (.iload_n 1, 1) := by decide +kernel
theorem dX5_byDeadBlocks_41 : decode cX5_byDeadBlocks 41 = .ok (.invokestatic 200, 3) := by decide +kernel
theorem dX5_byDeadBlocks_44 : decode cX5_byDeadBlocks 44 = .ok (.aload_n 0, 1) := by decide +kernel
theorem dX5_byDeadBlocks_45 : decode cX5_byDeadBlocks 45 = .ok (.getfield 12, 3) := by decide +kernel
theorem dX5_byDeadBlocks_48 : decode cX5_byDeadBlocks 48 = .ok (.iload_n 1, 1) := by decide +kernel
theorem dX5_byDeadBlocks_49 : decode cX5_byDeadBlocks 49 = .ok (.invokevirtual 185, 3) := by decide +kernel
theorem dX5_byDeadBlocks_52 : decode cX5_byDeadBlocks 52 = .ok (.invokestatic 200, 3) := by decide +kernel
theorem dX5_byDeadBlocks_55 : decode cX5_byDeadBlocks 55 = .ok (.iload_n 3, 1) := by decide +kernel
theorem dX5_byDeadBlocks_56 : decode cX5_byDeadBlocks 56 = .ok (.invokevirtual 216, 3) := by decide +kernel
theorem dX5_byDeadBlocks_59 : decode cX5_byDeadBlocks 59 = .ok (.ireturn, 1) := by decide +kernel
theorem dX5_freedBy_0 : decode cX5_freedBy 0 = .ok (.iload_n 1, 1) := by decide +kernel
theorem dX5_freedBy_1 : decode cX5_freedBy 1 = .ok (.aload_n 0, 1) := by decide +kernel
theorem dX5_freedBy_2 : decode cX5_freedBy 2 = .ok (.getfield 12, 3) := by decide +kernel
theorem dX5_freedBy_5 : decode cX5_freedBy 5 = .ok (.invokevirtual 138, 3) := by decide +kernel
theorem dX5_freedBy_8 : decode cX5_freedBy 8 = .ok (.iconst (-1), 1) := by decide +kernel
theorem dX5_freedBy_9 : decode cX5_freedBy 9 = .ok (.ixor, 1) := by decide +kernel
theorem dX5_freedBy_10 : decode cX5_freedBy 10 = .ok (.iand, 1) := by decide +kernel
theorem dX5_freedBy_11 : decode cX5_freedBy 11 = .ok (.ifCond .eq 5, 3) := by decide +kernel
theorem dX5_freedBy_14 : decode cX5_freedBy 14 = .ok (.iconst (-1), 1) := by decide +kernel
theorem dX5_freedBy_15 : decode cX5_freedBy 15 = .ok (.ireturn, 1) := by decide +kernel
theorem dX5_freedBy_16 : decode cX5_freedBy 16 = .ok (.aload_n 0, 1) := by decide +kernel
theorem dX5_freedBy_17 : decode cX5_freedBy 17 = .ok (.getfield 12, 3) := by decide +kernel
theorem dX5_freedBy_20 : decode cX5_freedBy 20 = .ok (.getfield 95, 3) := by decide +kernel
theorem dX5_freedBy_23 : decode cX5_freedBy 23 = .ok (.iload_n 1, 1) := by decide +kernel
theorem dX5_freedBy_24 : decode cX5_freedBy 24 = .ok (.invokevirtual 231, 3) := by decide +kernel
theorem dX5_freedBy_27 : decode cX5_freedBy 27 = .ok (.ireturn, 1) := by decide +kernel
theorem dX5_freedByVolume_0 : decode cX5_freedByVolume 0 = .ok (.aload_n 0, 1) := by decide +kernel
theorem dX5_freedByVolume_1 : decode cX5_freedByVolume 1 = .ok (.iload_n 1, 1) := by decide +kernel
theorem dX5_freedByVolume_2 : decode cX5_freedByVolume 2 = .ok (.invokevirtual 69, 3) := by decide +kernel
theorem dX5_freedByVolume_5 : decode cX5_freedByVolume 5 = .ok (.aload_n 0, 1) := by decide +kernel
theorem dX5_freedByVolume_6 : decode cX5_freedByVolume 6 = .ok (.getfield 12, 3) := by decide +kernel
theorem dX5_freedByVolume_9 : decode cX5_freedByVolume 9 = .ok (.getfield 95, 3) := by decide +kernel
theorem dX5_freedByVolume_12 : decode cX5_freedByVolume 12 = .ok (.aload_n 0, 1) := by decide +kernel
theorem dX5_freedByVolume_13 : decode cX5_freedByVolume 13 = .ok (.getfield 12, 3) := by decide +kernel
theorem dX5_freedByVolume_16 : decode cX5_freedByVolume 16 = .ok (.iload_n 1, 1) := by decide +kernel
theorem dX5_freedByVolume_17 : decode cX5_freedByVolume 17 = .ok (.invokevirtual 219, 3) := by decide +kernel
theorem dX5_freedByVolume_20 : decode cX5_freedByVolume 20 = .ok (.invokevirtual 231, 3) := by decide +kernel
theorem dX5_freedByVolume_23 : decode cX5_freedByVolume 23 = .ok (.ireturn, 1) := by decide +kernel
theorem dX5_usedBySnapshots_0 : decode cX5_usedBySnapshots 0 = .ok (.aload_n 0, 1) := by decide +kernel
theorem dX5_usedBySnapshots_1 : decode cX5_usedBySnapshots 1 = .ok (.iload_n 1, 1) := by decide +kernel
theorem dX5_usedBySnapshots_2 : decode cX5_usedBySnapshots 2 = .ok (.invokevirtual 69, 3) := by decide +kernel
theorem dX5_usedBySnapshots_5 : decode cX5_usedBySnapshots 5 = .ok (.aload_n 0, 1) := by decide +kernel
theorem dX5_usedBySnapshots_6 : decode cX5_usedBySnapshots 6 = .ok (.getfield 12, 3) := by decide +kernel
theorem dX5_usedBySnapshots_9 : decode cX5_usedBySnapshots 9 = .ok (.getfield 95, 3) := by decide +kernel
theorem dX5_usedBySnapshots_12 : decode cX5_usedBySnapshots 12 = .ok (.aload_n 0, 1) := by decide +kernel
theorem dX5_usedBySnapshots_13 : decode cX5_usedBySnapshots 13 = .ok (.getfield 12, 3) := by decide +kernel
theorem dX5_usedBySnapshots_16 : decode cX5_usedBySnapshots 16 = .ok (.iload_n 1, 1) := by decide +kernel
theorem dX5_usedBySnapshots_17 : decode cX5_usedBySnapshots 17 = .ok (.invokevirtual 85, 3) := by decide +kernel
theorem dX5_usedBySnapshots_20 : decode cX5_usedBySnapshots 20 = .ok (.invokevirtual 231, 3) := by decide +kernel
theorem dX5_usedBySnapshots_23 : decode cX5_usedBySnapshots 23 = .ok (.ireturn, 1) := by decide +kernel
theorem dX5_whyKept_0 : decode cX5_whyKept 0 = .ok (.aload_n 0, 1) := by decide +kernel
theorem dX5_whyKept_1 : decode cX5_whyKept 1 = .ok (.iload_n 1, 1) := by decide +kernel
theorem dX5_whyKept_2 : decode cX5_whyKept 2 = .ok (.invokevirtual 161, 3) := by decide +kernel
theorem dX5_whyKept_5 : decode cX5_whyKept 5 = .ok (.aload_n 0, 1) := by decide +kernel
theorem dX5_whyKept_6 : decode cX5_whyKept 6 = .ok (.getfield 12, 3) := by decide +kernel
theorem dX5_whyKept_9 : decode cX5_whyKept 9 = .ok (.iload_n 1, 1) := by decide +kernel
theorem dX5_whyKept_10 : decode cX5_whyKept 10 = .ok (.invokevirtual 173, 3) := by decide +kernel
theorem dX5_whyKept_13 : decode cX5_whyKept 13 = .ok (.ifCond .eq 5, 3) := by decide +kernel
theorem dX5_whyKept_16 : decode cX5_whyKept 16 = .ok (.iconst 1, 1) := by decide +kernel
theorem dX5_whyKept_17 : decode cX5_whyKept 17 = .ok (.ireturn, 1) := by decide +kernel
theorem dX5_whyKept_18 : decode cX5_whyKept 18 = .ok (.aload_n 0, 1) := by decide +kernel
theorem dX5_whyKept_19 : decode cX5_whyKept 19 = .ok (.getfield 12, 3) := by decide +kernel
theorem dX5_whyKept_22 : decode cX5_whyKept 22 = .ok (.getfield 170, 3) := by decide +kernel
theorem dX5_whyKept_25 : decode cX5_whyKept 25 = .ok (.iload_n 1, 1) := by decide +kernel
theorem dX5_whyKept_26 : decode cX5_whyKept 26 = .ok (.invokestatic 88, 3) := by decide +kernel
theorem dX5_whyKept_29 : decode cX5_whyKept 29 = .ok (.ifCond .eq 7, 3) := by decide +kernel
theorem dX5_whyKept_32 : decode cX5_whyKept 32 = .ok (.iconst 2, 1) := by decide +kernel
theorem dX5_whyKept_33 : decode cX5_whyKept 33 = .ok (.goto 4, 3) := by decide +kernel
theorem dX5_whyKept_36 : decode cX5_whyKept 36 = .ok (.iconst 0, 1) := by decide +kernel
theorem dX5_whyKept_37 : decode cX5_whyKept 37 = .ok (.ireturn, 1) := by decide +kernel
theorem dX5_fewestToFree_0 : decode cX5_fewestToFree 0 = .ok (.iload_n 1, 1) := by decide +kernel
theorem dX5_fewestToFree_1 : decode cX5_fewestToFree 1 = .ok (.iconst 1, 1) := by decide +kernel
theorem dX5_fewestToFree_2 : decode cX5_fewestToFree 2 = .ok (.if_icmp .lt 10, 3) := by decide +kernel
theorem dX5_fewestToFree_5 : decode cX5_fewestToFree 5 = .ok (.iload_n 1, 1) := by decide +kernel
theorem dX5_fewestToFree_6 : decode cX5_fewestToFree 6 = .ok (.sipush 999, 3) := by decide +kernel
theorem dX5_fewestToFree_9 : decode cX5_fewestToFree 9 = .ok (.if_icmp .le 6, 3) := by decide +kernel
theorem dX5_fewestToFree_12 : decode cX5_fewestToFree 12 = .ok (.bipush (-2), 2) := by decide +kernel
theorem dX5_fewestToFree_14 : decode cX5_fewestToFree 14 = .ok (.ireturn, 1) := by decide +kernel
theorem dX5_fewestToFree_15 : decode cX5_fewestToFree 15 = .ok (.aload_n 0, 1) := by decide +kernel
theorem dX5_fewestToFree_16 : decode cX5_fewestToFree 16 = .ok (.getfield 33, 3) := by decide +kernel
theorem dX5_fewestToFree_19 : decode cX5_fewestToFree 19 = .ok (.aload_n 0, 1) := by decide +kernel
theorem dX5_fewestToFree_20 : decode cX5_fewestToFree 20 = .ok (.getfield 12, 3) := by decide +kernel
theorem dX5_fewestToFree_23 : decode cX5_fewestToFree 23 = .ok (.iload_n 1, 1) := by decide +kernel
theorem dX5_fewestToFree_24 : decode cX5_fewestToFree 24 = .ok (.invokevirtual 234, 3) := by decide +kernel
theorem dX5_fewestToFree_27 : decode cX5_fewestToFree 27 = .ok (.ireturn, 1) := by decide +kernel
theorem dX5_mostExclusive_0 : decode cX5_mostExclusive 0 = .ok (.iconst (-1), 1) := by decide +kernel
theorem dX5_mostExclusive_1 : decode cX5_mostExclusive 1 = .ok (.istore_n 1, 1) := by decide +kernel
theorem dX5_mostExclusive_2 : decode cX5_mostExclusive 2 = .ok (.iconst 0, 1) := by decide +kernel
theorem dX5_mostExclusive_3 : decode cX5_mostExclusive 3 = .ok (.istore_n 2, 1) := by decide +kernel
theorem dX5_mostExclusive_4 : decode cX5_mostExclusive 4 = .ok (.iconst 0, 1) := by decide +kernel
theorem dX5_mostExclusive_5 : decode cX5_mostExclusive 5 = .ok (.istore_n 3, 1) := by decide +kernel
theorem dX5_mostExclusive_6 : decode cX5_mostExclusive 6 = .ok (.iload_n 3, 1) := by decide +kernel
theorem dX5_mostExclusive_7 : decode cX5_mostExclusive 7 = .ok (.bipush 16, 2) := by decide +kernel
theorem dX5_mostExclusive_9 : decode cX5_mostExclusive 9 = .ok (.if_icmp .ge 36, 3) := by decide +kernel
theorem dX5_mostExclusive_12 : decode cX5_mostExclusive 12 = .ok (.aload_n 0, 1) := by decide +kernel
theorem dX5_mostExclusive_13 : decode cX5_mostExclusive 13 = .ok (.getfield 12, 3) := by decide +kernel
theorem dX5_mostExclusive_16 : decode cX5_mostExclusive 16 = .ok (.getfield 95, 3) := by decide +kernel
theorem dX5_mostExclusive_19 : decode cX5_mostExclusive 19 = .ok (.iload_n 3, 1) := by decide +kernel
theorem dX5_mostExclusive_20 : decode cX5_mostExclusive 20 = .ok (.invokestatic 200, 3) := by decide +kernel
theorem dX5_mostExclusive_23 : decode cX5_mostExclusive 23 = .ok (.invokevirtual 231, 3) := by decide +kernel
theorem dX5_mostExclusive_26 : decode cX5_mostExclusive 26 = .ok (.istore 4, 2) := by decide +kernel
theorem dX5_mostExclusive_28 : decode cX5_mostExclusive 28 = .ok (.iload 4, 2) := by decide +kernel
theorem dX5_mostExclusive_30 : decode cX5_mostExclusive 30 = .ok (.iload_n 2, 1) := by decide +kernel
theorem dX5_mostExclusive_31 : decode cX5_mostExclusive 31 = .ok (.if_icmp .le 8, 3) := by decide +kernel
theorem dX5_mostExclusive_34 : decode cX5_mostExclusive 34 = .ok (.iload 4, 2) := by decide +kernel
theorem dX5_mostExclusive_36 : decode cX5_mostExclusive 36 = .ok (.istore_n 2, 1) := by decide +kernel
theorem dX5_mostExclusive_37 : decode cX5_mostExclusive 37 = .ok (.iload_n 3, 1) := by decide +kernel
theorem dX5_mostExclusive_38 : decode cX5_mostExclusive 38 = .ok (.istore_n 1, 1) := by decide +kernel
theorem dX5_mostExclusive_39 : decode cX5_mostExclusive 39 = .ok (.iinc 3 1, 3) := by decide +kernel
theorem dX5_mostExclusive_42 : decode cX5_mostExclusive 42 = .ok (.goto (-36), 3) := by decide +kernel
theorem dX5_mostExclusive_45 : decode cX5_mostExclusive 45 = .ok (.iload_n 1, 1) := by decide +kernel
theorem dX5_mostExclusive_46 : decode cX5_mostExclusive 46 = .ok (.ireturn, 1) := by decide +kernel
theorem dX5_wouldMove_0 : decode cX5_wouldMove 0 = .ok (.aload_n 0, 1) := by decide +kernel
theorem dX5_wouldMove_1 : decode cX5_wouldMove 1 = .ok (.iload_n 1, 1) := by decide +kernel
theorem dX5_wouldMove_2 : decode cX5_wouldMove 2 = .ok (.invokevirtual 69, 3) := by decide +kernel
theorem dX5_wouldMove_5 : decode cX5_wouldMove 5 = .ok (.aload_n 0, 1) := by decide +kernel
theorem dX5_wouldMove_6 : decode cX5_wouldMove 6 = .ok (.getfield 12, 3) := by decide +kernel
theorem dX5_wouldMove_9 : decode cX5_wouldMove 9 = .ok (.getfield 155, 3) := by decide +kernel
theorem dX5_wouldMove_12 : decode cX5_wouldMove 12 = .ok (.iload_n 1, 1) := by decide +kernel
theorem dX5_wouldMove_13 : decode cX5_wouldMove 13 = .ok (.iaload, 1) := by decide +kernel
theorem dX5_wouldMove_14 : decode cX5_wouldMove 14 = .ok (.istore_n 2, 1) := by decide +kernel
theorem dX5_wouldMove_15 : decode cX5_wouldMove 15 = .ok (.iload_n 2, 1) := by decide +kernel
theorem dX5_wouldMove_16 : decode cX5_wouldMove 16 = .ok (.iconst (-1), 1) := by decide +kernel
theorem dX5_wouldMove_17 : decode cX5_wouldMove 17 = .ok (.if_icmp .ne 7, 3) := by decide +kernel
theorem dX5_wouldMove_20 : decode cX5_wouldMove 20 = .ok (.iconst 0, 1) := by decide +kernel
theorem dX5_wouldMove_21 : decode cX5_wouldMove 21 = .ok (.goto 13, 3) := by decide +kernel
theorem dX5_wouldMove_24 : decode cX5_wouldMove 24 = .ok (.aload_n 0, 1) := by decide +kernel
theorem dX5_wouldMove_25 : decode cX5_wouldMove 25 = .ok (.getfield 12, 3) := by decide +kernel
theorem dX5_wouldMove_28 : decode cX5_wouldMove 28 = .ok (.iload_n 2, 1) := by decide +kernel
theorem dX5_wouldMove_29 : decode cX5_wouldMove 29 = .ok (.invokevirtual 176, 3) := by decide +kernel
theorem dX5_wouldMove_32 : decode cX5_wouldMove 32 = .ok (.iconst 1, 1) := by decide +kernel
theorem dX5_wouldMove_33 : decode cX5_wouldMove 33 = .ok (.iadd, 1) := by decide +kernel
theorem dX5_wouldMove_34 : decode cX5_wouldMove 34 = .ok (.ireturn, 1) := by decide +kernel
theorem dX5_wouldWrite_0 : decode cX5_wouldWrite 0 = .ok (.aload_n 0, 1) := by decide +kernel
theorem dX5_wouldWrite_1 : decode cX5_wouldWrite 1 = .ok (.getfield 12, 3) := by decide +kernel
theorem dX5_wouldWrite_4 : decode cX5_wouldWrite 4 = .ok (.iload_n 1, 1) := by decide +kernel
theorem dX5_wouldWrite_5 : decode cX5_wouldWrite 5 = .ok (.iload_n 2, 1) := by decide +kernel
theorem dX5_wouldWrite_6 : decode cX5_wouldWrite 6 = .ok (.iload_n 3, 1) := by decide +kernel
theorem dX5_wouldWrite_7 : decode cX5_wouldWrite 7 = .ok (.invokevirtual 238, 3) := by decide +kernel
theorem dX5_wouldWrite_10 : decode cX5_wouldWrite 10 = .ok (.ireturn, 1) := by decide +kernel
theorem dX5_sharing_0 : decode cX5_sharing 0 = .ok (.aload_n 0, 1) := by decide +kernel
theorem dX5_sharing_1 : decode cX5_sharing 1 = .ok (.getfield 12, 3) := by decide +kernel
theorem dX5_sharing_4 : decode cX5_sharing 4 = .ok (.getfield 95, 3) := by decide +kernel
theorem dX5_sharing_7 : decode cX5_sharing 7 = .ok (.iconst 0, 1) := by decide +kernel
theorem dX5_sharing_8 : decode cX5_sharing 8 = .ok (.iconst 0, 1) := by decide +kernel
theorem dX5_sharing_9 : decode cX5_sharing 9 = .ok (.iconst 0, 1) := by decide +kernel
theorem dX5_sharing_10 : decode cX5_sharing 10 = .ok (.invokevirtual 216, 3) := by decide +kernel
theorem dX5_sharing_13 : decode cX5_sharing 13 = .ok (.istore_n 1, 1) := by decide +kernel
theorem dX5_sharing_14 : decode cX5_sharing 14 = .ok (.iload_n 1, 1) := by decide +kernel
theorem dX5_sharing_15 : decode cX5_sharing 15 = .ok (.ifCond .ne 5, 3) := by decide +kernel
theorem dX5_sharing_18 : decode cX5_sharing 18 = .ok (.dconst 0, 1) := by decide +kernel
theorem dX5_sharing_19 : decode cX5_sharing 19 = .ok (.dreturn, 1) := by decide +kernel
theorem dX5_sharing_20 : decode cX5_sharing 20 = .ok (.aload_n 0, 1) := by decide +kernel
theorem dX5_sharing_21 : decode cX5_sharing 21 = .ok (.getfield 12, 3) := by decide +kernel
theorem dX5_sharing_24 : decode cX5_sharing 24 = .ok (.getfield 95, 3) := by decide +kernel
theorem dX5_sharing_27 : decode cX5_sharing 27 = .ok (.invokevirtual 241, 3) := by decide +kernel
theorem dX5_sharing_30 : decode cX5_sharing 30 = .ok (.i2d, 1) := by decide +kernel
theorem dX5_sharing_31 : decode cX5_sharing 31 = .ok (.iload_n 1, 1) := by decide +kernel
theorem dX5_sharing_32 : decode cX5_sharing 32 = .ok (.i2d, 1) := by decide +kernel
theorem dX5_sharing_33 : decode cX5_sharing 33 = .ok (.ddiv, 1) := by decide +kernel
theorem dX5_sharing_34 : decode cX5_sharing 34 = .ok (.dreturn, 1) := by decide +kernel
theorem dX5_newVolume_0 : decode cX5_newVolume 0 = .ok (.aload_n 0, 1) := by decide +kernel
theorem dX5_newVolume_1 : decode cX5_newVolume 1 = .ok (.getfield 12, 3) := by decide +kernel
theorem dX5_newVolume_4 : decode cX5_newVolume 4 = .ok (.getfield 116, 3) := by decide +kernel
theorem dX5_newVolume_7 : decode cX5_newVolume 7 = .ok (.bipush 6, 2) := by decide +kernel
theorem dX5_newVolume_9 : decode cX5_newVolume 9 = .ok (.if_icmp .lt 6, 3) := by decide +kernel
theorem dX5_newVolume_12 : decode cX5_newVolume 12 = .ok (.bipush (-3), 2) := by decide +kernel
theorem dX5_newVolume_14 : decode cX5_newVolume 14 = .ok (.ireturn, 1) := by decide +kernel
theorem dX5_newVolume_15 : decode cX5_newVolume 15 = .ok (.aload_n 0, 1) := by decide +kernel
theorem dX5_newVolume_16 : decode cX5_newVolume 16 = .ok (.getfield 19, 3) := by decide +kernel
theorem dX5_newVolume_19 : decode cX5_newVolume 19 = .ok (.aload_n 0, 1) := by decide +kernel
theorem dX5_newVolume_20 : decode cX5_newVolume 20 = .ok (.getfield 12, 3) := by decide +kernel
theorem dX5_newVolume_23 : decode cX5_newVolume 23 = .ok (.invokevirtual 244, 3) := by decide +kernel
theorem dX5_newVolume_26 : decode cX5_newVolume 26 = .ok (.aload_n 0, 1) := by decide +kernel
theorem dX5_newVolume_27 : decode cX5_newVolume 27 = .ok (.getfield 12, 3) := by decide +kernel
theorem dX5_newVolume_30 : decode cX5_newVolume 30 = .ok (.iconst 0, 1) := by decide +kernel
theorem dX5_newVolume_31 : decode cX5_newVolume 31 = .ok (.iconst (-1), 1) := by decide +kernel
theorem dX5_newVolume_32 : decode cX5_newVolume 32 = .ok (.invokevirtual 247, 3) := by decide +kernel
theorem dX5_newVolume_35 : decode cX5_newVolume 35 = .ok (.ireturn, 1) := by decide +kernel
theorem dX5_write_0 : decode cX5_write 0 = .ok (.aload_n 0, 1) := by decide +kernel
theorem dX5_write_1 : decode cX5_write 1 = .ok (.getfield 12, 3) := by decide +kernel
theorem dX5_write_4 : decode cX5_write 4 = .ok (.iload_n 1, 1) := by decide +kernel
theorem dX5_write_5 : decode cX5_write 5 = .ok (.iload_n 2, 1) := by decide +kernel
theorem dX5_write_6 : decode cX5_write 6 = .ok (.iload_n 3, 1) := by decide +kernel
theorem dX5_write_7 : decode cX5_write 7 = .ok (.invokevirtual 238, 3) := by decide +kernel
theorem dX5_write_10 : decode cX5_write 10 = .ok (.istore 4, 2) := by decide +kernel
theorem dX5_write_12 : decode cX5_write 12 = .ok (.iload 4, 2) := by decide +kernel
theorem dX5_write_14 : decode cX5_write 14 = .ok (.ifCond .ge 6, 3) := by decide +kernel
theorem dX5_write_17 : decode cX5_write 17 = .ok (.iload 4, 2) := by decide +kernel
theorem dX5_write_19 : decode cX5_write 19 = .ok (.ireturn, 1) := by decide +kernel
theorem dX5_write_20 : decode cX5_write 20 = .ok (.aload_n 0, 1) := by decide +kernel
theorem dX5_write_21 : decode cX5_write 21 = .ok (.getfield 19, 3) := by decide +kernel
theorem dX5_write_24 : decode cX5_write 24 = .ok (.aload_n 0, 1) := by decide +kernel
theorem dX5_write_25 : decode cX5_write 25 = .ok (.getfield 12, 3) := by decide +kernel
theorem dX5_write_28 : decode cX5_write 28 = .ok (.invokevirtual 244, 3) := by decide +kernel
theorem dX5_write_31 : decode cX5_write 31 = .ok (.aload_n 0, 1) := by decide +kernel
theorem dX5_write_32 : decode cX5_write 32 = .ok (.getfield 12, 3) := by decide +kernel
theorem dX5_write_35 : decode cX5_write 35 = .ok (.iload_n 1, 1) := by decide +kernel
theorem dX5_write_36 : decode cX5_write 36 = .ok (.iload_n 2, 1) := by decide +kernel
theorem dX5_write_37 : decode cX5_write 37 = .ok (.iload_n 3, 1) := by decide +kernel
theorem dX5_write_38 : decode cX5_write 38 = .ok (.invokevirtual 250, 3) := by decide +kernel
theorem dX5_write_41 : decode cX5_write 41 = .ok (.iload 4, 2) := by decide +kernel
theorem dX5_write_43 : decode cX5_write 43 = .ok (.ireturn, 1) := by decide +kernel
theorem dX5_trim_0 : decode cX5_trim 0 = .ok (.aload_n 0, 1) := by decide +kernel
theorem dX5_trim_1 : decode cX5_trim 1 = .ok (.getfield 12, 3) := by decide +kernel
theorem dX5_trim_4 : decode cX5_trim 4 = .ok (.iload_n 1, 1) := by decide +kernel
theorem dX5_trim_5 : decode cX5_trim 5 = .ok (.invokevirtual 254, 3) := by decide +kernel
theorem dX5_trim_8 : decode cX5_trim 8 = .ok (.ifCond .ne 5, 3) := by decide +kernel
theorem dX5_trim_11 : decode cX5_trim 11 = .ok (.iconst (-1), 1) := by decide +kernel
theorem dX5_trim_12 : decode cX5_trim 12 = .ok (.ireturn, 1) := by decide +kernel
theorem dX5_trim_13 : decode cX5_trim 13 = .ok (.iload_n 2, 1) := by decide +kernel
theorem dX5_trim_14 : decode cX5_trim 14 = .ok (.invokestatic 257, 3) := by decide +kernel
theorem dX5_trim_17 : decode cX5_trim 17 = .ok (.ifCond .ne 6, 3) := by decide +kernel
theorem dX5_trim_20 : decode cX5_trim 20 = .ok (.bipush (-2), 2) := by decide +kernel
theorem dX5_trim_22 : decode cX5_trim 22 = .ok (.ireturn, 1) := by decide +kernel
theorem dX5_trim_23 : decode cX5_trim 23 = .ok (.aload_n 0, 1) := by decide +kernel
theorem dX5_trim_24 : decode cX5_trim 24 = .ok (.getfield 12, 3) := by decide +kernel
theorem dX5_trim_27 : decode cX5_trim 27 = .ok (.getfield 95, 3) := by decide +kernel
theorem dX5_trim_30 : decode cX5_trim 30 = .ok (.bipush 16, 2) := by decide +kernel
theorem dX5_trim_32 : decode cX5_trim 32 = .ok (.iload_n 1, 1) := by decide +kernel
theorem dX5_trim_33 : decode cX5_trim 33 = .ok (.iadd, 1) := by decide +kernel
theorem dX5_trim_34 : decode cX5_trim 34 = .ok (.iload_n 2, 1) := by decide +kernel
theorem dX5_trim_35 : decode cX5_trim 35 = .ok (.invokevirtual 99, 3) := by decide +kernel
theorem dX5_trim_38 : decode cX5_trim 38 = .ok (.iconst (-1), 1) := by decide +kernel
theorem dX5_trim_39 : decode cX5_trim 39 = .ok (.if_icmp .ne 6, 3) := by decide +kernel
theorem dX5_trim_42 : decode cX5_trim 42 = .ok (.bipush (-4), 2) := by decide +kernel
theorem dX5_trim_44 : decode cX5_trim 44 = .ok (.ireturn, 1) := by decide +kernel
theorem dX5_trim_45 : decode cX5_trim 45 = .ok (.aload_n 0, 1) := by decide +kernel
theorem dX5_trim_46 : decode cX5_trim 46 = .ok (.getfield 19, 3) := by decide +kernel
theorem dX5_trim_49 : decode cX5_trim 49 = .ok (.aload_n 0, 1) := by decide +kernel
theorem dX5_trim_50 : decode cX5_trim 50 = .ok (.getfield 12, 3) := by decide +kernel
theorem dX5_trim_53 : decode cX5_trim 53 = .ok (.invokevirtual 244, 3) := by decide +kernel
theorem dX5_trim_56 : decode cX5_trim 56 = .ok (.aload_n 0, 1) := by decide +kernel
theorem dX5_trim_57 : decode cX5_trim 57 = .ok (.getfield 12, 3) := by decide +kernel
theorem dX5_trim_60 : decode cX5_trim 60 = .ok (.getfield 95, 3) := by decide +kernel
theorem dX5_trim_63 : decode cX5_trim 63 = .ok (.bipush 16, 2) := by decide +kernel
theorem dX5_trim_65 : decode cX5_trim 65 = .ok (.iload_n 1, 1) := by decide +kernel
theorem dX5_trim_66 : decode cX5_trim 66 = .ok (.iadd, 1) := by decide +kernel
theorem dX5_trim_67 : decode cX5_trim 67 = .ok (.iload_n 2, 1) := by decide +kernel
theorem dX5_trim_68 : decode cX5_trim 68 = .ok (.invokevirtual 260, 3) := by decide +kernel
theorem dX5_trim_71 : decode cX5_trim 71 = .ok (.ireturn, 1) := by decide +kernel
theorem dX5_take_0 : decode cX5_take 0 = .ok (.aload_n 0, 1) := by decide +kernel
theorem dX5_take_1 : decode cX5_take 1 = .ok (.getfield 12, 3) := by decide +kernel
theorem dX5_take_4 : decode cX5_take 4 = .ok (.iload_n 1, 1) := by decide +kernel
theorem dX5_take_5 : decode cX5_take 5 = .ok (.invokevirtual 254, 3) := by decide +kernel
theorem dX5_take_8 : decode cX5_take 8 = .ok (.ifCond .ne 5, 3) := by decide +kernel
theorem dX5_take_11 : decode cX5_take 11 = .ok (.iconst (-1), 1) := by decide +kernel
theorem dX5_take_12 : decode cX5_take 12 = .ok (.ireturn, 1) := by decide +kernel
theorem dX5_take_13 : decode cX5_take 13 = .ok (.aload_n 0, 1) := by decide +kernel
theorem dX5_take_14 : decode cX5_take 14 = .ok (.getfield 12, 3) := by decide +kernel
theorem dX5_take_17 : decode cX5_take 17 = .ok (.getfield 119, 3) := by decide +kernel
theorem dX5_take_20 : decode cX5_take 20 = .ok (.bipush 16, 2) := by decide +kernel
theorem dX5_take_22 : decode cX5_take 22 = .ok (.if_icmp .lt 6, 3) := by decide +kernel
theorem dX5_take_25 : decode cX5_take 25 = .ok (.bipush (-3), 2) := by decide +kernel
theorem dX5_take_27 : decode cX5_take 27 = .ok (.ireturn, 1) := by decide +kernel
theorem dX5_take_28 : decode cX5_take 28 = .ok (.aload_n 0, 1) := by decide +kernel
theorem dX5_take_29 : decode cX5_take 29 = .ok (.getfield 19, 3) := by decide +kernel
theorem dX5_take_32 : decode cX5_take 32 = .ok (.aload_n 0, 1) := by decide +kernel
theorem dX5_take_33 : decode cX5_take 33 = .ok (.getfield 12, 3) := by decide +kernel
theorem dX5_take_36 : decode cX5_take 36 = .ok (.invokevirtual 244, 3) := by decide +kernel
theorem dX5_take_39 : decode cX5_take 39 = .ok (.aload_n 0, 1) := by decide +kernel
theorem dX5_take_40 : decode cX5_take 40 = .ok (.getfield 12, 3) := by decide +kernel
theorem dX5_take_43 : decode cX5_take 43 = .ok (.iconst 0, 1) := by decide +kernel
theorem dX5_take_44 : decode cX5_take 44 = .ok (.iload_n 1, 1) := by decide +kernel
theorem dX5_take_45 : decode cX5_take 45 = .ok (.invokevirtual 263, 3) := by decide +kernel
theorem dX5_take_48 : decode cX5_take 48 = .ok (.ireturn, 1) := by decide +kernel
theorem dX5_clone_0 : decode cX5_clone 0 = .ok (.aload_n 0, 1) := by decide +kernel
theorem dX5_clone_1 : decode cX5_clone 1 = .ok (.getfield 12, 3) := by decide +kernel
theorem dX5_clone_4 : decode cX5_clone 4 = .ok (.iload_n 1, 1) := by decide +kernel
theorem dX5_clone_5 : decode cX5_clone 5 = .ok (.invokevirtual 266, 3) := by decide +kernel
theorem dX5_clone_8 : decode cX5_clone 8 = .ok (.ifCond .ne 5, 3) := by decide +kernel
theorem dX5_clone_11 : decode cX5_clone 11 = .ok (.iconst (-1), 1) := by decide +kernel
theorem dX5_clone_12 : decode cX5_clone 12 = .ok (.ireturn, 1) := by decide +kernel
theorem dX5_clone_13 : decode cX5_clone 13 = .ok (.aload_n 0, 1) := by decide +kernel
theorem dX5_clone_14 : decode cX5_clone 14 = .ok (.getfield 12, 3) := by decide +kernel
theorem dX5_clone_17 : decode cX5_clone 17 = .ok (.getfield 116, 3) := by decide +kernel
theorem dX5_clone_20 : decode cX5_clone 20 = .ok (.bipush 6, 2) := by decide +kernel
theorem dX5_clone_22 : decode cX5_clone 22 = .ok (.if_icmp .lt 6, 3) := by decide +kernel
theorem dX5_clone_25 : decode cX5_clone 25 = .ok (.bipush (-3), 2) := by decide +kernel
theorem dX5_clone_27 : decode cX5_clone 27 = .ok (.ireturn, 1) := by decide +kernel
theorem dX5_clone_28 : decode cX5_clone 28 = .ok (.aload_n 0, 1) := by decide +kernel
theorem dX5_clone_29 : decode cX5_clone 29 = .ok (.getfield 12, 3) := by decide +kernel
theorem dX5_clone_32 : decode cX5_clone 32 = .ok (.iload_n 1, 1) := by decide +kernel
theorem dX5_clone_33 : decode cX5_clone 33 = .ok (.invokevirtual 269, 3) := by decide +kernel
theorem dX5_clone_36 : decode cX5_clone 36 = .ok (.ifCond .ne 6, 3) := by decide +kernel
theorem dX5_clone_39 : decode cX5_clone 39 = .ok (.bipush (-4), 2) := by decide +kernel
theorem dX5_clone_41 : decode cX5_clone 41 = .ok (.ireturn, 1) := by decide +kernel
theorem dX5_clone_42 : decode cX5_clone 42 = .ok (.aload_n 0, 1) := by decide +kernel
theorem dX5_clone_43 : decode cX5_clone 43 = .ok (.getfield 19, 3) := by decide +kernel
theorem dX5_clone_46 : decode cX5_clone 46 = .ok (.aload_n 0, 1) := by decide +kernel
theorem dX5_clone_47 : decode cX5_clone 47 = .ok (.getfield 12, 3) := by decide +kernel
theorem dX5_clone_50 : decode cX5_clone 50 = .ok (.invokevirtual 244, 3) := by decide +kernel
theorem dX5_clone_53 : decode cX5_clone 53 = .ok (.aload_n 0, 1) := by decide +kernel
theorem dX5_clone_54 : decode cX5_clone 54 = .ok (.getfield 12, 3) := by decide +kernel
theorem dX5_clone_57 : decode cX5_clone 57 = .ok (.iconst 0, 1) := by decide +kernel
theorem dX5_clone_58 : decode cX5_clone 58 = .ok (.iload_n 1, 1) := by decide +kernel
theorem dX5_clone_59 : decode cX5_clone 59 = .ok (.invokevirtual 247, 3) := by decide +kernel
theorem dX5_clone_62 : decode cX5_clone 62 = .ok (.ireturn, 1) := by decide +kernel
theorem dX5_promote_0 : decode cX5_promote 0 = .ok (.aload_n 0, 1) := by decide +kernel
theorem dX5_promote_1 : decode cX5_promote 1 = .ok (.getfield 12, 3) := by decide +kernel
theorem dX5_promote_4 : decode cX5_promote 4 = .ok (.iload_n 1, 1) := by decide +kernel
theorem dX5_promote_5 : decode cX5_promote 5 = .ok (.invokevirtual 254, 3) := by decide +kernel
theorem dX5_promote_8 : decode cX5_promote 8 = .ok (.ifCond .ne 5, 3) := by decide +kernel
theorem dX5_promote_11 : decode cX5_promote 11 = .ok (.iconst (-1), 1) := by decide +kernel
theorem dX5_promote_12 : decode cX5_promote 12 = .ok (.ireturn, 1) := by decide +kernel
theorem dX5_promote_13 : decode cX5_promote 13 = .ok (.aload_n 0, 1) := by decide +kernel
theorem dX5_promote_14 : decode cX5_promote 14 = .ok (.getfield 12, 3) := by decide +kernel
theorem dX5_promote_17 : decode cX5_promote 17 = .ok (.getfield 155, 3) := by decide +kernel
theorem dX5_promote_20 : decode cX5_promote 20 = .ok (.iload_n 1, 1) := by decide +kernel
theorem dX5_promote_21 : decode cX5_promote 21 = .ok (.iaload, 1) := by decide +kernel
theorem dX5_promote_22 : decode cX5_promote 22 = .ok (.iconst (-1), 1) := by decide +kernel
theorem dX5_promote_23 : decode cX5_promote 23 = .ok (.if_icmp .ne 6, 3) := by decide +kernel
theorem dX5_promote_26 : decode cX5_promote 26 = .ok (.bipush (-4), 2) := by decide +kernel
theorem dX5_promote_28 : decode cX5_promote 28 = .ok (.ireturn, 1) := by decide +kernel
theorem dX5_promote_29 : decode cX5_promote 29 = .ok (.aload_n 0, 1) := by decide +kernel
theorem dX5_promote_30 : decode cX5_promote 30 = .ok (.getfield 19, 3) := by decide +kernel
theorem dX5_promote_33 : decode cX5_promote 33 = .ok (.aload_n 0, 1) := by decide +kernel
theorem dX5_promote_34 : decode cX5_promote 34 = .ok (.getfield 12, 3) := by decide +kernel
theorem dX5_promote_37 : decode cX5_promote 37 = .ok (.invokevirtual 244, 3) := by decide +kernel
theorem dX5_promote_40 : decode cX5_promote 40 = .ok (.aload_n 0, 1) := by decide +kernel
theorem dX5_promote_41 : decode cX5_promote 41 = .ok (.getfield 12, 3) := by decide +kernel
theorem dX5_promote_44 : decode cX5_promote 44 = .ok (.iload_n 1, 1) := by decide +kernel
theorem dX5_promote_45 : decode cX5_promote 45 = .ok (.invokevirtual 272, 3) := by decide +kernel
theorem dX5_promote_48 : decode cX5_promote 48 = .ok (.ireturn, 1) := by decide +kernel
theorem dX5_destroy_0 : decode cX5_destroy 0 = .ok (.aload_n 0, 1) := by decide +kernel
theorem dX5_destroy_1 : decode cX5_destroy 1 = .ok (.getfield 12, 3) := by decide +kernel
theorem dX5_destroy_4 : decode cX5_destroy 4 = .ok (.iload_n 1, 1) := by decide +kernel
theorem dX5_destroy_5 : decode cX5_destroy 5 = .ok (.invokevirtual 266, 3) := by decide +kernel
theorem dX5_destroy_8 : decode cX5_destroy 8 = .ok (.ifCond .ne 5, 3) := by decide +kernel
theorem dX5_destroy_11 : decode cX5_destroy 11 = .ok (.iconst (-1), 1) := by decide +kernel
theorem dX5_destroy_12 : decode cX5_destroy 12 = .ok (.ireturn, 1) := by decide +kernel
theorem dX5_destroy_13 : decode cX5_destroy 13 = .ok (.aload_n 0, 1) := by decide +kernel
theorem dX5_destroy_14 : decode cX5_destroy 14 = .ok (.iload_n 1, 1) := by decide +kernel
theorem dX5_destroy_15 : decode cX5_destroy 15 = .ok (.invokestatic 200, 3) := by decide +kernel
theorem dX5_destroy_18 : decode cX5_destroy 18 = .ok (.iload_n 1, 1) := by decide +kernel
theorem dX5_destroy_19 : decode cX5_destroy 19 = .ok (.invokestatic 200, 3) := by decide +kernel
theorem dX5_destroy_22 : decode cX5_destroy 22 = .ok (.invokevirtual 275, 3) := by decide +kernel
theorem dX5_destroy_25 : decode cX5_destroy 25 = .ok (.ireturn, 1) := by decide +kernel
theorem dX5_destroySet_0 : decode cX5_destroySet 0 = .ok (.iload_n 1, 1) := by decide +kernel
theorem dX5_destroySet_1 : decode cX5_destroySet 1 = .ok (.ifCond .ne 6, 3) := by decide +kernel
theorem dX5_destroySet_4 : decode cX5_destroySet 4 = .ok (.bipush (-2), 2) := by decide +kernel
theorem dX5_destroySet_6 : decode cX5_destroySet 6 = .ok (.ireturn, 1) := by decide +kernel
theorem dX5_destroySet_7 : decode cX5_destroySet 7 = .ok (.iload_n 1, 1) := by decide +kernel
theorem dX5_destroySet_8 : decode cX5_destroySet 8 = .ok (.aload_n 0, 1) := by decide +kernel
theorem dX5_destroySet_9 : decode cX5_destroySet 9 = .ok (.getfield 12, 3) := by decide +kernel
theorem dX5_destroySet_12 : decode cX5_destroySet 12 = .ok (.invokevirtual 138, 3) := by decide +kernel
theorem dX5_destroySet_15 : decode cX5_destroySet 15 = .ok (.iconst (-1), 1) := by decide +kernel
theorem dX5_destroySet_16 : decode cX5_destroySet 16 = .ok (.ixor, 1) := by decide +kernel
theorem dX5_destroySet_17 : decode cX5_destroySet 17 = .ok (.iand, 1) := by decide +kernel
theorem dX5_destroySet_18 : decode cX5_destroySet 18 = .ok (.ifCond .eq 5, 3) := by decide +kernel
theorem dX5_destroySet_21 : decode cX5_destroySet 21 = .ok (.iconst (-1), 1) := by decide +kernel
theorem dX5_destroySet_22 : decode cX5_destroySet 22 = .ok (.ireturn, 1) := by decide +kernel
theorem dX5_destroySet_23 : decode cX5_destroySet 23 = .ok (.aload_n 0, 1) := by decide +kernel
theorem dX5_destroySet_24 : decode cX5_destroySet 24 = .ok (.iload_n 1, 1) := by decide +kernel
theorem dX5_destroySet_25 : decode cX5_destroySet 25 = .ok (.iload_n 1, 1) := by decide +kernel
theorem dX5_destroySet_26 : decode cX5_destroySet 26 = .ok (.invokevirtual 275, 3) := by decide +kernel
theorem dX5_destroySet_29 : decode cX5_destroySet 29 = .ok (.ireturn, 1) := by decide +kernel
theorem dX5_destroyVolume_0 : decode cX5_destroyVolume 0 = .ok (.aload_n 0, 1) := by decide +kernel
theorem dX5_destroyVolume_1 : decode cX5_destroyVolume 1 = .ok (.getfield 12, 3) := by decide +kernel
theorem dX5_destroyVolume_4 : decode cX5_destroyVolume 4 = .ok (.iload_n 1, 1) := by decide +kernel
theorem dX5_destroyVolume_5 : decode cX5_destroyVolume 5 = .ok (.invokevirtual 254, 3) := by decide +kernel
theorem dX5_destroyVolume_8 : decode cX5_destroyVolume 8 = .ok (.ifCond .ne 5, 3) := by decide +kernel
theorem dX5_destroyVolume_11 : decode cX5_destroyVolume 11 = .ok (.iconst (-1), 1) := by decide +kernel
theorem dX5_destroyVolume_12 : decode cX5_destroyVolume 12 = .ok (.ireturn, 1) := by decide +kernel
theorem dX5_destroyVolume_13 : decode cX5_destroyVolume 13 = .ok (.aload_n 0, 1) := by decide +kernel
theorem dX5_destroyVolume_14 : decode cX5_destroyVolume 14 = .ok (.aload_n 0, 1) := by decide +kernel
theorem dX5_destroyVolume_15 : decode cX5_destroyVolume 15 = .ok (.getfield 12, 3) := by decide +kernel
theorem dX5_destroyVolume_18 : decode cX5_destroyVolume 18 = .ok (.iload_n 1, 1) := by decide +kernel
theorem dX5_destroyVolume_19 : decode cX5_destroyVolume 19 = .ok (.invokevirtual 85, 3) := by decide +kernel
theorem dX5_destroyVolume_22 : decode cX5_destroyVolume 22 = .ok (.aload_n 0, 1) := by decide +kernel
theorem dX5_destroyVolume_23 : decode cX5_destroyVolume 23 = .ok (.getfield 12, 3) := by decide +kernel
theorem dX5_destroyVolume_26 : decode cX5_destroyVolume 26 = .ok (.iload_n 1, 1) := by decide +kernel
theorem dX5_destroyVolume_27 : decode cX5_destroyVolume 27 = .ok (.invokevirtual 219, 3) := by decide +kernel
theorem dX5_destroyVolume_30 : decode cX5_destroyVolume 30 = .ok (.invokevirtual 275, 3) := by decide +kernel
theorem dX5_destroyVolume_33 : decode cX5_destroyVolume 33 = .ok (.ireturn, 1) := by decide +kernel
theorem dX5_rollBack_0 : decode cX5_rollBack 0 = .ok (.aload_n 0, 1) := by decide +kernel
theorem dX5_rollBack_1 : decode cX5_rollBack 1 = .ok (.getfield 12, 3) := by decide +kernel
theorem dX5_rollBack_4 : decode cX5_rollBack 4 = .ok (.iload_n 1, 1) := by decide +kernel
theorem dX5_rollBack_5 : decode cX5_rollBack 5 = .ok (.invokevirtual 266, 3) := by decide +kernel
theorem dX5_rollBack_8 : decode cX5_rollBack 8 = .ok (.ifCond .ne 5, 3) := by decide +kernel
theorem dX5_rollBack_11 : decode cX5_rollBack 11 = .ok (.iconst (-1), 1) := by decide +kernel
theorem dX5_rollBack_12 : decode cX5_rollBack 12 = .ok (.ireturn, 1) := by decide +kernel
theorem dX5_rollBack_13 : decode cX5_rollBack 13 = .ok (.aload_n 0, 1) := by decide +kernel
theorem dX5_rollBack_14 : decode cX5_rollBack 14 = .ok (.getfield 12, 3) := by decide +kernel
theorem dX5_rollBack_17 : decode cX5_rollBack 17 = .ok (.aload_n 0, 1) := by decide +kernel
theorem dX5_rollBack_18 : decode cX5_rollBack 18 = .ok (.getfield 12, 3) := by decide +kernel
theorem dX5_rollBack_21 : decode cX5_rollBack 21 = .ok (.iload_n 1, 1) := by decide +kernel
theorem dX5_rollBack_22 : decode cX5_rollBack 22 = .ok (.invokevirtual 278, 3) := by decide +kernel
theorem dX5_rollBack_25 : decode cX5_rollBack 25 = .ok (.invokevirtual 281, 3) := by decide +kernel
theorem dX5_rollBack_28 : decode cX5_rollBack 28 = .ok (.ifCond .ne 6, 3) := by decide +kernel
theorem dX5_rollBack_31 : decode cX5_rollBack 31 = .ok (.bipush (-4), 2) := by decide +kernel
theorem dX5_rollBack_33 : decode cX5_rollBack 33 = .ok (.ireturn, 1) := by decide +kernel
theorem dX5_rollBack_34 : decode cX5_rollBack 34 = .ok (.aload_n 0, 1) := by decide +kernel
theorem dX5_rollBack_35 : decode cX5_rollBack 35 = .ok (.getfield 19, 3) := by decide +kernel
theorem dX5_rollBack_38 : decode cX5_rollBack 38 = .ok (.aload_n 0, 1) := by decide +kernel
theorem dX5_rollBack_39 : decode cX5_rollBack 39 = .ok (.getfield 12, 3) := by decide +kernel
theorem dX5_rollBack_42 : decode cX5_rollBack 42 = .ok (.invokevirtual 244, 3) := by decide +kernel
theorem dX5_rollBack_45 : decode cX5_rollBack 45 = .ok (.aload_n 0, 1) := by decide +kernel
theorem dX5_rollBack_46 : decode cX5_rollBack 46 = .ok (.getfield 12, 3) := by decide +kernel
theorem dX5_rollBack_49 : decode cX5_rollBack 49 = .ok (.iload_n 1, 1) := by decide +kernel
theorem dX5_rollBack_50 : decode cX5_rollBack 50 = .ok (.invokevirtual 284, 3) := by decide +kernel
theorem dX5_rollBack_53 : decode cX5_rollBack 53 = .ok (.ireturn, 1) := by decide +kernel
theorem dX5_hold_0 : decode cX5_hold 0 = .ok (.aload_n 0, 1) := by decide +kernel
theorem dX5_hold_1 : decode cX5_hold 1 = .ok (.getfield 12, 3) := by decide +kernel
theorem dX5_hold_4 : decode cX5_hold 4 = .ok (.iload_n 1, 1) := by decide +kernel
theorem dX5_hold_5 : decode cX5_hold 5 = .ok (.invokevirtual 266, 3) := by decide +kernel
theorem dX5_hold_8 : decode cX5_hold 8 = .ok (.ifCond .ne 5, 3) := by decide +kernel
theorem dX5_hold_11 : decode cX5_hold 11 = .ok (.iconst (-1), 1) := by decide +kernel
theorem dX5_hold_12 : decode cX5_hold 12 = .ok (.ireturn, 1) := by decide +kernel
theorem dX5_hold_13 : decode cX5_hold 13 = .ok (.aload_n 0, 1) := by decide +kernel
theorem dX5_hold_14 : decode cX5_hold 14 = .ok (.getfield 12, 3) := by decide +kernel
theorem dX5_hold_17 : decode cX5_hold 17 = .ok (.getfield 170, 3) := by decide +kernel
theorem dX5_hold_20 : decode cX5_hold 20 = .ok (.iload_n 1, 1) := by decide +kernel
theorem dX5_hold_21 : decode cX5_hold 21 = .ok (.invokestatic 88, 3) := by decide +kernel
theorem dX5_hold_24 : decode cX5_hold 24 = .ok (.iload_n 2, 1) := by decide +kernel
theorem dX5_hold_25 : decode cX5_hold 25 = .ok (.if_icmp .ne 6, 3) := by decide +kernel
theorem dX5_hold_28 : decode cX5_hold 28 = .ok (.bipush (-4), 2) := by decide +kernel
theorem dX5_hold_30 : decode cX5_hold 30 = .ok (.ireturn, 1) := by decide +kernel
theorem dX5_hold_31 : decode cX5_hold 31 = .ok (.aload_n 0, 1) := by decide +kernel
theorem dX5_hold_32 : decode cX5_hold 32 = .ok (.getfield 19, 3) := by decide +kernel
theorem dX5_hold_35 : decode cX5_hold 35 = .ok (.aload_n 0, 1) := by decide +kernel
theorem dX5_hold_36 : decode cX5_hold 36 = .ok (.getfield 12, 3) := by decide +kernel
theorem dX5_hold_39 : decode cX5_hold 39 = .ok (.invokevirtual 244, 3) := by decide +kernel
theorem dX5_hold_42 : decode cX5_hold 42 = .ok (.aload_n 0, 1) := by decide +kernel
theorem dX5_hold_43 : decode cX5_hold 43 = .ok (.getfield 12, 3) := by decide +kernel
theorem dX5_hold_46 : decode cX5_hold 46 = .ok (.dup, 1) := by decide +kernel
theorem dX5_hold_47 : decode cX5_hold 47 = .ok (.getfield 170, 3) := by decide +kernel
theorem dX5_hold_50 : decode cX5_hold 50 = .ok (.iload_n 1, 1) := by decide +kernel
theorem dX5_hold_51 : decode cX5_hold 51 = .ok (.invokestatic 200, 3) := by decide +kernel
theorem dX5_hold_54 : decode cX5_hold 54 = .ok (.ixor, 1) := by decide +kernel
theorem dX5_hold_55 : decode cX5_hold 55 = .ok (.putfield 170, 3) := by decide +kernel
theorem dX5_hold_58 : decode cX5_hold 58 = .ok (.aload_n 0, 1) := by decide +kernel
theorem dX5_hold_59 : decode cX5_hold 59 = .ok (.getfield 12, 3) := by decide +kernel
theorem dX5_hold_62 : decode cX5_hold 62 = .ok (.getfield 170, 3) := by decide +kernel
theorem dX5_hold_65 : decode cX5_hold 65 = .ok (.invokestatic 133, 3) := by decide +kernel
theorem dX5_hold_68 : decode cX5_hold 68 = .ok (.ireturn, 1) := by decide +kernel
theorem dX5_setQuota_0 : decode cX5_setQuota 0 = .ok (.aload_n 0, 1) := by decide +kernel
theorem dX5_setQuota_1 : decode cX5_setQuota 1 = .ok (.getfield 12, 3) := by decide +kernel
theorem dX5_setQuota_4 : decode cX5_setQuota 4 = .ok (.iload_n 1, 1) := by decide +kernel
theorem dX5_setQuota_5 : decode cX5_setQuota 5 = .ok (.invokevirtual 254, 3) := by decide +kernel
theorem dX5_setQuota_8 : decode cX5_setQuota 8 = .ok (.ifCond .ne 5, 3) := by decide +kernel
theorem dX5_setQuota_11 : decode cX5_setQuota 11 = .ok (.iconst (-1), 1) := by decide +kernel
theorem dX5_setQuota_12 : decode cX5_setQuota 12 = .ok (.ireturn, 1) := by decide +kernel
theorem dX5_setQuota_13 : decode cX5_setQuota 13 = .ok (.iload_n 2, 1) := by decide +kernel
theorem dX5_setQuota_14 : decode cX5_setQuota 14 = .ok (.ifCond .lt 10, 3) := by decide +kernel
theorem dX5_setQuota_17 : decode cX5_setQuota 17 = .ok (.iload_n 2, 1) := by decide +kernel
theorem dX5_setQuota_18 : decode cX5_setQuota 18 = .ok (.sipush 999, 3) := by decide +kernel
theorem dX5_setQuota_21 : decode cX5_setQuota 21 = .ok (.if_icmp .le 6, 3) := by decide +kernel
theorem dX5_setQuota_24 : decode cX5_setQuota 24 = .ok (.bipush (-2), 2) := by decide +kernel
theorem dX5_setQuota_26 : decode cX5_setQuota 26 = .ok (.ireturn, 1) := by decide +kernel
theorem dX5_setQuota_27 : decode cX5_setQuota 27 = .ok (.aload_n 0, 1) := by decide +kernel
theorem dX5_setQuota_28 : decode cX5_setQuota 28 = .ok (.getfield 19, 3) := by decide +kernel
theorem dX5_setQuota_31 : decode cX5_setQuota 31 = .ok (.aload_n 0, 1) := by decide +kernel
theorem dX5_setQuota_32 : decode cX5_setQuota 32 = .ok (.getfield 12, 3) := by decide +kernel
theorem dX5_setQuota_35 : decode cX5_setQuota 35 = .ok (.invokevirtual 244, 3) := by decide +kernel
theorem dX5_setQuota_38 : decode cX5_setQuota 38 = .ok (.aload_n 0, 1) := by decide +kernel
theorem dX5_setQuota_39 : decode cX5_setQuota 39 = .ok (.getfield 12, 3) := by decide +kernel
theorem dX5_setQuota_42 : decode cX5_setQuota 42 = .ok (.getfield 158, 3) := by decide +kernel
theorem dX5_setQuota_45 : decode cX5_setQuota 45 = .ok (.iload_n 1, 1) := by decide +kernel
theorem dX5_setQuota_46 : decode cX5_setQuota 46 = .ok (.iaload, 1) := by decide +kernel
theorem dX5_setQuota_47 : decode cX5_setQuota 47 = .ok (.istore_n 3, 1) := by decide +kernel
theorem dX5_setQuota_48 : decode cX5_setQuota 48 = .ok (.aload_n 0, 1) := by decide +kernel
theorem dX5_setQuota_49 : decode cX5_setQuota 49 = .ok (.getfield 12, 3) := by decide +kernel
theorem dX5_setQuota_52 : decode cX5_setQuota 52 = .ok (.getfield 158, 3) := by decide +kernel
theorem dX5_setQuota_55 : decode cX5_setQuota 55 = .ok (.iload_n 1, 1) := by decide +kernel
theorem dX5_setQuota_56 : decode cX5_setQuota 56 = .ok (.iload_n 2, 1) := by decide +kernel
theorem dX5_setQuota_57 : decode cX5_setQuota 57 = .ok (.iastore, 1) := by decide +kernel
theorem dX5_setQuota_58 : decode cX5_setQuota 58 = .ok (.iload_n 3, 1) := by decide +kernel
theorem dX5_setQuota_59 : decode cX5_setQuota 59 = .ok (.ireturn, 1) := by decide +kernel
theorem dX5_setSetting_0 : decode cX5_setSetting 0 = .ok (.iload_n 1, 1) := by decide +kernel
theorem dX5_setSetting_1 : decode cX5_setSetting 1 = .ok (.ifCond .eq 11, 3) := by decide +kernel
theorem dX5_setSetting_4 : decode cX5_setSetting 4 = .ok (.iload_n 1, 1) := by decide +kernel
theorem dX5_setSetting_5 : decode cX5_setSetting 5 = .ok (.iconst 1, 1) := by decide +kernel
theorem dX5_setSetting_6 : decode cX5_setSetting 6 = .ok (.if_icmp .eq 6, 3) := by decide +kernel
theorem dX5_setSetting_9 : decode cX5_setSetting 9 = .ok (.bipush (-2), 2) := by decide +kernel
theorem dX5_setSetting_11 : decode cX5_setSetting 11 = .ok (.ireturn, 1) := by decide +kernel
theorem dX5_setSetting_12 : decode cX5_setSetting 12 = .ok (.iload_n 2, 1) := by decide +kernel
theorem dX5_setSetting_13 : decode cX5_setSetting 13 = .ok (.iload_n 1, 1) := by decide +kernel
theorem dX5_setSetting_14 : decode cX5_setSetting 14 = .ok (.invokestatic 287, 3) := by decide +kernel
theorem dX5_setSetting_17 : decode cX5_setSetting 17 = .ok (.if_icmp .lt 11, 3) := by decide +kernel
theorem dX5_setSetting_20 : decode cX5_setSetting 20 = .ok (.iload_n 2, 1) := by decide +kernel
theorem dX5_setSetting_21 : decode cX5_setSetting 21 = .ok (.iload_n 1, 1) := by decide +kernel
theorem dX5_setSetting_22 : decode cX5_setSetting 22 = .ok (.invokestatic 290, 3) := by decide +kernel
theorem dX5_setSetting_25 : decode cX5_setSetting 25 = .ok (.if_icmp .le 6, 3) := by decide +kernel
theorem dX5_setSetting_28 : decode cX5_setSetting 28 = .ok (.bipush (-2), 2) := by decide +kernel
theorem dX5_setSetting_30 : decode cX5_setSetting 30 = .ok (.ireturn, 1) := by decide +kernel
theorem dX5_setSetting_31 : decode cX5_setSetting 31 = .ok (.aload_n 0, 1) := by decide +kernel
theorem dX5_setSetting_32 : decode cX5_setSetting 32 = .ok (.getfield 19, 3) := by decide +kernel
theorem dX5_setSetting_35 : decode cX5_setSetting 35 = .ok (.aload_n 0, 1) := by decide +kernel
theorem dX5_setSetting_36 : decode cX5_setSetting 36 = .ok (.getfield 12, 3) := by decide +kernel
theorem dX5_setSetting_39 : decode cX5_setSetting 39 = .ok (.invokevirtual 244, 3) := by decide +kernel
theorem dX5_setSetting_42 : decode cX5_setSetting 42 = .ok (.aload_n 0, 1) := by decide +kernel
theorem dX5_setSetting_43 : decode cX5_setSetting 43 = .ok (.getfield 12, 3) := by decide +kernel
theorem dX5_setSetting_46 : decode cX5_setSetting 46 = .ok (.getfield 148, 3) := by decide +kernel
theorem dX5_setSetting_49 : decode cX5_setSetting 49 = .ok (.iload_n 1, 1) := by decide +kernel
theorem dX5_setSetting_50 : decode cX5_setSetting 50 = .ok (.iaload, 1) := by decide +kernel
theorem dX5_setSetting_51 : decode cX5_setSetting 51 = .ok (.istore_n 3, 1) := by decide +kernel
theorem dX5_setSetting_52 : decode cX5_setSetting 52 = .ok (.aload_n 0, 1) := by decide +kernel
theorem dX5_setSetting_53 : decode cX5_setSetting 53 = .ok (.getfield 12, 3) := by decide +kernel
theorem dX5_setSetting_56 : decode cX5_setSetting 56 = .ok (.getfield 148, 3) := by decide +kernel
theorem dX5_setSetting_59 : decode cX5_setSetting 59 = .ok (.iload_n 1, 1) := by decide +kernel
theorem dX5_setSetting_60 : decode cX5_setSetting 60 = .ok (.iload_n 2, 1) := by decide +kernel
theorem dX5_setSetting_61 : decode cX5_setSetting 61 = .ok (.iastore, 1) := by decide +kernel
theorem dX5_setSetting_62 : decode cX5_setSetting 62 = .ok (.iload_n 3, 1) := by decide +kernel
theorem dX5_setSetting_63 : decode cX5_setSetting 63 = .ok (.ireturn, 1) := by decide +kernel
theorem dX5_undo_0 : decode cX5_undo 0 = .ok (.aload_n 0, 1) := by decide +kernel
theorem dX5_undo_1 : decode cX5_undo 1 = .ok (.getfield 19, 3) := by decide +kernel
theorem dX5_undo_4 : decode cX5_undo 4 = .ok (.getfield 147, 3) := by decide +kernel
theorem dX5_undo_7 : decode cX5_undo 7 = .ok (.ifCond .ne 5, 3) := by decide +kernel
theorem dX5_undo_10 : decode cX5_undo 10 = .ok (.iconst (-1), 1) := by decide +kernel
theorem dX5_undo_11 : decode cX5_undo 11 = .ok (.ireturn, 1) := by decide +kernel
theorem dX5_undo_12 : decode cX5_undo 12 = .ok (.aload_n 0, 1) := by decide +kernel
theorem dX5_undo_13 : decode cX5_undo 13 = .ok (.getfield 19, 3) := by decide +kernel
theorem dX5_undo_16 : decode cX5_undo 16 = .ok (.aload_n 0, 1) := by decide +kernel
theorem dX5_undo_17 : decode cX5_undo 17 = .ok (.getfield 12, 3) := by decide +kernel
theorem dX5_undo_20 : decode cX5_undo 20 = .ok (.invokevirtual 293, 3) := by decide +kernel
theorem dX5_undo_23 : decode cX5_undo 23 = .ok (.aload_n 0, 1) := by decide +kernel
theorem dX5_undo_24 : decode cX5_undo 24 = .ok (.getfield 19, 3) := by decide +kernel
theorem dX5_undo_27 : decode cX5_undo 27 = .ok (.getfield 147, 3) := by decide +kernel
theorem dX5_undo_30 : decode cX5_undo 30 = .ok (.ireturn, 1) := by decide +kernel
theorem dX5_needVersion_0 : decode cX5_needVersion 0 = .ok (.aload_n 0, 1) := by decide +kernel
theorem dX5_needVersion_1 : decode cX5_needVersion 1 = .ok (.getfield 12, 3) := by decide +kernel
theorem dX5_needVersion_4 : decode cX5_needVersion 4 = .ok (.iload_n 1, 1) := by decide +kernel
theorem dX5_needVersion_5 : decode cX5_needVersion 5 = .ok (.invokevirtual 151, 3) := by decide +kernel
theorem dX5_needVersion_8 : decode cX5_needVersion 8 = .ok (.ifCond .ne 14, 3) := by decide +kernel
theorem dX5_needVersion_11 : decode cX5_needVersion 11 = .ok (.new 296, 3) := by decide +kernel
theorem dX5_needVersion_14 : decode cX5_needVersion 14 = .ok (.dup, 1) := by decide +kernel
theorem dX5_needVersion_15 : decode cX5_needVersion 15 = .ok (.ldc_w 298, 3) := by decide +kernel
theorem dX5_needVersion_18 : decode cX5_needVersion 18 = .ok (.invokespecial 300, 3) := by decide +kernel
theorem dX5_needVersion_21 : decode cX5_needVersion 21 = .ok (.athrow, 1) := by decide +kernel
theorem dX5_needVersion_22 : decode cX5_needVersion 22 = .ok (.return_, 1) := by decide +kernel
theorem dX5_needVolume_0 : decode cX5_needVolume 0 = .ok (.aload_n 0, 1) := by decide +kernel
theorem dX5_needVolume_1 : decode cX5_needVolume 1 = .ok (.getfield 12, 3) := by decide +kernel
theorem dX5_needVolume_4 : decode cX5_needVolume 4 = .ok (.iload_n 1, 1) := by decide +kernel
theorem dX5_needVolume_5 : decode cX5_needVolume 5 = .ok (.invokevirtual 254, 3) := by decide +kernel
theorem dX5_needVolume_8 : decode cX5_needVolume 8 = .ok (.ifCond .ne 14, 3) := by decide +kernel
theorem dX5_needVolume_11 : decode cX5_needVolume 11 = .ok (.new 296, 3) := by decide +kernel
theorem dX5_needVolume_14 : decode cX5_needVolume 14 = .ok (.dup, 1) := by decide +kernel
theorem dX5_needVolume_15 : decode cX5_needVolume 15 = .ok (.ldc_w 303, 3) := by decide +kernel
theorem dX5_needVolume_18 : decode cX5_needVolume 18 = .ok (.invokespecial 300, 3) := by decide +kernel
theorem dX5_needVolume_21 : decode cX5_needVolume 21 = .ok (.athrow, 1) := by decide +kernel
theorem dX5_needVolume_22 : decode cX5_needVolume 22 = .ok (.return_, 1) := by decide +kernel
theorem dX5_needSnapshot_0 : decode cX5_needSnapshot 0 = .ok (.aload_n 0, 1) := by decide +kernel
theorem dX5_needSnapshot_1 : decode cX5_needSnapshot 1 = .ok (.getfield 12, 3) := by decide +kernel
theorem dX5_needSnapshot_4 : decode cX5_needSnapshot 4 = .ok (.iload_n 1, 1) := by decide +kernel
theorem dX5_needSnapshot_5 : decode cX5_needSnapshot 5 = .ok (.invokevirtual 266, 3) := by decide +kernel
theorem dX5_needSnapshot_8 : decode cX5_needSnapshot 8 = .ok (.ifCond .ne 14, 3) := by decide +kernel
theorem dX5_needSnapshot_11 : decode cX5_needSnapshot 11 = .ok (.new 296, 3) := by decide +kernel
theorem dX5_needSnapshot_14 : decode cX5_needSnapshot 14 = .ok (.dup, 1) := by decide +kernel
theorem dX5_needSnapshot_15 : decode cX5_needSnapshot 15 = .ok (.ldc_w 305, 3) := by decide +kernel
theorem dX5_needSnapshot_18 : decode cX5_needSnapshot 18 = .ok (.invokespecial 300, 3) := by decide +kernel
theorem dX5_needSnapshot_21 : decode cX5_needSnapshot 21 = .ok (.athrow, 1) := by decide +kernel
theorem dX5_needSnapshot_22 : decode cX5_needSnapshot 22 = .ok (.return_, 1) := by decide +kernel
theorem dX5_needAddress_0 : decode cX5_needAddress 0 = .ok (.iload_n 1, 1) := by decide +kernel
theorem dX5_needAddress_1 : decode cX5_needAddress 1 = .ok (.invokestatic 257, 3) := by decide +kernel
theorem dX5_needAddress_4 : decode cX5_needAddress 4 = .ok (.ifCond .ne 14, 3) := by decide +kernel
theorem dX5_needAddress_7 : decode cX5_needAddress 7 = .ok (.new 296, 3) := by decide +kernel
theorem dX5_needAddress_10 : decode cX5_needAddress 10 = .ok (.dup, 1) := by decide +kernel
theorem dX5_needAddress_11 : decode cX5_needAddress 11 = .ok (.ldc_w 307, 3) := by decide +kernel
theorem dX5_needAddress_14 : decode cX5_needAddress 14 = .ok (.invokespecial 300, 3) := by decide +kernel
theorem dX5_needAddress_17 : decode cX5_needAddress 17 = .ok (.athrow, 1) := by decide +kernel
theorem dX5_needAddress_18 : decode cX5_needAddress 18 = .ok (.return_, 1) := by decide +kernel
theorem dX5_appendName_0 : decode cX5_appendName 0 = .ok (.iload_n 1, 1) := by decide +kernel
theorem dX5_appendName_1 : decode cX5_appendName 1 = .ok (.ifCond .ne 13, 3) := by decide +kernel
theorem dX5_appendName_4 : decode cX5_appendName 4 = .ok (.aload_n 0, 1) := by decide +kernel
theorem dX5_appendName_5 : decode cX5_appendName 5 = .ok (.getfield 40, 3) := by decide +kernel
theorem dX5_appendName_8 : decode cX5_appendName 8 = .ok (.bipush 42, 2) := by decide +kernel
theorem dX5_appendName_10 : decode cX5_appendName 10 = .ok (.invokevirtual 82, 3) := by decide +kernel
theorem dX5_appendName_13 : decode cX5_appendName 13 = .ok (.pop, 1) := by decide +kernel
theorem dX5_appendName_14 : decode cX5_appendName 14 = .ok (.bipush 25, 2) := by decide +kernel
theorem dX5_appendName_16 : decode cX5_appendName 16 = .ok (.istore_n 2, 1) := by decide +kernel
theorem dX5_appendName_17 : decode cX5_appendName 17 = .ok (.iload_n 2, 1) := by decide +kernel
theorem dX5_appendName_18 : decode cX5_appendName 18 = .ok (.ifCond .lt 33, 3) := by decide +kernel
theorem dX5_appendName_21 : decode cX5_appendName 21 = .ok (.iload_n 1, 1) := by decide +kernel
theorem dX5_appendName_22 : decode cX5_appendName 22 = .ok (.iload_n 2, 1) := by decide +kernel
theorem dX5_appendName_23 : decode cX5_appendName 23 = .ok (.iushr, 1) := by decide +kernel
theorem dX5_appendName_24 : decode cX5_appendName 24 = .ok (.bipush 31, 2) := by decide +kernel
theorem dX5_appendName_26 : decode cX5_appendName 26 = .ok (.iand, 1) := by decide +kernel
theorem dX5_appendName_27 : decode cX5_appendName 27 = .ok (.istore_n 3, 1) := by decide +kernel
theorem dX5_appendName_28 : decode cX5_appendName 28 = .ok (.iload_n 3, 1) := by decide +kernel
theorem dX5_appendName_29 : decode cX5_appendName 29 = .ok (.ifCond .eq 16, 3) := by decide +kernel
theorem dX5_appendName_32 : decode cX5_appendName 32 = .ok (.aload_n 0, 1) := by decide +kernel
theorem dX5_appendName_33 : decode cX5_appendName 33 = .ok (.getfield 40, 3) := by decide +kernel
theorem dX5_appendName_36 : decode cX5_appendName 36 = .ok (.bipush 96, 2) := by decide +kernel
theorem dX5_appendName_38 : decode cX5_appendName 38 = .ok (.iload_n 3, 1) := by decide +kernel
theorem dX5_appendName_39 : decode cX5_appendName 39 = .ok (.iadd, 1) := by decide +kernel
theorem dX5_appendName_40 : decode cX5_appendName 40 = .ok (.i2c, 1) := by decide +kernel
theorem dX5_appendName_41 : decode cX5_appendName 41 = .ok (.invokevirtual 82, 3) := by decide +kernel
theorem dX5_appendName_44 : decode cX5_appendName 44 = .ok (.pop, 1) := by decide +kernel
theorem dX5_appendName_45 : decode cX5_appendName 45 = .ok (.iinc 2 (-5), 3) := by decide +kernel
theorem dX5_appendName_48 : decode cX5_appendName 48 = .ok (.goto (-31), 3) := by decide +kernel
theorem dX5_appendName_51 : decode cX5_appendName 51 = .ok (.return_, 1) := by decide +kernel
theorem dX5_appendBirth_0 : decode cX5_appendBirth 0 = .ok (.iload_n 1, 1) := by decide +kernel
theorem dX5_appendBirth_1 : decode cX5_appendBirth 1 = .ok (.iconst (-1), 1) := by decide +kernel
theorem dX5_appendBirth_2 : decode cX5_appendBirth 2 = .ok (.if_icmp .ne 16, 3) := by decide +kernel
theorem dX5_appendBirth_5 : decode cX5_appendBirth 5 = .ok (.aload_n 0, 1) := by decide +kernel
theorem dX5_appendBirth_6 : decode cX5_appendBirth 6 = .ok (.getfield 40, 3) := by decide +kernel
theorem dX5_appendBirth_9 : decode cX5_appendBirth 9 = .ok (.bipush 45, 2) := by decide +kernel
theorem dX5_appendBirth_11 : decode cX5_appendBirth 11 = .ok (.invokevirtual 82, 3) := by decide +kernel
theorem dX5_appendBirth_14 : decode cX5_appendBirth 14 = .ok (.pop, 1) := by decide +kernel
theorem dX5_appendBirth_15 : decode cX5_appendBirth 15 = .ok (.goto 23, 3) := by decide +kernel
theorem dX5_appendBirth_18 : decode cX5_appendBirth 18 = .ok (.aload_n 0, 1) := by decide +kernel
theorem dX5_appendBirth_19 : decode cX5_appendBirth 19 = .ok (.getfield 40, 3) := by decide +kernel
theorem dX5_appendBirth_22 : decode cX5_appendBirth 22 = .ok (.aload_n 0, 1) := by decide +kernel
theorem dX5_appendBirth_23 : decode cX5_appendBirth 23 = .ok (.getfield 12, 3) := by decide +kernel
theorem dX5_appendBirth_26 : decode cX5_appendBirth 26 = .ok (.getfield 95, 3) := by decide +kernel
theorem dX5_appendBirth_29 : decode cX5_appendBirth 29 = .ok (.getfield 197, 3) := by decide +kernel
theorem dX5_appendBirth_32 : decode cX5_appendBirth 32 = .ok (.iload_n 1, 1) := by decide +kernel
theorem dX5_appendBirth_33 : decode cX5_appendBirth 33 = .ok (.iaload, 1) := by decide +kernel
theorem dX5_appendBirth_34 : decode cX5_appendBirth 34 = .ok (.invokevirtual 309, 3) := by decide +kernel
theorem dX5_appendBirth_37 : decode cX5_appendBirth 37 = .ok (.pop, 1) := by decide +kernel
theorem dX5_appendBirth_38 : decode cX5_appendBirth 38 = .ok (.return_, 1) := by decide +kernel
theorem dX5_destroyOrRefuse_0 : decode cX5_destroyOrRefuse 0 = .ok (.aload_n 0, 1) := by decide +kernel
theorem dX5_destroyOrRefuse_1 : decode cX5_destroyOrRefuse 1 = .ok (.getfield 12, 3) := by decide +kernel
theorem dX5_destroyOrRefuse_4 : decode cX5_destroyOrRefuse 4 = .ok (.iload_n 1, 1) := by decide +kernel
theorem dX5_destroyOrRefuse_5 : decode cX5_destroyOrRefuse 5 = .ok (.invokevirtual 281, 3) := by decide +kernel
theorem dX5_destroyOrRefuse_8 : decode cX5_destroyOrRefuse 8 = .ok (.ifCond .ne 6, 3) := by decide +kernel
theorem dX5_destroyOrRefuse_11 : decode cX5_destroyOrRefuse 11 = .ok (.bipush (-4), 2) := by decide +kernel
theorem dX5_destroyOrRefuse_13 : decode cX5_destroyOrRefuse 13 = .ok (.ireturn, 1) := by decide +kernel
theorem dX5_destroyOrRefuse_14 : decode cX5_destroyOrRefuse 14 = .ok (.aload_n 0, 1) := by decide +kernel
theorem dX5_destroyOrRefuse_15 : decode cX5_destroyOrRefuse 15 = .ok (.getfield 19, 3) := by decide +kernel
theorem dX5_destroyOrRefuse_18 : decode cX5_destroyOrRefuse 18 = .ok (.aload_n 0, 1) := by decide +kernel
theorem dX5_destroyOrRefuse_19 : decode cX5_destroyOrRefuse 19 = .ok (.getfield 12, 3) := by decide +kernel
theorem dX5_destroyOrRefuse_22 : decode cX5_destroyOrRefuse 22 = .ok (.invokevirtual 244, 3) := by decide +kernel
theorem dX5_destroyOrRefuse_25 : decode cX5_destroyOrRefuse 25 = .ok (.aload_n 0, 1) := by decide +kernel
theorem dX5_destroyOrRefuse_26 : decode cX5_destroyOrRefuse 26 = .ok (.getfield 12, 3) := by decide +kernel
theorem dX5_destroyOrRefuse_29 : decode cX5_destroyOrRefuse 29 = .ok (.iload_n 2, 1) := by decide +kernel
theorem dX5_destroyOrRefuse_30 : decode cX5_destroyOrRefuse 30 = .ok (.invokevirtual 312, 3) := by decide +kernel
theorem dX5_destroyOrRefuse_33 : decode cX5_destroyOrRefuse 33 = .ok (.ireturn, 1) := by decide +kernel
theorem dX5_isAddress_0 : decode cX5_isAddress 0 = .ok (.iload_n 0, 1) := by decide +kernel
theorem dX5_isAddress_1 : decode cX5_isAddress 1 = .ok (.ifCond .lt 13, 3) := by decide +kernel
theorem dX5_isAddress_4 : decode cX5_isAddress 4 = .ok (.iload_n 0, 1) := by decide +kernel
theorem dX5_isAddress_5 : decode cX5_isAddress 5 = .ok (.bipush 12, 2) := by decide +kernel
theorem dX5_isAddress_7 : decode cX5_isAddress 7 = .ok (.if_icmp .ge 7, 3) := by decide +kernel
theorem dX5_isAddress_10 : decode cX5_isAddress 10 = .ok (.iconst 1, 1) := by decide +kernel
theorem dX5_isAddress_11 : decode cX5_isAddress 11 = .ok (.goto 4, 3) := by decide +kernel
theorem dX5_isAddress_14 : decode cX5_isAddress 14 = .ok (.iconst 0, 1) := by decide +kernel
theorem dX5_isAddress_15 : decode cX5_isAddress 15 = .ok (.ireturn, 1) := by decide +kernel
theorem dX5_lowestValue_0 : decode cX5_lowestValue 0 = .ok (.iload_n 0, 1) := by decide +kernel
theorem dX5_lowestValue_1 : decode cX5_lowestValue 1 = .ok (.ifCond .ne 7, 3) := by decide +kernel
theorem dX5_lowestValue_4 : decode cX5_lowestValue 4 = .ok (.iconst 1, 1) := by decide +kernel
theorem dX5_lowestValue_5 : decode cX5_lowestValue 5 = .ok (.goto 4, 3) := by decide +kernel
theorem dX5_lowestValue_8 : decode cX5_lowestValue 8 = .ok (.iconst 0, 1) := by decide +kernel
theorem dX5_lowestValue_9 : decode cX5_lowestValue 9 = .ok (.ireturn, 1) := by decide +kernel
theorem dX5_highestValue_0 : decode cX5_highestValue 0 = .ok (.iload_n 0, 1) := by decide +kernel
theorem dX5_highestValue_1 : decode cX5_highestValue 1 = .ok (.ifCond .ne 9, 3) := by decide +kernel
theorem dX5_highestValue_4 : decode cX5_highestValue 4 = .ok (.sipush 999, 3) := by decide +kernel
theorem dX5_highestValue_7 : decode cX5_highestValue 7 = .ok (.goto 4, 3) := by decide +kernel
theorem dX5_highestValue_10 : decode cX5_highestValue 10 = .ok (.iconst 5, 1) := by decide +kernel
theorem dX5_highestValue_11 : decode cX5_highestValue 11 = .ok (.ireturn, 1) := by decide +kernel
theorem dX5_bit_0 : decode cX5_bit 0 = .ok (.iconst 1, 1) := by decide +kernel
theorem dX5_bit_1 : decode cX5_bit 1 = .ok (.iload_n 0, 1) := by decide +kernel
theorem dX5_bit_2 : decode cX5_bit 2 = .ok (.ishl, 1) := by decide +kernel
theorem dX5_bit_3 : decode cX5_bit 3 = .ok (.ireturn, 1) := by decide +kernel
theorem dX5_contains_0 : decode cX5_contains 0 = .ok (.iload_n 0, 1) := by decide +kernel
theorem dX5_contains_1 : decode cX5_contains 1 = .ok (.iload_n 1, 1) := by decide +kernel
theorem dX5_contains_2 : decode cX5_contains 2 = .ok (.iushr, 1) := by decide +kernel
theorem dX5_contains_3 : decode cX5_contains 3 = .ok (.iconst 1, 1) := by decide +kernel
theorem dX5_contains_4 : decode cX5_contains 4 = .ok (.iand, 1) := by decide +kernel
theorem dX5_contains_5 : decode cX5_contains 5 = .ok (.ifCond .eq 7, 3) := by decide +kernel
theorem dX5_contains_8 : decode cX5_contains 8 = .ok (.iconst 1, 1) := by decide +kernel
theorem dX5_contains_9 : decode cX5_contains 9 = .ok (.goto 4, 3) := by decide +kernel
theorem dX5_contains_12 : decode cX5_contains 12 = .ok (.iconst 0, 1) := by decide +kernel
theorem dX5_contains_13 : decode cX5_contains 13 = .ok (.ireturn, 1) := by decide +kernel
theorem dX5_snapshotsBefore_0 : decode cX5_snapshotsBefore 0 = .ok (.iload_n 0, 1) := by decide +kernel
theorem dX5_snapshotsBefore_1 : decode cX5_snapshotsBefore 1 = .ok (.bipush 16, 2) := by decide +kernel
theorem dX5_snapshotsBefore_3 : decode cX5_snapshotsBefore 3 = .ok (.if_icmp .ge 7, 3) := by decide +kernel
theorem dX5_snapshotsBefore_6 : decode cX5_snapshotsBefore 6 = .ok (.iload_n 0, 1) := by decide +kernel
theorem dX5_snapshotsBefore_7 : decode cX5_snapshotsBefore 7 = .ok (.goto 5, 3) := by decide +kernel
theorem dX5_snapshotsBefore_10 : decode cX5_snapshotsBefore 10 = .ok (.bipush 16, 2) := by decide +kernel
theorem dX5_snapshotsBefore_12 : decode cX5_snapshotsBefore 12 = .ok (.invokestatic 200, 3) := by decide +kernel
theorem dX5_snapshotsBefore_15 : decode cX5_snapshotsBefore 15 = .ok (.iconst 1, 1) := by decide +kernel
theorem dX5_snapshotsBefore_16 : decode cX5_snapshotsBefore 16 = .ok (.isub, 1) := by decide +kernel
theorem dX5_snapshotsBefore_17 : decode cX5_snapshotsBefore 17 = .ok (.ireturn, 1) := by decide +kernel
theorem dX5_lowest_0 : decode cX5_lowest 0 = .ok (.iconst 0, 1) := by decide +kernel
theorem dX5_lowest_1 : decode cX5_lowest 1 = .ok (.istore_n 1, 1) := by decide +kernel
theorem dX5_lowest_2 : decode cX5_lowest 2 = .ok (.iload_n 1, 1) := by decide +kernel
theorem dX5_lowest_3 : decode cX5_lowest 3 = .ok (.bipush 22, 2) := by decide +kernel
theorem dX5_lowest_5 : decode cX5_lowest 5 = .ok (.if_icmp .ge 19, 3) := by decide +kernel
theorem dX5_lowest_8 : decode cX5_lowest 8 = .ok (.iload_n 0, 1) := by decide +kernel
theorem dX5_lowest_9 : decode cX5_lowest 9 = .ok (.iload_n 1, 1) := by decide +kernel
theorem dX5_lowest_10 : decode cX5_lowest 10 = .ok (.invokestatic 88, 3) := by decide +kernel
theorem dX5_lowest_13 : decode cX5_lowest 13 = .ok (.ifCond .eq 5, 3) := by decide +kernel
theorem dX5_lowest_16 : decode cX5_lowest 16 = .ok (.iload_n 1, 1) := by decide +kernel
theorem dX5_lowest_17 : decode cX5_lowest 17 = .ok (.ireturn, 1) := by decide +kernel
theorem dX5_lowest_18 : decode cX5_lowest 18 = .ok (.iinc 1 1, 3) := by decide +kernel
theorem dX5_lowest_21 : decode cX5_lowest 21 = .ok (.goto (-19), 3) := by decide +kernel
theorem dX5_lowest_24 : decode cX5_lowest 24 = .ok (.iconst (-1), 1) := by decide +kernel
theorem dX5_lowest_25 : decode cX5_lowest 25 = .ok (.ireturn, 1) := by decide +kernel
theorem dX5_highest_0 : decode cX5_highest 0 = .ok (.bipush 21, 2) := by decide +kernel
theorem dX5_highest_2 : decode cX5_highest 2 = .ok (.istore_n 1, 1) := by decide +kernel
theorem dX5_highest_3 : decode cX5_highest 3 = .ok (.iload_n 1, 1) := by decide +kernel
theorem dX5_highest_4 : decode cX5_highest 4 = .ok (.ifCond .lt 19, 3) := by decide +kernel
theorem dX5_highest_7 : decode cX5_highest 7 = .ok (.iload_n 0, 1) := by decide +kernel
theorem dX5_highest_8 : decode cX5_highest 8 = .ok (.iload_n 1, 1) := by decide +kernel
theorem dX5_highest_9 : decode cX5_highest 9 = .ok (.invokestatic 88, 3) := by decide +kernel
theorem dX5_highest_12 : decode cX5_highest 12 = .ok (.ifCond .eq 5, 3) := by decide +kernel
theorem dX5_highest_15 : decode cX5_highest 15 = .ok (.iload_n 1, 1) := by decide +kernel
theorem dX5_highest_16 : decode cX5_highest 16 = .ok (.ireturn, 1) := by decide +kernel
theorem dX5_highest_17 : decode cX5_highest 17 = .ok (.iinc 1 (-1), 3) := by decide +kernel
theorem dX5_highest_20 : decode cX5_highest 20 = .ok (.goto (-17), 3) := by decide +kernel
theorem dX5_highest_23 : decode cX5_highest 23 = .ok (.iconst (-1), 1) := by decide +kernel
theorem dX5_highest_24 : decode cX5_highest 24 = .ok (.ireturn, 1) := by decide +kernel
theorem dX6_init_0 : decode cX6_init 0 = .ok (.aload_n 0, 1) := by decide +kernel
theorem dX6_init_1 : decode cX6_init 1 = .ok (.invokespecial 1, 3) := by decide +kernel
theorem dX6_init_4 : decode cX6_init 4 = .ok (.aload_n 0, 1) := by decide +kernel
theorem dX6_init_5 : decode cX6_init 5 = .ok (.sipush 739, 3) := by decide +kernel
theorem dX6_init_8 : decode cX6_init 8 = .ok (.newarray .int, 2) := by decide +kernel
theorem dX6_init_10 : decode cX6_init 10 = .ok (.putfield 7, 3) := by decide +kernel
theorem dX6_init_13 : decode cX6_init 13 = .ok (.aload_n 0, 1) := by decide +kernel
theorem dX6_init_14 : decode cX6_init 14 = .ok (.sipush 5912, 3) := by decide +kernel
theorem dX6_init_17 : decode cX6_init 17 = .ok (.newarray .int, 2) := by decide +kernel
theorem dX6_init_19 : decode cX6_init 19 = .ok (.putfield 13, 3) := by decide +kernel
theorem dX6_init_22 : decode cX6_init 22 = .ok (.aload_n 0, 1) := by decide +kernel
theorem dX6_init_23 : decode cX6_init 23 = .ok (.aload_n 0, 1) := by decide +kernel
theorem dX6_init_24 : decode cX6_init 24 = .ok (.getfield 7, 3) := by decide +kernel
theorem dX6_init_27 : decode cX6_init 27 = .ok (.putfield 16, 3) := by decide +kernel
theorem dX6_init_30 : decode cX6_init 30 = .ok (.aload_n 0, 1) := by decide +kernel
theorem dX6_init_31 : decode cX6_init 31 = .ok (.sipush 192, 3) := by decide +kernel
theorem dX6_init_34 : decode cX6_init 34 = .ok (.newarray .int, 2) := by decide +kernel
theorem dX6_init_36 : decode cX6_init 36 = .ok (.putfield 19, 3) := by decide +kernel
theorem dX6_init_39 : decode cX6_init 39 = .ok (.aload_n 0, 1) := by decide +kernel
theorem dX6_init_40 : decode cX6_init 40 = .ok (.sipush 192, 3) := by decide +kernel
theorem dX6_init_43 : decode cX6_init 43 = .ok (.newarray .int, 2) := by decide +kernel
theorem dX6_init_45 : decode cX6_init 45 = .ok (.putfield 22, 3) := by decide +kernel
theorem dX6_init_48 : decode cX6_init 48 = .ok (.aload_n 0, 1) := by decide +kernel
theorem dX6_init_49 : decode cX6_init 49 = .ok (.sipush 1000, 3) := by decide +kernel
theorem dX6_init_52 : decode cX6_init 52 = .ok (.newarray .byte, 2) := by decide +kernel
theorem dX6_init_54 : decode cX6_init 54 = .ok (.putfield 25, 3) := by decide +kernel
theorem dX6_init_57 : decode cX6_init 57 = .ok (.aload_n 0, 1) := by decide +kernel
theorem dX6_init_58 : decode cX6_init 58 = .ok (.iconst (-1), 1) := by decide +kernel
theorem dX6_init_59 : decode cX6_init 59 = .ok (.putfield 29, 3) := by decide +kernel
theorem dX6_init_62 : decode cX6_init 62 = .ok (.aload_n 0, 1) := by decide +kernel
theorem dX6_init_63 : decode cX6_init 63 = .ok (.sipush 739, 3) := by decide +kernel
theorem dX6_init_66 : decode cX6_init 66 = .ok (.newarray .int, 2) := by decide +kernel
theorem dX6_init_68 : decode cX6_init 68 = .ok (.putfield 33, 3) := by decide +kernel
theorem dX6_init_71 : decode cX6_init 71 = .ok (.aload_n 0, 1) := by decide +kernel
theorem dX6_init_72 : decode cX6_init 72 = .ok (.sipush 300, 3) := by decide +kernel
theorem dX6_init_75 : decode cX6_init 75 = .ok (.newarray .int, 2) := by decide +kernel
theorem dX6_init_77 : decode cX6_init 77 = .ok (.putfield 36, 3) := by decide +kernel
theorem dX6_init_80 : decode cX6_init 80 = .ok (.aload_n 0, 1) := by decide +kernel
theorem dX6_init_81 : decode cX6_init 81 = .ok (.getfield 7, 3) := by decide +kernel
theorem dX6_init_84 : decode cX6_init 84 = .ok (.invokestatic 39, 3) := by decide +kernel
theorem dX6_init_87 : decode cX6_init 87 = .ok (.return_, 1) := by decide +kernel
theorem dX6_thrown_0 : decode cX6_thrown 0 = .ok (.aload_n 0, 1) := by decide +kernel
theorem dX6_thrown_1 : decode cX6_thrown 1 = .ok (.getfield 43, 3) := by decide +kernel
theorem dX6_thrown_4 : decode cX6_thrown 4 = .ok (.ireturn, 1) := by decide +kernel
theorem dX6_begin_0 : decode cX6_begin 0 = .ok (.iconst 0, 1) := by decide +kernel
theorem dX6_begin_1 : decode cX6_begin 1 = .ok (.istore_n 1, 1) := by decide +kernel
theorem dX6_begin_2 : decode cX6_begin 2 = .ok (.iload_n 1, 1) := by decide +kernel
theorem dX6_begin_3 : decode cX6_begin 3 = .ok (.sipush 739, 3) := by decide +kernel
theorem dX6_begin_6 : decode cX6_begin 6 = .ok (.if_icmp .ge 13, 3) := by decide +kernel
theorem dX6_begin_9 : decode cX6_begin 9 = .ok (.aload_n 0, 1) := by decide +kernel
theorem dX6_begin_10 : decode cX6_begin 10 = .ok (.iload_n 1, 1) := by decide +kernel
theorem dX6_begin_11 : decode cX6_begin 11 = .ok (.iconst 0, 1) := by decide +kernel
theorem dX6_begin_12 : decode cX6_begin 12 = .ok (.iastore, 1) := by decide +kernel
theorem dX6_begin_13 : decode cX6_begin 13 = .ok (.iinc 1 1, 3) := by decide +kernel
theorem dX6_begin_16 : decode cX6_begin 16 = .ok (.goto (-14), 3) := by decide +kernel
theorem dX6_begin_19 : decode cX6_begin 19 = .ok (.aload_n 0, 1) := by decide +kernel
theorem dX6_begin_20 : decode cX6_begin 20 = .ok (.iconst 0, 1) := by decide +kernel
theorem dX6_begin_21 : decode cX6_begin 21 = .ok (.sipush 200, 3) := by decide +kernel
theorem dX6_begin_24 : decode cX6_begin 24 = .ok (.iastore, 1) := by decide +kernel
theorem dX6_begin_25 : decode cX6_begin 25 = .ok (.aload_n 0, 1) := by decide +kernel
theorem dX6_begin_26 : decode cX6_begin 26 = .ok (.iconst 1, 1) := by decide +kernel
theorem dX6_begin_27 : decode cX6_begin 27 = .ok (.iconst 3, 1) := by decide +kernel
theorem dX6_begin_28 : decode cX6_begin 28 = .ok (.iastore, 1) := by decide +kernel
theorem dX6_begin_29 : decode cX6_begin 29 = .ok (.return_, 1) := by decide +kernel
theorem dX6_inRange_0 : decode cX6_inRange 0 = .ok (.iload_n 0, 1) := by decide +kernel
theorem dX6_inRange_1 : decode cX6_inRange 1 = .ok (.iload_n 1, 1) := by decide +kernel
theorem dX6_inRange_2 : decode cX6_inRange 2 = .ok (.if_icmp .lt 12, 3) := by decide +kernel
theorem dX6_inRange_5 : decode cX6_inRange 5 = .ok (.iload_n 0, 1) := by decide +kernel
theorem dX6_inRange_6 : decode cX6_inRange 6 = .ok (.iload_n 2, 1) := by decide +kernel
theorem dX6_inRange_7 : decode cX6_inRange 7 = .ok (.if_icmp .gt 7, 3) := by decide +kernel
theorem dX6_inRange_10 : decode cX6_inRange 10 = .ok (.iconst 1, 1) := by decide +kernel
theorem dX6_inRange_11 : decode cX6_inRange 11 = .ok (.goto 4, 3) := by decide +kernel
theorem dX6_inRange_14 : decode cX6_inRange 14 = .ok (.iconst 0, 1) := by decide +kernel
theorem dX6_inRange_15 : decode cX6_inRange 15 = .ok (.ireturn, 1) := by decide +kernel
theorem dX6_has_0 : decode cX6_has 0 = .ok (.iload_n 0, 1) := by decide +kernel
theorem dX6_has_1 : decode cX6_has 1 = .ok (.iload_n 1, 1) := by decide +kernel
theorem dX6_has_2 : decode cX6_has 2 = .ok (.ishr, 1) := by decide +kernel
theorem dX6_has_3 : decode cX6_has 3 = .ok (.iconst 1, 1) := by decide +kernel
theorem dX6_has_4 : decode cX6_has 4 = .ok (.iand, 1) := by decide +kernel
theorem dX6_has_5 : decode cX6_has 5 = .ok (.iconst 1, 1) := by decide +kernel
theorem dX6_has_6 : decode cX6_has 6 = .ok (.if_icmp .ne 7, 3) := by decide +kernel
theorem dX6_has_9 : decode cX6_has 9 = .ok (.iconst 1, 1) := by decide +kernel
theorem dX6_has_10 : decode cX6_has 10 = .ok (.goto 4, 3) := by decide +kernel
theorem dX6_has_13 : decode cX6_has 13 = .ok (.iconst 0, 1) := by decide +kernel
theorem dX6_has_14 : decode cX6_has 14 = .ok (.ireturn, 1) := by decide +kernel
theorem dX6_fails_0 : decode cX6_fails 0 = .ok (.aload_n 0, 1) := by decide +kernel
theorem dX6_fails_1 : decode cX6_fails 1 = .ok (.iload_n 1, 1) := by decide +kernel
theorem dX6_fails_2 : decode cX6_fails 2 = .ok (.ifCond .eq 7, 3) := by decide +kernel
theorem dX6_fails_5 : decode cX6_fails 5 = .ok (.iconst 0, 1) := by decide +kernel
theorem dX6_fails_6 : decode cX6_fails 6 = .ok (.goto 4, 3) := by decide +kernel
theorem dX6_fails_9 : decode cX6_fails 9 = .ok (.iconst 1, 1) := by decide +kernel
theorem dX6_fails_10 : decode cX6_fails 10 = .ok (.putfield 43, 3) := by decide +kernel
theorem dX6_fails_13 : decode cX6_fails 13 = .ok (.iload_n 1, 1) := by decide +kernel
theorem dX6_fails_14 : decode cX6_fails 14 = .ok (.ifCond .ne 7, 3) := by decide +kernel
theorem dX6_fails_17 : decode cX6_fails 17 = .ok (.iconst 1, 1) := by decide +kernel
theorem dX6_fails_18 : decode cX6_fails 18 = .ok (.goto 4, 3) := by decide +kernel
theorem dX6_fails_21 : decode cX6_fails 21 = .ok (.iconst 0, 1) := by decide +kernel
theorem dX6_fails_22 : decode cX6_fails 22 = .ok (.ireturn, 1) := by decide +kernel
theorem dX6_copy_0 : decode cX6_copy 0 = .ok (.iconst 0, 1) := by decide +kernel
theorem dX6_copy_1 : decode cX6_copy 1 = .ok (.istore 4, 2) := by decide +kernel
theorem dX6_copy_3 : decode cX6_copy 3 = .ok (.iload 4, 2) := by decide +kernel
theorem dX6_copy_5 : decode cX6_copy 5 = .ok (.sipush 739, 3) := by decide +kernel
theorem dX6_copy_8 : decode cX6_copy 8 = .ok (.if_icmp .ge 21, 3) := by decide +kernel
theorem dX6_copy_11 : decode cX6_copy 11 = .ok (.aload_n 2, 1) := by decide +kernel
theorem dX6_copy_12 : decode cX6_copy 12 = .ok (.iload_n 3, 1) := by decide +kernel
theorem dX6_copy_13 : decode cX6_copy 13 = .ok (.iload 4, 2) := by decide +kernel
theorem dX6_copy_15 : decode cX6_copy 15 = .ok (.iadd, 1) := by decide +kernel
theorem dX6_copy_16 : decode cX6_copy 16 = .ok (.aload_n 0, 1) := by decide +kernel
theorem dX6_copy_17 : decode cX6_copy 17 = .ok (.iload_n 1, 1) := by decide +kernel
theorem dX6_copy_18 : decode cX6_copy 18 = .ok (.iload 4, 2) := by decide +kernel
theorem dX6_copy_20 : decode cX6_copy 20 = .ok (.iadd, 1) := by decide +kernel
theorem dX6_copy_21 : decode cX6_copy 21 = .ok (.iaload, 1) := by decide +kernel
theorem dX6_copy_22 : decode cX6_copy 22 = .ok (.iastore, 1) := by decide +kernel
theorem dX6_copy_23 : decode cX6_copy 23 = .ok (.iinc 4 1, 3) := by decide +kernel
theorem dX6_copy_26 : decode cX6_copy 26 = .ok (.goto (-23), 3) := by decide +kernel
theorem dX6_copy_29 : decode cX6_copy 29 = .ok (.return_, 1) := by decide +kernel
theorem dX6_remember_0 : decode cX6_remember 0 = .ok (.aload_n 0, 1) := by decide +kernel
theorem dX6_remember_1 : decode cX6_remember 1 = .ok (.getfield 46, 3) := by decide +kernel
theorem dX6_remember_4 : decode cX6_remember 4 = .ok (.bipush 8, 2) := by decide +kernel
theorem dX6_remember_6 : decode cX6_remember 6 = .ok (.if_icmp .ne 46, 3) := by decide +kernel
theorem dX6_remember_9 : decode cX6_remember 9 = .ok (.sipush 739, 3) := by decide +kernel
theorem dX6_remember_12 : decode cX6_remember 12 = .ok (.istore_n 1, 1) := by decide +kernel
theorem dX6_remember_13 : decode cX6_remember 13 = .ok (.iload_n 1, 1) := by decide +kernel
theorem dX6_remember_14 : decode cX6_remember 14 = .ok (.sipush 5912, 3) := by decide +kernel
theorem dX6_remember_17 : decode cX6_remember 17 = .ok (.if_icmp .ge 25, 3) := by decide +kernel
theorem dX6_remember_20 : decode cX6_remember 20 = .ok (.aload_n 0, 1) := by decide +kernel
theorem dX6_remember_21 : decode cX6_remember 21 = .ok (.getfield 13, 3) := by decide +kernel
theorem dX6_remember_24 : decode cX6_remember 24 = .ok (.iload_n 1, 1) := by decide +kernel
theorem dX6_remember_25 : decode cX6_remember 25 = .ok (.sipush 739, 3) := by decide +kernel
theorem dX6_remember_28 : decode cX6_remember 28 = .ok (.isub, 1) := by decide +kernel
theorem dX6_remember_29 : decode cX6_remember 29 = .ok (.aload_n 0, 1) := by decide +kernel
theorem dX6_remember_30 : decode cX6_remember 30 = .ok (.getfield 13, 3) := by decide +kernel
theorem dX6_remember_33 : decode cX6_remember 33 = .ok (.iload_n 1, 1) := by decide +kernel
theorem dX6_remember_34 : decode cX6_remember 34 = .ok (.iaload, 1) := by decide +kernel
theorem dX6_remember_35 : decode cX6_remember 35 = .ok (.iastore, 1) := by decide +kernel
theorem dX6_remember_36 : decode cX6_remember 36 = .ok (.iinc 1 1, 3) := by decide +kernel
theorem dX6_remember_39 : decode cX6_remember 39 = .ok (.goto (-26), 3) := by decide +kernel
theorem dX6_remember_42 : decode cX6_remember 42 = .ok (.aload_n 0, 1) := by decide +kernel
theorem dX6_remember_43 : decode cX6_remember 43 = .ok (.dup, 1) := by decide +kernel
theorem dX6_remember_44 : decode cX6_remember 44 = .ok (.getfield 46, 3) := by decide +kernel
theorem dX6_remember_47 : decode cX6_remember 47 = .ok (.iconst 1, 1) := by decide +kernel
theorem dX6_remember_48 : decode cX6_remember 48 = .ok (.isub, 1) := by decide +kernel
theorem dX6_remember_49 : decode cX6_remember 49 = .ok (.putfield 46, 3) := by decide +kernel
theorem dX6_remember_52 : decode cX6_remember 52 = .ok (.aload_n 0, 1) := by decide +kernel
theorem dX6_remember_53 : decode cX6_remember 53 = .ok (.getfield 7, 3) := by decide +kernel
theorem dX6_remember_56 : decode cX6_remember 56 = .ok (.iconst 0, 1) := by decide +kernel
theorem dX6_remember_57 : decode cX6_remember 57 = .ok (.aload_n 0, 1) := by decide +kernel
theorem dX6_remember_58 : decode cX6_remember 58 = .ok (.getfield 13, 3) := by decide +kernel
theorem dX6_remember_61 : decode cX6_remember 61 = .ok (.aload_n 0, 1) := by decide +kernel
theorem dX6_remember_62 : decode cX6_remember 62 = .ok (.getfield 46, 3) := by decide +kernel
theorem dX6_remember_65 : decode cX6_remember 65 = .ok (.sipush 739, 3) := by decide +kernel
theorem dX6_remember_68 : decode cX6_remember 68 = .ok (.imul, 1) := by decide +kernel
theorem dX6_remember_69 : decode cX6_remember 69 = .ok (.invokestatic 49, 3) := by decide +kernel
theorem dX6_remember_72 : decode cX6_remember 72 = .ok (.aload_n 0, 1) := by decide +kernel
theorem dX6_remember_73 : decode cX6_remember 73 = .ok (.dup, 1) := by decide +kernel
theorem dX6_remember_74 : decode cX6_remember 74 = .ok (.getfield 46, 3) := by decide +kernel
theorem dX6_remember_77 : decode cX6_remember 77 = .ok (.iconst 1, 1) := by decide +kernel
theorem dX6_remember_78 : decode cX6_remember 78 = .ok (.iadd, 1) := by decide +kernel
theorem dX6_remember_79 : decode cX6_remember 79 = .ok (.putfield 46, 3) := by decide +kernel
theorem dX6_remember_82 : decode cX6_remember 82 = .ok (.return_, 1) := by decide +kernel
theorem dX6_undo_0 : decode cX6_undo 0 = .ok (.aload_n 0, 1) := by decide +kernel
theorem dX6_undo_1 : decode cX6_undo 1 = .ok (.iconst 0, 1) := by decide +kernel
theorem dX6_undo_2 : decode cX6_undo 2 = .ok (.putfield 43, 3) := by decide +kernel
theorem dX6_undo_5 : decode cX6_undo 5 = .ok (.aload_n 0, 1) := by decide +kernel
theorem dX6_undo_6 : decode cX6_undo 6 = .ok (.getfield 46, 3) := by decide +kernel
theorem dX6_undo_9 : decode cX6_undo 9 = .ok (.ifCond .ne 5, 3) := by decide +kernel
theorem dX6_undo_12 : decode cX6_undo 12 = .ok (.iconst (-1), 1) := by decide +kernel
theorem dX6_undo_13 : decode cX6_undo 13 = .ok (.ireturn, 1) := by decide +kernel
theorem dX6_undo_14 : decode cX6_undo 14 = .ok (.aload_n 0, 1) := by decide +kernel
theorem dX6_undo_15 : decode cX6_undo 15 = .ok (.dup, 1) := by decide +kernel
theorem dX6_undo_16 : decode cX6_undo 16 = .ok (.getfield 46, 3) := by decide +kernel
theorem dX6_undo_19 : decode cX6_undo 19 = .ok (.iconst 1, 1) := by decide +kernel
theorem dX6_undo_20 : decode cX6_undo 20 = .ok (.isub, 1) := by decide +kernel
theorem dX6_undo_21 : decode cX6_undo 21 = .ok (.putfield 46, 3) := by decide +kernel
theorem dX6_undo_24 : decode cX6_undo 24 = .ok (.aload_n 0, 1) := by decide +kernel
theorem dX6_undo_25 : decode cX6_undo 25 = .ok (.getfield 13, 3) := by decide +kernel
theorem dX6_undo_28 : decode cX6_undo 28 = .ok (.aload_n 0, 1) := by decide +kernel
theorem dX6_undo_29 : decode cX6_undo 29 = .ok (.getfield 46, 3) := by decide +kernel
theorem dX6_undo_32 : decode cX6_undo 32 = .ok (.sipush 739, 3) := by decide +kernel
theorem dX6_undo_35 : decode cX6_undo 35 = .ok (.imul, 1) := by decide +kernel
theorem dX6_undo_36 : decode cX6_undo 36 = .ok (.aload_n 0, 1) := by decide +kernel
theorem dX6_undo_37 : decode cX6_undo 37 = .ok (.getfield 7, 3) := by decide +kernel
theorem dX6_undo_40 : decode cX6_undo 40 = .ok (.iconst 0, 1) := by decide +kernel
theorem dX6_undo_41 : decode cX6_undo 41 = .ok (.invokestatic 49, 3) := by decide +kernel
theorem dX6_undo_44 : decode cX6_undo 44 = .ok (.aload_n 0, 1) := by decide +kernel
theorem dX6_undo_45 : decode cX6_undo 45 = .ok (.getfield 46, 3) := by decide +kernel
theorem dX6_undo_48 : decode cX6_undo 48 = .ok (.ireturn, 1) := by decide +kernel
theorem dX6_undoCount_0 : decode cX6_undoCount 0 = .ok (.aload_n 0, 1) := by decide +kernel
theorem dX6_undoCount_1 : decode cX6_undoCount 1 = .ok (.iconst 0, 1) := by decide +kernel
theorem dX6_undoCount_2 : decode cX6_undoCount 2 = .ok (.putfield 43, 3) := by decide +kernel
theorem dX6_undoCount_5 : decode cX6_undoCount 5 = .ok (.aload_n 0, 1) := by decide +kernel
theorem dX6_undoCount_6 : decode cX6_undoCount 6 = .ok (.getfield 46, 3) := by decide +kernel
theorem dX6_undoCount_9 : decode cX6_undoCount 9 = .ok (.ireturn, 1) := by decide +kernel
theorem dX6_ofVolume_0 : decode cX6_ofVolume 0 = .ok (.iconst 5, 1) := by decide +kernel
theorem dX6_ofVolume_1 : decode cX6_ofVolume 1 = .ok (.bipush 21, 2) := by decide +kernel
theorem dX6_ofVolume_3 : decode cX6_ofVolume 3 = .ok (.iload_n 0, 1) := by decide +kernel
theorem dX6_ofVolume_4 : decode cX6_ofVolume 4 = .ok (.imul, 1) := by decide +kernel
theorem dX6_ofVolume_5 : decode cX6_ofVolume 5 = .ok (.iadd, 1) := by decide +kernel
theorem dX6_ofVolume_6 : decode cX6_ofVolume 6 = .ok (.iload_n 1, 1) := by decide +kernel
theorem dX6_ofVolume_7 : decode cX6_ofVolume 7 = .ok (.iadd, 1) := by decide +kernel
theorem dX6_ofVolume_8 : decode cX6_ofVolume 8 = .ok (.ireturn, 1) := by decide +kernel
theorem dX6_ofSnapshot_0 : decode cX6_ofSnapshot 0 = .ok (.sipush 131, 3) := by decide +kernel
theorem dX6_ofSnapshot_3 : decode cX6_ofSnapshot 3 = .ok (.iconst 5, 1) := by decide +kernel
theorem dX6_ofSnapshot_4 : decode cX6_ofSnapshot 4 = .ok (.iload_n 0, 1) := by decide +kernel
theorem dX6_ofSnapshot_5 : decode cX6_ofSnapshot 5 = .ok (.imul, 1) := by decide +kernel
theorem dX6_ofSnapshot_6 : decode cX6_ofSnapshot 6 = .ok (.iadd, 1) := by decide +kernel
theorem dX6_ofSnapshot_7 : decode cX6_ofSnapshot 7 = .ok (.iload_n 1, 1) := by decide +kernel
theorem dX6_ofSnapshot_8 : decode cX6_ofSnapshot 8 = .ok (.iadd, 1) := by decide +kernel
theorem dX6_ofSnapshot_9 : decode cX6_ofSnapshot 9 = .ok (.ireturn, 1) := by decide +kernel
theorem dX6_volume_0 : decode cX6_volume 0 = .ok (.aload_n 0, 1) := by decide +kernel
theorem dX6_volume_1 : decode cX6_volume 1 = .ok (.getfield 16, 3) := by decide +kernel
theorem dX6_volume_4 : decode cX6_volume 4 = .ok (.iload_n 1, 1) := by decide +kernel
theorem dX6_volume_5 : decode cX6_volume 5 = .ok (.iload_n 2, 1) := by decide +kernel
theorem dX6_volume_6 : decode cX6_volume 6 = .ok (.invokestatic 53, 3) := by decide +kernel
theorem dX6_volume_9 : decode cX6_volume 9 = .ok (.iaload, 1) := by decide +kernel
theorem dX6_volume_10 : decode cX6_volume 10 = .ok (.ireturn, 1) := by decide +kernel
theorem dX6_snapshot_0 : decode cX6_snapshot 0 = .ok (.aload_n 0, 1) := by decide +kernel
theorem dX6_snapshot_1 : decode cX6_snapshot 1 = .ok (.getfield 16, 3) := by decide +kernel
theorem dX6_snapshot_4 : decode cX6_snapshot 4 = .ok (.iload_n 1, 1) := by decide +kernel
theorem dX6_snapshot_5 : decode cX6_snapshot 5 = .ok (.iload_n 2, 1) := by decide +kernel
theorem dX6_snapshot_6 : decode cX6_snapshot 6 = .ok (.invokestatic 57, 3) := by decide +kernel
theorem dX6_snapshot_9 : decode cX6_snapshot 9 = .ok (.iaload, 1) := by decide +kernel
theorem dX6_snapshot_10 : decode cX6_snapshot 10 = .ok (.ireturn, 1) := by decide +kernel
theorem dX6_isVolume_0 : decode cX6_isVolume 0 = .ok (.iload_n 1, 1) := by decide +kernel
theorem dX6_isVolume_1 : decode cX6_isVolume 1 = .ok (.iconst 0, 1) := by decide +kernel
theorem dX6_isVolume_2 : decode cX6_isVolume 2 = .ok (.iconst 5, 1) := by decide +kernel
theorem dX6_isVolume_3 : decode cX6_isVolume 3 = .ok (.invokestatic 60, 3) := by decide +kernel
theorem dX6_isVolume_6 : decode cX6_isVolume 6 = .ok (.ifCond .eq 17, 3) := by decide +kernel
theorem dX6_isVolume_9 : decode cX6_isVolume 9 = .ok (.aload_n 0, 1) := by decide +kernel
theorem dX6_isVolume_10 : decode cX6_isVolume 10 = .ok (.iload_n 1, 1) := by decide +kernel
theorem dX6_isVolume_11 : decode cX6_isVolume 11 = .ok (.iconst 0, 1) := by decide +kernel
theorem dX6_isVolume_12 : decode cX6_isVolume 12 = .ok (.invokevirtual 64, 3) := by decide +kernel
theorem dX6_isVolume_15 : decode cX6_isVolume 15 = .ok (.iconst 1, 1) := by decide +kernel
theorem dX6_isVolume_16 : decode cX6_isVolume 16 = .ok (.if_icmp .ne 7, 3) := by decide +kernel
theorem dX6_isVolume_19 : decode cX6_isVolume 19 = .ok (.iconst 1, 1) := by decide +kernel
theorem dX6_isVolume_20 : decode cX6_isVolume 20 = .ok (.goto 4, 3) := by decide +kernel
theorem dX6_isVolume_23 : decode cX6_isVolume 23 = .ok (.iconst 0, 1) := by decide +kernel
theorem dX6_isVolume_24 : decode cX6_isVolume 24 = .ok (.ireturn, 1) := by decide +kernel
theorem dX6_isSnapshot_0 : decode cX6_isSnapshot 0 = .ok (.iload_n 1, 1) := by decide +kernel
theorem dX6_isSnapshot_1 : decode cX6_isSnapshot 1 = .ok (.iconst 0, 1) := by decide +kernel
theorem dX6_isSnapshot_2 : decode cX6_isSnapshot 2 = .ok (.bipush 15, 2) := by decide +kernel
theorem dX6_isSnapshot_4 : decode cX6_isSnapshot 4 = .ok (.invokestatic 60, 3) := by decide +kernel
theorem dX6_isSnapshot_7 : decode cX6_isSnapshot 7 = .ok (.ifCond .eq 17, 3) := by decide +kernel
theorem dX6_isSnapshot_10 : decode cX6_isSnapshot 10 = .ok (.aload_n 0, 1) := by decide +kernel
theorem dX6_isSnapshot_11 : decode cX6_isSnapshot 11 = .ok (.iload_n 1, 1) := by decide +kernel
theorem dX6_isSnapshot_12 : decode cX6_isSnapshot 12 = .ok (.iconst 0, 1) := by decide +kernel
theorem dX6_isSnapshot_13 : decode cX6_isSnapshot 13 = .ok (.invokevirtual 67, 3) := by decide +kernel
theorem dX6_isSnapshot_16 : decode cX6_isSnapshot 16 = .ok (.iconst 1, 1) := by decide +kernel
theorem dX6_isSnapshot_17 : decode cX6_isSnapshot 17 = .ok (.if_icmp .ne 7, 3) := by decide +kernel
theorem dX6_isSnapshot_20 : decode cX6_isSnapshot 20 = .ok (.iconst 1, 1) := by decide +kernel
theorem dX6_isSnapshot_21 : decode cX6_isSnapshot 21 = .ok (.goto 4, 3) := by decide +kernel
theorem dX6_isSnapshot_24 : decode cX6_isSnapshot 24 = .ok (.iconst 0, 1) := by decide +kernel
theorem dX6_isSnapshot_25 : decode cX6_isSnapshot 25 = .ok (.ireturn, 1) := by decide +kernel
theorem dX6_isVersion_0 : decode cX6_isVersion 0 = .ok (.iload_n 1, 1) := by decide +kernel
theorem dX6_isVersion_1 : decode cX6_isVersion 1 = .ok (.bipush 16, 2) := by decide +kernel
theorem dX6_isVersion_3 : decode cX6_isVersion 3 = .ok (.if_icmp .ge 11, 3) := by decide +kernel
theorem dX6_isVersion_6 : decode cX6_isVersion 6 = .ok (.aload_n 0, 1) := by decide +kernel
theorem dX6_isVersion_7 : decode cX6_isVersion 7 = .ok (.iload_n 1, 1) := by decide +kernel
theorem dX6_isVersion_8 : decode cX6_isVersion 8 = .ok (.invokevirtual 70, 3) := by decide +kernel
theorem dX6_isVersion_11 : decode cX6_isVersion 11 = .ok (.goto 11, 3) := by decide +kernel
theorem dX6_isVersion_14 : decode cX6_isVersion 14 = .ok (.aload_n 0, 1) := by decide +kernel
theorem dX6_isVersion_15 : decode cX6_isVersion 15 = .ok (.iload_n 1, 1) := by decide +kernel
theorem dX6_isVersion_16 : decode cX6_isVersion 16 = .ok (.bipush 16, 2) := by decide +kernel
theorem dX6_isVersion_18 : decode cX6_isVersion 18 = .ok (.isub, 1) := by decide +kernel
theorem dX6_isVersion_19 : decode cX6_isVersion 19 = .ok (.invokevirtual 74, 3) := by decide +kernel
theorem dX6_isVersion_22 : decode cX6_isVersion 22 = .ok (.ireturn, 1) := by decide +kernel
theorem dX6_birth_0 : decode cX6_birth 0 = .ok (.aload_n 0, 1) := by decide +kernel
theorem dX6_birth_1 : decode cX6_birth 1 = .ok (.getfield 16, 3) := by decide +kernel
theorem dX6_birth_4 : decode cX6_birth 4 = .ok (.sipush 211, 3) := by decide +kernel
theorem dX6_birth_7 : decode cX6_birth 7 = .ok (.bipush 12, 2) := by decide +kernel
theorem dX6_birth_9 : decode cX6_birth 9 = .ok (.iload_n 1, 1) := by decide +kernel
theorem dX6_birth_10 : decode cX6_birth 10 = .ok (.imul, 1) := by decide +kernel
theorem dX6_birth_11 : decode cX6_birth 11 = .ok (.iadd, 1) := by decide +kernel
theorem dX6_birth_12 : decode cX6_birth 12 = .ok (.iload_n 2, 1) := by decide +kernel
theorem dX6_birth_13 : decode cX6_birth 13 = .ok (.iadd, 1) := by decide +kernel
theorem dX6_birth_14 : decode cX6_birth 14 = .ok (.iaload, 1) := by decide +kernel
theorem dX6_birth_15 : decode cX6_birth 15 = .ok (.ireturn, 1) := by decide +kernel
theorem dX6_units_0 : decode cX6_units 0 = .ok (.aload_n 0, 1) := by decide +kernel
theorem dX6_units_1 : decode cX6_units 1 = .ok (.getfield 16, 3) := by decide +kernel
theorem dX6_units_4 : decode cX6_units 4 = .ok (.sipush 475, 3) := by decide +kernel
theorem dX6_units_7 : decode cX6_units 7 = .ok (.bipush 12, 2) := by decide +kernel
theorem dX6_units_9 : decode cX6_units 9 = .ok (.iload_n 1, 1) := by decide +kernel
theorem dX6_units_10 : decode cX6_units 10 = .ok (.imul, 1) := by decide +kernel
theorem dX6_units_11 : decode cX6_units 11 = .ok (.iadd, 1) := by decide +kernel
theorem dX6_units_12 : decode cX6_units 12 = .ok (.iload_n 2, 1) := by decide +kernel
theorem dX6_units_13 : decode cX6_units 13 = .ok (.iadd, 1) := by decide +kernel
theorem dX6_units_14 : decode cX6_units 14 = .ok (.iaload, 1) := by decide +kernel
theorem dX6_units_15 : decode cX6_units 15 = .ok (.ireturn, 1) := by decide +kernel
theorem dX6_isAddress_0 : decode cX6_isAddress 0 = .ok (.iload_n 0, 1) := by decide +kernel
theorem dX6_isAddress_1 : decode cX6_isAddress 1 = .ok (.iconst 0, 1) := by decide +kernel
theorem dX6_isAddress_2 : decode cX6_isAddress 2 = .ok (.bipush 11, 2) := by decide +kernel
theorem dX6_isAddress_4 : decode cX6_isAddress 4 = .ok (.invokestatic 60, 3) := by decide +kernel
theorem dX6_isAddress_7 : decode cX6_isAddress 7 = .ok (.ireturn, 1) := by decide +kernel
theorem dX6_lay_0 : decode cX6_lay 0 = .ok (.aload_n 0, 1) := by decide +kernel
theorem dX6_lay_1 : decode cX6_lay 1 = .ok (.getfield 16, 3) := by decide +kernel
theorem dX6_lay_4 : decode cX6_lay 4 = .ok (.sipush 211, 3) := by decide +kernel
theorem dX6_lay_7 : decode cX6_lay 7 = .ok (.bipush 12, 2) := by decide +kernel
theorem dX6_lay_9 : decode cX6_lay 9 = .ok (.iload_n 1, 1) := by decide +kernel
theorem dX6_lay_10 : decode cX6_lay 10 = .ok (.imul, 1) := by decide +kernel
theorem dX6_lay_11 : decode cX6_lay 11 = .ok (.iadd, 1) := by decide +kernel
theorem dX6_lay_12 : decode cX6_lay 12 = .ok (.iload_n 2, 1) := by decide +kernel
theorem dX6_lay_13 : decode cX6_lay 13 = .ok (.iadd, 1) := by decide +kernel
theorem dX6_lay_14 : decode cX6_lay 14 = .ok (.iload_n 3, 1) := by decide +kernel
theorem dX6_lay_15 : decode cX6_lay 15 = .ok (.iastore, 1) := by decide +kernel
theorem dX6_lay_16 : decode cX6_lay 16 = .ok (.aload_n 0, 1) := by decide +kernel
theorem dX6_lay_17 : decode cX6_lay 17 = .ok (.getfield 16, 3) := by decide +kernel
theorem dX6_lay_20 : decode cX6_lay 20 = .ok (.sipush 475, 3) := by decide +kernel
theorem dX6_lay_23 : decode cX6_lay 23 = .ok (.bipush 12, 2) := by decide +kernel
theorem dX6_lay_25 : decode cX6_lay 25 = .ok (.iload_n 1, 1) := by decide +kernel
theorem dX6_lay_26 : decode cX6_lay 26 = .ok (.imul, 1) := by decide +kernel
theorem dX6_lay_27 : decode cX6_lay 27 = .ok (.iadd, 1) := by decide +kernel
theorem dX6_lay_28 : decode cX6_lay 28 = .ok (.iload_n 2, 1) := by decide +kernel
theorem dX6_lay_29 : decode cX6_lay 29 = .ok (.iadd, 1) := by decide +kernel
theorem dX6_lay_30 : decode cX6_lay 30 = .ok (.iload 4, 2) := by decide +kernel
theorem dX6_lay_32 : decode cX6_lay 32 = .ok (.iastore, 1) := by decide +kernel
theorem dX6_lay_33 : decode cX6_lay 33 = .ok (.return_, 1) := by decide +kernel
theorem dX6_layAll_0 : decode cX6_layAll 0 = .ok (.iconst 0, 1) := by decide +kernel
theorem dX6_layAll_1 : decode cX6_layAll 1 = .ok (.istore_n 3, 1) := by decide +kernel
theorem dX6_layAll_2 : decode cX6_layAll 2 = .ok (.iload_n 3, 1) := by decide +kernel
theorem dX6_layAll_3 : decode cX6_layAll 3 = .ok (.bipush 12, 2) := by decide +kernel
theorem dX6_layAll_5 : decode cX6_layAll 5 = .ok (.if_icmp .ge 27, 3) := by decide +kernel
theorem dX6_layAll_8 : decode cX6_layAll 8 = .ok (.aload_n 0, 1) := by decide +kernel
theorem dX6_layAll_9 : decode cX6_layAll 9 = .ok (.iload_n 1, 1) := by decide +kernel
theorem dX6_layAll_10 : decode cX6_layAll 10 = .ok (.iload_n 3, 1) := by decide +kernel
theorem dX6_layAll_11 : decode cX6_layAll 11 = .ok (.aload_n 0, 1) := by decide +kernel
theorem dX6_layAll_12 : decode cX6_layAll 12 = .ok (.iload_n 2, 1) := by decide +kernel
theorem dX6_layAll_13 : decode cX6_layAll 13 = .ok (.iload_n 3, 1) := by decide +kernel
theorem dX6_layAll_14 : decode cX6_layAll 14 = .ok (.invokevirtual 77, 3) := by decide +kernel
theorem dX6_layAll_17 : decode cX6_layAll 17 = .ok (.aload_n 0, 1) := by decide +kernel
theorem dX6_layAll_18 : decode cX6_layAll 18 = .ok (.iload_n 2, 1) := by decide +kernel
theorem dX6_layAll_19 : decode cX6_layAll 19 = .ok (.iload_n 3, 1) := by decide +kernel
theorem dX6_layAll_20 : decode cX6_layAll 20 = .ok (.invokevirtual 80, 3) := by decide +kernel
theorem dX6_layAll_23 : decode cX6_layAll 23 = .ok (.invokevirtual 83, 3) := by decide +kernel
theorem dX6_layAll_26 : decode cX6_layAll 26 = .ok (.iinc 3 1, 3) := by decide +kernel
theorem dX6_layAll_29 : decode cX6_layAll 29 = .ok (.goto (-27), 3) := by decide +kernel
theorem dX6_layAll_32 : decode cX6_layAll 32 = .ok (.return_, 1) := by decide +kernel
theorem dX6_hasBlock_0 : decode cX6_hasBlock 0 = .ok (.iconst 0, 1) := by decide +kernel
theorem dX6_hasBlock_1 : decode cX6_hasBlock 1 = .ok (.istore_n 3, 1) := by decide +kernel
theorem dX6_hasBlock_2 : decode cX6_hasBlock 2 = .ok (.iload_n 3, 1) := by decide +kernel
theorem dX6_hasBlock_3 : decode cX6_hasBlock 3 = .ok (.bipush 12, 2) := by decide +kernel
theorem dX6_hasBlock_5 : decode cX6_hasBlock 5 = .ok (.if_icmp .ge 21, 3) := by decide +kernel
theorem dX6_hasBlock_8 : decode cX6_hasBlock 8 = .ok (.aload_n 0, 1) := by decide +kernel
theorem dX6_hasBlock_9 : decode cX6_hasBlock 9 = .ok (.iload_n 1, 1) := by decide +kernel
theorem dX6_hasBlock_10 : decode cX6_hasBlock 10 = .ok (.iload_n 3, 1) := by decide +kernel
theorem dX6_hasBlock_11 : decode cX6_hasBlock 11 = .ok (.invokevirtual 77, 3) := by decide +kernel
theorem dX6_hasBlock_14 : decode cX6_hasBlock 14 = .ok (.iload_n 2, 1) := by decide +kernel
theorem dX6_hasBlock_15 : decode cX6_hasBlock 15 = .ok (.if_icmp .ne 5, 3) := by decide +kernel
theorem dX6_hasBlock_18 : decode cX6_hasBlock 18 = .ok (.iconst 1, 1) := by decide +kernel
theorem dX6_hasBlock_19 : decode cX6_hasBlock 19 = .ok (.ireturn, 1) := by decide +kernel
theorem dX6_hasBlock_20 : decode cX6_hasBlock 20 = .ok (.iinc 3 1, 3) := by decide +kernel
theorem dX6_hasBlock_23 : decode cX6_hasBlock 23 = .ok (.goto (-21), 3) := by decide +kernel
theorem dX6_hasBlock_26 : decode cX6_hasBlock 26 = .ok (.iconst 0, 1) := by decide +kernel
theorem dX6_hasBlock_27 : decode cX6_hasBlock 27 = .ok (.ireturn, 1) := by decide +kernel
theorem dX6_holdersOf_0 : decode cX6_holdersOf 0 = .ok (.iconst 0, 1) := by decide +kernel
theorem dX6_holdersOf_1 : decode cX6_holdersOf 1 = .ok (.istore_n 2, 1) := by decide +kernel
theorem dX6_holdersOf_2 : decode cX6_holdersOf 2 = .ok (.iconst 0, 1) := by decide +kernel
theorem dX6_holdersOf_3 : decode cX6_holdersOf 3 = .ok (.istore_n 3, 1) := by decide +kernel
theorem dX6_holdersOf_4 : decode cX6_holdersOf 4 = .ok (.iload_n 3, 1) := by decide +kernel
theorem dX6_holdersOf_5 : decode cX6_holdersOf 5 = .ok (.bipush 22, 2) := by decide +kernel
theorem dX6_holdersOf_7 : decode cX6_holdersOf 7 = .ok (.if_icmp .ge 36, 3) := by decide +kernel
theorem dX6_holdersOf_10 : decode cX6_holdersOf 10 = .ok (.iload_n 2, 1) := by decide +kernel
theorem dX6_holdersOf_11 : decode cX6_holdersOf 11 = .ok (.aload_n 0, 1) := by decide +kernel
theorem dX6_holdersOf_12 : decode cX6_holdersOf 12 = .ok (.iload_n 3, 1) := by decide +kernel
theorem dX6_holdersOf_13 : decode cX6_holdersOf 13 = .ok (.invokevirtual 87, 3) := by decide +kernel
theorem dX6_holdersOf_16 : decode cX6_holdersOf 16 = .ok (.ifCond .eq 18, 3) := by decide +kernel
theorem dX6_holdersOf_19 : decode cX6_holdersOf 19 = .ok (.aload_n 0, 1) := by decide +kernel
theorem dX6_holdersOf_20 : decode cX6_holdersOf 20 = .ok (.iload_n 3, 1) := by decide +kernel
theorem dX6_holdersOf_21 : decode cX6_holdersOf 21 = .ok (.iload_n 1, 1) := by decide +kernel
theorem dX6_holdersOf_22 : decode cX6_holdersOf 22 = .ok (.invokevirtual 90, 3) := by decide +kernel
theorem dX6_holdersOf_25 : decode cX6_holdersOf 25 = .ok (.ifCond .eq 9, 3) := by decide +kernel
theorem dX6_holdersOf_28 : decode cX6_holdersOf 28 = .ok (.iconst 1, 1) := by decide +kernel
theorem dX6_holdersOf_29 : decode cX6_holdersOf 29 = .ok (.iload_n 3, 1) := by decide +kernel
theorem dX6_holdersOf_30 : decode cX6_holdersOf 30 = .ok (.ishl, 1) := by decide +kernel
theorem dX6_holdersOf_31 : decode cX6_holdersOf 31 = .ok (.goto 4, 3) := by decide +kernel
theorem dX6_holdersOf_34 : decode cX6_holdersOf 34 = .ok (.iconst 0, 1) := by decide +kernel
theorem dX6_holdersOf_35 : decode cX6_holdersOf 35 = .ok (.ior, 1) := by decide +kernel
theorem dX6_holdersOf_36 : decode cX6_holdersOf 36 = .ok (.istore_n 2, 1) := by decide +kernel
theorem dX6_holdersOf_37 : decode cX6_holdersOf 37 = .ok (.iinc 3 1, 3) := by decide +kernel
theorem dX6_holdersOf_40 : decode cX6_holdersOf 40 = .ok (.goto (-36), 3) := by decide +kernel
theorem dX6_holdersOf_43 : decode cX6_holdersOf 43 = .ok (.iload_n 2, 1) := by decide +kernel
theorem dX6_holdersOf_44 : decode cX6_holdersOf 44 = .ok (.ireturn, 1) := by decide +kernel
theorem dX6_isFirst_0 : decode cX6_isFirst 0 = .ok (.aload_n 0, 1) := by decide +kernel
theorem dX6_isFirst_1 : decode cX6_isFirst 1 = .ok (.iload_n 2, 1) := by decide +kernel
theorem dX6_isFirst_2 : decode cX6_isFirst 2 = .ok (.invokevirtual 94, 3) := by decide +kernel
theorem dX6_isFirst_5 : decode cX6_isFirst 5 = .ok (.istore_n 3, 1) := by decide +kernel
theorem dX6_isFirst_6 : decode cX6_isFirst 6 = .ok (.iload_n 3, 1) := by decide +kernel
theorem dX6_isFirst_7 : decode cX6_isFirst 7 = .ok (.iconst 1, 1) := by decide +kernel
theorem dX6_isFirst_8 : decode cX6_isFirst 8 = .ok (.iload_n 1, 1) := by decide +kernel
theorem dX6_isFirst_9 : decode cX6_isFirst 9 = .ok (.ishl, 1) := by decide +kernel
theorem dX6_isFirst_10 : decode cX6_isFirst 10 = .ok (.iconst 1, 1) := by decide +kernel
theorem dX6_isFirst_11 : decode cX6_isFirst 11 = .ok (.isub, 1) := by decide +kernel
theorem dX6_isFirst_12 : decode cX6_isFirst 12 = .ok (.iand, 1) := by decide +kernel
theorem dX6_isFirst_13 : decode cX6_isFirst 13 = .ok (.ifCond .ne 7, 3) := by decide +kernel
theorem dX6_isFirst_16 : decode cX6_isFirst 16 = .ok (.iconst 1, 1) := by decide +kernel
theorem dX6_isFirst_17 : decode cX6_isFirst 17 = .ok (.goto 4, 3) := by decide +kernel
theorem dX6_isFirst_20 : decode cX6_isFirst 20 = .ok (.iconst 0, 1) := by decide +kernel
theorem dX6_isFirst_21 : decode cX6_isFirst 21 = .ok (.ireturn, 1) := by decide +kernel
theorem dX6_all_0 : decode cX6_all 0 = .ok (.iconst 0, 1) := by decide +kernel
theorem dX6_all_1 : decode cX6_all 1 = .ok (.istore_n 2, 1) := by decide +kernel
theorem dX6_all_2 : decode cX6_all 2 = .ok (.iconst 0, 1) := by decide +kernel
theorem dX6_all_3 : decode cX6_all 3 = .ok (.istore_n 3, 1) := by decide +kernel
theorem dX6_all_4 : decode cX6_all 4 = .ok (.iload_n 3, 1) := by decide +kernel
theorem dX6_all_5 : decode cX6_all 5 = .ok (.bipush 22, 2) := by decide +kernel
theorem dX6_all_7 : decode cX6_all 7 = .ok (.if_icmp .ge 79, 3) := by decide +kernel
theorem dX6_all_10 : decode cX6_all 10 = .ok (.aload_n 0, 1) := by decide +kernel
theorem dX6_all_11 : decode cX6_all 11 = .ok (.iload_n 3, 1) := by decide +kernel
theorem dX6_all_12 : decode cX6_all 12 = .ok (.invokevirtual 87, 3) := by decide +kernel
theorem dX6_all_15 : decode cX6_all 15 = .ok (.ifCond .ne 6, 3) := by decide +kernel
theorem dX6_all_18 : decode cX6_all 18 = .ok (.goto 62, 3) := by decide +kernel
theorem dX6_all_21 : decode cX6_all 21 = .ok (.iconst 0, 1) := by decide +kernel
theorem dX6_all_22 : decode cX6_all 22 = .ok (.istore 4, 2) := by decide +kernel
theorem dX6_all_24 : decode cX6_all 24 = .ok (.iload 4, 2) := by decide +kernel
theorem dX6_all_26 : decode cX6_all 26 = .ok (.bipush 12, 2) := by decide +kernel
theorem dX6_all_28 : decode cX6_all 28 = .ok (.if_icmp .ge 52, 3) := by decide +kernel
theorem dX6_all_31 : decode cX6_all 31 = .ok (.aload_n 0, 1) := by decide +kernel
theorem dX6_all_32 : decode cX6_all 32 = .ok (.iload_n 3, 1) := by decide +kernel
theorem dX6_all_33 : decode cX6_all 33 = .ok (.iload 4, 2) := by decide +kernel
theorem dX6_all_35 : decode cX6_all 35 = .ok (.invokevirtual 77, 3) := by decide +kernel
theorem dX6_all_38 : decode cX6_all 38 = .ok (.ifCond .eq 36, 3) := by decide +kernel
theorem dX6_all_41 : decode cX6_all 41 = .ok (.aload_n 0, 1) := by decide +kernel
theorem dX6_all_42 : decode cX6_all 42 = .ok (.iload_n 3, 1) := by decide +kernel
theorem dX6_all_43 : decode cX6_all 43 = .ok (.aload_n 0, 1) := by decide +kernel
theorem dX6_all_44 : decode cX6_all 44 = .ok (.iload_n 3, 1) := by decide +kernel
theorem dX6_all_45 : decode cX6_all 45 = .ok (.iload 4, 2) := by decide +kernel
theorem dX6_all_47 : decode cX6_all 47 = .ok (.invokevirtual 77, 3) := by decide +kernel
theorem dX6_all_50 : decode cX6_all 50 = .ok (.invokevirtual 98, 3) := by decide +kernel
theorem dX6_all_53 : decode cX6_all 53 = .ok (.ifCond .eq 21, 3) := by decide +kernel
theorem dX6_all_56 : decode cX6_all 56 = .ok (.iload_n 2, 1) := by decide +kernel
theorem dX6_all_57 : decode cX6_all 57 = .ok (.iload_n 1, 1) := by decide +kernel
theorem dX6_all_58 : decode cX6_all 58 = .ok (.ifCond .eq 13, 3) := by decide +kernel
theorem dX6_all_61 : decode cX6_all 61 = .ok (.aload_n 0, 1) := by decide +kernel
theorem dX6_all_62 : decode cX6_all 62 = .ok (.iload_n 3, 1) := by decide +kernel
theorem dX6_all_63 : decode cX6_all 63 = .ok (.iload 4, 2) := by decide +kernel
theorem dX6_all_65 : decode cX6_all 65 = .ok (.invokevirtual 80, 3) := by decide +kernel
theorem dX6_all_68 : decode cX6_all 68 = .ok (.goto 4, 3) := by decide +kernel
theorem dX6_all_71 : decode cX6_all 71 = .ok (.iconst 1, 1) := by decide +kernel
theorem dX6_all_72 : decode cX6_all 72 = .ok (.iadd, 1) := by decide +kernel
theorem dX6_all_73 : decode cX6_all 73 = .ok (.istore_n 2, 1) := by decide +kernel
theorem dX6_all_74 : decode cX6_all 74 = .ok (.iinc 4 1, 3) := by decide +kernel
theorem dX6_all_77 : decode cX6_all 77 = .ok (.goto (-53), 3) := by decide +kernel
theorem dX6_all_80 : decode cX6_all 80 = .ok (.iinc 3 1, 3) := by decide +kernel
theorem dX6_all_83 : decode cX6_all 83 = .ok (.goto (-79), 3) := by decide +kernel
theorem dX6_all_86 : decode cX6_all 86 = .ok (.iload_n 2, 1) := by decide +kernel
theorem dX6_all_87 : decode cX6_all 87 = .ok (.ireturn, 1) := by decide +kernel
theorem dX6_sum_0 : decode cX6_sum 0 = .ok (.iconst 0, 1) := by decide +kernel
theorem dX6_sum_1 : decode cX6_sum 1 = .ok (.istore_n 2, 1) := by decide +kernel
theorem dX6_sum_2 : decode cX6_sum 2 = .ok (.iconst 0, 1) := by decide +kernel
theorem dX6_sum_3 : decode cX6_sum 3 = .ok (.istore_n 3, 1) := by decide +kernel
theorem dX6_sum_4 : decode cX6_sum 4 = .ok (.iload_n 3, 1) := by decide +kernel
theorem dX6_sum_5 : decode cX6_sum 5 = .ok (.bipush 12, 2) := by decide +kernel
theorem dX6_sum_7 : decode cX6_sum 7 = .ok (.if_icmp .ge 18, 3) := by decide +kernel
theorem dX6_sum_10 : decode cX6_sum 10 = .ok (.iload_n 2, 1) := by decide +kernel
theorem dX6_sum_11 : decode cX6_sum 11 = .ok (.aload_n 0, 1) := by decide +kernel
theorem dX6_sum_12 : decode cX6_sum 12 = .ok (.iload_n 1, 1) := by decide +kernel
theorem dX6_sum_13 : decode cX6_sum 13 = .ok (.iload_n 3, 1) := by decide +kernel
theorem dX6_sum_14 : decode cX6_sum 14 = .ok (.invokevirtual 80, 3) := by decide +kernel
theorem dX6_sum_17 : decode cX6_sum 17 = .ok (.iadd, 1) := by decide +kernel
theorem dX6_sum_18 : decode cX6_sum 18 = .ok (.istore_n 2, 1) := by decide +kernel
theorem dX6_sum_19 : decode cX6_sum 19 = .ok (.iinc 3 1, 3) := by decide +kernel
theorem dX6_sum_22 : decode cX6_sum 22 = .ok (.goto (-18), 3) := by decide +kernel
theorem dX6_sum_25 : decode cX6_sum 25 = .ok (.iload_n 2, 1) := by decide +kernel
theorem dX6_sum_26 : decode cX6_sum 26 = .ok (.ireturn, 1) := by decide +kernel
theorem dX6_heldBy_0 : decode cX6_heldBy 0 = .ok (.iconst 0, 1) := by decide +kernel
theorem dX6_heldBy_1 : decode cX6_heldBy 1 = .ok (.istore_n 2, 1) := by decide +kernel
theorem dX6_heldBy_2 : decode cX6_heldBy 2 = .ok (.iconst 0, 1) := by decide +kernel
theorem dX6_heldBy_3 : decode cX6_heldBy 3 = .ok (.istore_n 3, 1) := by decide +kernel
theorem dX6_heldBy_4 : decode cX6_heldBy 4 = .ok (.iload_n 3, 1) := by decide +kernel
theorem dX6_heldBy_5 : decode cX6_heldBy 5 = .ok (.bipush 22, 2) := by decide +kernel
theorem dX6_heldBy_7 : decode cX6_heldBy 7 = .ok (.if_icmp .ge 104, 3) := by decide +kernel
theorem dX6_heldBy_10 : decode cX6_heldBy 10 = .ok (.iload_n 1, 1) := by decide +kernel
theorem dX6_heldBy_11 : decode cX6_heldBy 11 = .ok (.iload_n 3, 1) := by decide +kernel
theorem dX6_heldBy_12 : decode cX6_heldBy 12 = .ok (.invokestatic 101, 3) := by decide +kernel
theorem dX6_heldBy_15 : decode cX6_heldBy 15 = .ok (.ifCond .eq 90, 3) := by decide +kernel
theorem dX6_heldBy_18 : decode cX6_heldBy 18 = .ok (.aload_n 0, 1) := by decide +kernel
theorem dX6_heldBy_19 : decode cX6_heldBy 19 = .ok (.iload_n 3, 1) := by decide +kernel
theorem dX6_heldBy_20 : decode cX6_heldBy 20 = .ok (.invokevirtual 87, 3) := by decide +kernel
theorem dX6_heldBy_23 : decode cX6_heldBy 23 = .ok (.ifCond .ne 6, 3) := by decide +kernel
theorem dX6_heldBy_26 : decode cX6_heldBy 26 = .ok (.goto 79, 3) := by decide +kernel
theorem dX6_heldBy_29 : decode cX6_heldBy 29 = .ok (.iconst 0, 1) := by decide +kernel
theorem dX6_heldBy_30 : decode cX6_heldBy 30 = .ok (.istore 4, 2) := by decide +kernel
theorem dX6_heldBy_32 : decode cX6_heldBy 32 = .ok (.iload 4, 2) := by decide +kernel
theorem dX6_heldBy_34 : decode cX6_heldBy 34 = .ok (.bipush 12, 2) := by decide +kernel
theorem dX6_heldBy_36 : decode cX6_heldBy 36 = .ok (.if_icmp .ge 69, 3) := by decide +kernel
theorem dX6_heldBy_39 : decode cX6_heldBy 39 = .ok (.aload_n 0, 1) := by decide +kernel
theorem dX6_heldBy_40 : decode cX6_heldBy 40 = .ok (.iload_n 3, 1) := by decide +kernel
theorem dX6_heldBy_41 : decode cX6_heldBy 41 = .ok (.iload 4, 2) := by decide +kernel
theorem dX6_heldBy_43 : decode cX6_heldBy 43 = .ok (.invokevirtual 77, 3) := by decide +kernel
theorem dX6_heldBy_46 : decode cX6_heldBy 46 = .ok (.ifCond .eq 53, 3) := by decide +kernel
theorem dX6_heldBy_49 : decode cX6_heldBy 49 = .ok (.aload_n 0, 1) := by decide +kernel
theorem dX6_heldBy_50 : decode cX6_heldBy 50 = .ok (.iload_n 3, 1) := by decide +kernel
theorem dX6_heldBy_51 : decode cX6_heldBy 51 = .ok (.aload_n 0, 1) := by decide +kernel
theorem dX6_heldBy_52 : decode cX6_heldBy 52 = .ok (.iload_n 3, 1) := by decide +kernel
theorem dX6_heldBy_53 : decode cX6_heldBy 53 = .ok (.iload 4, 2) := by decide +kernel
theorem dX6_heldBy_55 : decode cX6_heldBy 55 = .ok (.invokevirtual 77, 3) := by decide +kernel
theorem dX6_heldBy_58 : decode cX6_heldBy 58 = .ok (.invokevirtual 98, 3) := by decide +kernel
theorem dX6_heldBy_61 : decode cX6_heldBy 61 = .ok (.ifCond .ne 6, 3) := by decide +kernel
theorem dX6_heldBy_64 : decode cX6_heldBy 64 = .ok (.goto 35, 3) := by decide +kernel
theorem dX6_heldBy_67 : decode cX6_heldBy 67 = .ok (.iload_n 2, 1) := by decide +kernel
theorem dX6_heldBy_68 : decode cX6_heldBy 68 = .ok (.aload_n 0, 1) := by decide +kernel
theorem dX6_heldBy_69 : decode cX6_heldBy 69 = .ok (.aload_n 0, 1) := by decide +kernel
theorem dX6_heldBy_70 : decode cX6_heldBy 70 = .ok (.iload_n 3, 1) := by decide +kernel
theorem dX6_heldBy_71 : decode cX6_heldBy 71 = .ok (.iload 4, 2) := by decide +kernel
theorem dX6_heldBy_73 : decode cX6_heldBy 73 = .ok (.invokevirtual 77, 3) := by decide +kernel
theorem dX6_heldBy_76 : decode cX6_heldBy 76 = .ok (.invokevirtual 94, 3) := by decide +kernel
theorem dX6_heldBy_79 : decode cX6_heldBy 79 = .ok (.iload_n 1, 1) := by decide +kernel
theorem dX6_heldBy_80 : decode cX6_heldBy 80 = .ok (.iconst (-1), 1) := by decide +kernel
theorem dX6_heldBy_81 : decode cX6_heldBy 81 = .ok (.ixor, 1) := by decide +kernel
theorem dX6_heldBy_82 : decode cX6_heldBy 82 = .ok (.iand, 1) := by decide +kernel
theorem dX6_heldBy_83 : decode cX6_heldBy 83 = .ok (.ifCond .ne 13, 3) := by decide +kernel
theorem dX6_heldBy_86 : decode cX6_heldBy 86 = .ok (.aload_n 0, 1) := by decide +kernel
theorem dX6_heldBy_87 : decode cX6_heldBy 87 = .ok (.iload_n 3, 1) := by decide +kernel
theorem dX6_heldBy_88 : decode cX6_heldBy 88 = .ok (.iload 4, 2) := by decide +kernel
theorem dX6_heldBy_90 : decode cX6_heldBy 90 = .ok (.invokevirtual 80, 3) := by decide +kernel
theorem dX6_heldBy_93 : decode cX6_heldBy 93 = .ok (.goto 4, 3) := by decide +kernel
theorem dX6_heldBy_96 : decode cX6_heldBy 96 = .ok (.iconst 0, 1) := by decide +kernel
theorem dX6_heldBy_97 : decode cX6_heldBy 97 = .ok (.iadd, 1) := by decide +kernel
theorem dX6_heldBy_98 : decode cX6_heldBy 98 = .ok (.istore_n 2, 1) := by decide +kernel
theorem dX6_heldBy_99 : decode cX6_heldBy 99 = .ok (.iinc 4 1, 3) := by decide +kernel
theorem dX6_heldBy_102 : decode cX6_heldBy 102 = .ok (.goto (-70), 3) := by decide +kernel
theorem dX6_heldBy_105 : decode cX6_heldBy 105 = .ok (.iinc 3 1, 3) := by decide +kernel
theorem dX6_heldBy_108 : decode cX6_heldBy 108 = .ok (.goto (-104), 3) := by decide +kernel
theorem dX6_heldBy_111 : decode cX6_heldBy 111 = .ok (.iload_n 2, 1) := by decide +kernel
theorem dX6_heldBy_112 : decode cX6_heldBy 112 = .ok (.ireturn, 1) := by decide +kernel
theorem dX6_placeOf_0 : decode cX6_placeOf 0 = .ok (.aload_n 0, 1) := by decide +kernel
theorem dX6_placeOf_1 : decode cX6_placeOf 1 = .ok (.iload_n 1, 1) := by decide +kernel
theorem dX6_placeOf_2 : decode cX6_placeOf 2 = .ok (.iconst 1, 1) := by decide +kernel
theorem dX6_placeOf_3 : decode cX6_placeOf 3 = .ok (.invokevirtual 67, 3) := by decide +kernel
theorem dX6_placeOf_6 : decode cX6_placeOf 6 = .ok (.istore_n 2, 1) := by decide +kernel
theorem dX6_placeOf_7 : decode cX6_placeOf 7 = .ok (.iconst 0, 1) := by decide +kernel
theorem dX6_placeOf_8 : decode cX6_placeOf 8 = .ok (.istore_n 3, 1) := by decide +kernel
theorem dX6_placeOf_9 : decode cX6_placeOf 9 = .ok (.aload_n 0, 1) := by decide +kernel
theorem dX6_placeOf_10 : decode cX6_placeOf 10 = .ok (.iload_n 2, 1) := by decide +kernel
theorem dX6_placeOf_11 : decode cX6_placeOf 11 = .ok (.iconst 5, 1) := by decide +kernel
theorem dX6_placeOf_12 : decode cX6_placeOf 12 = .ok (.iload_n 3, 1) := by decide +kernel
theorem dX6_placeOf_13 : decode cX6_placeOf 13 = .ok (.iadd, 1) := by decide +kernel
theorem dX6_placeOf_14 : decode cX6_placeOf 14 = .ok (.invokevirtual 64, 3) := by decide +kernel
theorem dX6_placeOf_17 : decode cX6_placeOf 17 = .ok (.iload_n 1, 1) := by decide +kernel
theorem dX6_placeOf_18 : decode cX6_placeOf 18 = .ok (.if_icmp .eq 9, 3) := by decide +kernel
theorem dX6_placeOf_21 : decode cX6_placeOf 21 = .ok (.iinc 3 1, 3) := by decide +kernel
theorem dX6_placeOf_24 : decode cX6_placeOf 24 = .ok (.goto (-15), 3) := by decide +kernel
theorem dX6_placeOf_27 : decode cX6_placeOf 27 = .ok (.iload_n 3, 1) := by decide +kernel
theorem dX6_placeOf_28 : decode cX6_placeOf 28 = .ok (.ireturn, 1) := by decide +kernel
theorem dX6_origin_0 : decode cX6_origin 0 = .ok (.aload_n 0, 1) := by decide +kernel
theorem dX6_origin_1 : decode cX6_origin 1 = .ok (.iload_n 1, 1) := by decide +kernel
theorem dX6_origin_2 : decode cX6_origin 2 = .ok (.iconst 1, 1) := by decide +kernel
theorem dX6_origin_3 : decode cX6_origin 3 = .ok (.invokevirtual 64, 3) := by decide +kernel
theorem dX6_origin_6 : decode cX6_origin 6 = .ok (.iconst 1, 1) := by decide +kernel
theorem dX6_origin_7 : decode cX6_origin 7 = .ok (.isub, 1) := by decide +kernel
theorem dX6_origin_8 : decode cX6_origin 8 = .ok (.ireturn, 1) := by decide +kernel
theorem dX6_beforeOf_0 : decode cX6_beforeOf 0 = .ok (.iload_n 1, 1) := by decide +kernel
theorem dX6_beforeOf_1 : decode cX6_beforeOf 1 = .ok (.bipush 16, 2) := by decide +kernel
theorem dX6_beforeOf_3 : decode cX6_beforeOf 3 = .ok (.if_icmp .lt 7, 3) := by decide +kernel
theorem dX6_beforeOf_6 : decode cX6_beforeOf 6 = .ok (.iconst 1, 1) := by decide +kernel
theorem dX6_beforeOf_7 : decode cX6_beforeOf 7 = .ok (.goto 4, 3) := by decide +kernel
theorem dX6_beforeOf_10 : decode cX6_beforeOf 10 = .ok (.iconst 0, 1) := by decide +kernel
theorem dX6_beforeOf_11 : decode cX6_beforeOf 11 = .ok (.istore_n 2, 1) := by decide +kernel
theorem dX6_beforeOf_12 : decode cX6_beforeOf 12 = .ok (.iload_n 2, 1) := by decide +kernel
theorem dX6_beforeOf_13 : decode cX6_beforeOf 13 = .ok (.ifCond .eq 10, 3) := by decide +kernel
theorem dX6_beforeOf_16 : decode cX6_beforeOf 16 = .ok (.iload_n 1, 1) := by decide +kernel
theorem dX6_beforeOf_17 : decode cX6_beforeOf 17 = .ok (.bipush 16, 2) := by decide +kernel
theorem dX6_beforeOf_19 : decode cX6_beforeOf 19 = .ok (.isub, 1) := by decide +kernel
theorem dX6_beforeOf_20 : decode cX6_beforeOf 20 = .ok (.goto 9, 3) := by decide +kernel
theorem dX6_beforeOf_23 : decode cX6_beforeOf 23 = .ok (.aload_n 0, 1) := by decide +kernel
theorem dX6_beforeOf_24 : decode cX6_beforeOf 24 = .ok (.iload_n 1, 1) := by decide +kernel
theorem dX6_beforeOf_25 : decode cX6_beforeOf 25 = .ok (.iconst 1, 1) := by decide +kernel
theorem dX6_beforeOf_26 : decode cX6_beforeOf 26 = .ok (.invokevirtual 67, 3) := by decide +kernel
theorem dX6_beforeOf_29 : decode cX6_beforeOf 29 = .ok (.istore_n 3, 1) := by decide +kernel
theorem dX6_beforeOf_30 : decode cX6_beforeOf 30 = .ok (.iload_n 2, 1) := by decide +kernel
theorem dX6_beforeOf_31 : decode cX6_beforeOf 31 = .ok (.ifCond .eq 12, 3) := by decide +kernel
theorem dX6_beforeOf_34 : decode cX6_beforeOf 34 = .ok (.aload_n 0, 1) := by decide +kernel
theorem dX6_beforeOf_35 : decode cX6_beforeOf 35 = .ok (.iload_n 3, 1) := by decide +kernel
theorem dX6_beforeOf_36 : decode cX6_beforeOf 36 = .ok (.iconst 4, 1) := by decide +kernel
theorem dX6_beforeOf_37 : decode cX6_beforeOf 37 = .ok (.invokevirtual 64, 3) := by decide +kernel
theorem dX6_beforeOf_40 : decode cX6_beforeOf 40 = .ok (.goto 8, 3) := by decide +kernel
theorem dX6_beforeOf_43 : decode cX6_beforeOf 43 = .ok (.aload_n 0, 1) := by decide +kernel
theorem dX6_beforeOf_44 : decode cX6_beforeOf 44 = .ok (.iload_n 1, 1) := by decide +kernel
theorem dX6_beforeOf_45 : decode cX6_beforeOf 45 = .ok (.invokevirtual 104, 3) := by decide +kernel
theorem dX6_beforeOf_48 : decode cX6_beforeOf 48 = .ok (.istore 4, 2) := by decide +kernel
theorem dX6_beforeOf_50 : decode cX6_beforeOf 50 = .ok (.iload 4, 2) := by decide +kernel
theorem dX6_beforeOf_52 : decode cX6_beforeOf 52 = .ok (.ifCond .le 17, 3) := by decide +kernel
theorem dX6_beforeOf_55 : decode cX6_beforeOf 55 = .ok (.aload_n 0, 1) := by decide +kernel
theorem dX6_beforeOf_56 : decode cX6_beforeOf 56 = .ok (.iload_n 3, 1) := by decide +kernel
theorem dX6_beforeOf_57 : decode cX6_beforeOf 57 = .ok (.iconst 5, 1) := by decide +kernel
theorem dX6_beforeOf_58 : decode cX6_beforeOf 58 = .ok (.iload 4, 2) := by decide +kernel
theorem dX6_beforeOf_60 : decode cX6_beforeOf 60 = .ok (.iadd, 1) := by decide +kernel
theorem dX6_beforeOf_61 : decode cX6_beforeOf 61 = .ok (.iconst 1, 1) := by decide +kernel
theorem dX6_beforeOf_62 : decode cX6_beforeOf 62 = .ok (.isub, 1) := by decide +kernel
theorem dX6_beforeOf_63 : decode cX6_beforeOf 63 = .ok (.invokevirtual 64, 3) := by decide +kernel
theorem dX6_beforeOf_66 : decode cX6_beforeOf 66 = .ok (.goto 8, 3) := by decide +kernel
theorem dX6_beforeOf_69 : decode cX6_beforeOf 69 = .ok (.aload_n 0, 1) := by decide +kernel
theorem dX6_beforeOf_70 : decode cX6_beforeOf 70 = .ok (.iload_n 3, 1) := by decide +kernel
theorem dX6_beforeOf_71 : decode cX6_beforeOf 71 = .ok (.invokevirtual 107, 3) := by decide +kernel
theorem dX6_beforeOf_74 : decode cX6_beforeOf 74 = .ok (.ireturn, 1) := by decide +kernel
theorem dX6_behindOf_0 : decode cX6_behindOf 0 = .ok (.aload_n 0, 1) := by decide +kernel
theorem dX6_behindOf_1 : decode cX6_behindOf 1 = .ok (.iload_n 1, 1) := by decide +kernel
theorem dX6_behindOf_2 : decode cX6_behindOf 2 = .ok (.iconst 1, 1) := by decide +kernel
theorem dX6_behindOf_3 : decode cX6_behindOf 3 = .ok (.invokevirtual 67, 3) := by decide +kernel
theorem dX6_behindOf_6 : decode cX6_behindOf 6 = .ok (.istore_n 2, 1) := by decide +kernel
theorem dX6_behindOf_7 : decode cX6_behindOf 7 = .ok (.aload_n 0, 1) := by decide +kernel
theorem dX6_behindOf_8 : decode cX6_behindOf 8 = .ok (.iload_n 1, 1) := by decide +kernel
theorem dX6_behindOf_9 : decode cX6_behindOf 9 = .ok (.invokevirtual 104, 3) := by decide +kernel
theorem dX6_behindOf_12 : decode cX6_behindOf 12 = .ok (.istore_n 3, 1) := by decide +kernel
theorem dX6_behindOf_13 : decode cX6_behindOf 13 = .ok (.iload_n 3, 1) := by decide +kernel
theorem dX6_behindOf_14 : decode cX6_behindOf 14 = .ok (.iconst 1, 1) := by decide +kernel
theorem dX6_behindOf_15 : decode cX6_behindOf 15 = .ok (.iadd, 1) := by decide +kernel
theorem dX6_behindOf_16 : decode cX6_behindOf 16 = .ok (.aload_n 0, 1) := by decide +kernel
theorem dX6_behindOf_17 : decode cX6_behindOf 17 = .ok (.iload_n 2, 1) := by decide +kernel
theorem dX6_behindOf_18 : decode cX6_behindOf 18 = .ok (.iconst 4, 1) := by decide +kernel
theorem dX6_behindOf_19 : decode cX6_behindOf 19 = .ok (.invokevirtual 64, 3) := by decide +kernel
theorem dX6_behindOf_22 : decode cX6_behindOf 22 = .ok (.if_icmp .ge 16, 3) := by decide +kernel
theorem dX6_behindOf_25 : decode cX6_behindOf 25 = .ok (.aload_n 0, 1) := by decide +kernel
theorem dX6_behindOf_26 : decode cX6_behindOf 26 = .ok (.iload_n 2, 1) := by decide +kernel
theorem dX6_behindOf_27 : decode cX6_behindOf 27 = .ok (.iconst 5, 1) := by decide +kernel
theorem dX6_behindOf_28 : decode cX6_behindOf 28 = .ok (.iload_n 3, 1) := by decide +kernel
theorem dX6_behindOf_29 : decode cX6_behindOf 29 = .ok (.iadd, 1) := by decide +kernel
theorem dX6_behindOf_30 : decode cX6_behindOf 30 = .ok (.iconst 1, 1) := by decide +kernel
theorem dX6_behindOf_31 : decode cX6_behindOf 31 = .ok (.iadd, 1) := by decide +kernel
theorem dX6_behindOf_32 : decode cX6_behindOf 32 = .ok (.invokevirtual 64, 3) := by decide +kernel
theorem dX6_behindOf_35 : decode cX6_behindOf 35 = .ok (.goto 7, 3) := by decide +kernel
theorem dX6_behindOf_38 : decode cX6_behindOf 38 = .ok (.bipush 16, 2) := by decide +kernel
theorem dX6_behindOf_40 : decode cX6_behindOf 40 = .ok (.iload_n 2, 1) := by decide +kernel
theorem dX6_behindOf_41 : decode cX6_behindOf 41 = .ok (.iadd, 1) := by decide +kernel
theorem dX6_behindOf_42 : decode cX6_behindOf 42 = .ok (.ireturn, 1) := by decide +kernel
theorem dX6_depth_0 : decode cX6_depth 0 = .ok (.iconst 0, 1) := by decide +kernel
theorem dX6_depth_1 : decode cX6_depth 1 = .ok (.istore_n 2, 1) := by decide +kernel
theorem dX6_depth_2 : decode cX6_depth 2 = .ok (.aload_n 0, 1) := by decide +kernel
theorem dX6_depth_3 : decode cX6_depth 3 = .ok (.iload_n 1, 1) := by decide +kernel
theorem dX6_depth_4 : decode cX6_depth 4 = .ok (.invokevirtual 110, 3) := by decide +kernel
theorem dX6_depth_7 : decode cX6_depth 7 = .ok (.istore_n 3, 1) := by decide +kernel
theorem dX6_depth_8 : decode cX6_depth 8 = .ok (.iload_n 3, 1) := by decide +kernel
theorem dX6_depth_9 : decode cX6_depth 9 = .ok (.ifCond .lt 15, 3) := by decide +kernel
theorem dX6_depth_12 : decode cX6_depth 12 = .ok (.iinc 2 1, 3) := by decide +kernel
theorem dX6_depth_15 : decode cX6_depth 15 = .ok (.aload_n 0, 1) := by decide +kernel
theorem dX6_depth_16 : decode cX6_depth 16 = .ok (.iload_n 3, 1) := by decide +kernel
theorem dX6_depth_17 : decode cX6_depth 17 = .ok (.invokevirtual 110, 3) := by decide +kernel
theorem dX6_depth_20 : decode cX6_depth 20 = .ok (.istore_n 3, 1) := by decide +kernel
theorem dX6_depth_21 : decode cX6_depth 21 = .ok (.goto (-13), 3) := by decide +kernel
theorem dX6_depth_24 : decode cX6_depth 24 = .ok (.iload_n 2, 1) := by decide +kernel
theorem dX6_depth_25 : decode cX6_depth 25 = .ok (.ireturn, 1) := by decide +kernel
theorem dX6_clones_0 : decode cX6_clones 0 = .ok (.iconst 0, 1) := by decide +kernel
theorem dX6_clones_1 : decode cX6_clones 1 = .ok (.istore_n 2, 1) := by decide +kernel
theorem dX6_clones_2 : decode cX6_clones 2 = .ok (.iconst 0, 1) := by decide +kernel
theorem dX6_clones_3 : decode cX6_clones 3 = .ok (.istore_n 3, 1) := by decide +kernel
theorem dX6_clones_4 : decode cX6_clones 4 = .ok (.iload_n 3, 1) := by decide +kernel
theorem dX6_clones_5 : decode cX6_clones 5 = .ok (.bipush 6, 2) := by decide +kernel
theorem dX6_clones_7 : decode cX6_clones 7 = .ok (.if_icmp .ge 36, 3) := by decide +kernel
theorem dX6_clones_10 : decode cX6_clones 10 = .ok (.iload_n 2, 1) := by decide +kernel
theorem dX6_clones_11 : decode cX6_clones 11 = .ok (.aload_n 0, 1) := by decide +kernel
theorem dX6_clones_12 : decode cX6_clones 12 = .ok (.iload_n 3, 1) := by decide +kernel
theorem dX6_clones_13 : decode cX6_clones 13 = .ok (.invokevirtual 74, 3) := by decide +kernel
theorem dX6_clones_16 : decode cX6_clones 16 = .ok (.ifCond .eq 18, 3) := by decide +kernel
theorem dX6_clones_19 : decode cX6_clones 19 = .ok (.aload_n 0, 1) := by decide +kernel
theorem dX6_clones_20 : decode cX6_clones 20 = .ok (.iload_n 3, 1) := by decide +kernel
theorem dX6_clones_21 : decode cX6_clones 21 = .ok (.invokevirtual 107, 3) := by decide +kernel
theorem dX6_clones_24 : decode cX6_clones 24 = .ok (.iload_n 1, 1) := by decide +kernel
theorem dX6_clones_25 : decode cX6_clones 25 = .ok (.if_icmp .ne 9, 3) := by decide +kernel
theorem dX6_clones_28 : decode cX6_clones 28 = .ok (.iconst 1, 1) := by decide +kernel
theorem dX6_clones_29 : decode cX6_clones 29 = .ok (.iload_n 3, 1) := by decide +kernel
theorem dX6_clones_30 : decode cX6_clones 30 = .ok (.ishl, 1) := by decide +kernel
theorem dX6_clones_31 : decode cX6_clones 31 = .ok (.goto 4, 3) := by decide +kernel
theorem dX6_clones_34 : decode cX6_clones 34 = .ok (.iconst 0, 1) := by decide +kernel
theorem dX6_clones_35 : decode cX6_clones 35 = .ok (.ior, 1) := by decide +kernel
theorem dX6_clones_36 : decode cX6_clones 36 = .ok (.istore_n 2, 1) := by decide +kernel
theorem dX6_clones_37 : decode cX6_clones 37 = .ok (.iinc 3 1, 3) := by decide +kernel
theorem dX6_clones_40 : decode cX6_clones 40 = .ok (.goto (-36), 3) := by decide +kernel
theorem dX6_clones_43 : decode cX6_clones 43 = .ok (.iload_n 2, 1) := by decide +kernel
theorem dX6_clones_44 : decode cX6_clones 44 = .ok (.ireturn, 1) := by decide +kernel
theorem dX6_bits_0 : decode cX6_bits 0 = .ok (.iconst 0, 1) := by decide +kernel
theorem dX6_bits_1 : decode cX6_bits 1 = .ok (.istore_n 1, 1) := by decide +kernel
theorem dX6_bits_2 : decode cX6_bits 2 = .ok (.iload_n 0, 1) := by decide +kernel
theorem dX6_bits_3 : decode cX6_bits 3 = .ok (.istore_n 2, 1) := by decide +kernel
theorem dX6_bits_4 : decode cX6_bits 4 = .ok (.iload_n 2, 1) := by decide +kernel
theorem dX6_bits_5 : decode cX6_bits 5 = .ok (.ifCond .eq 15, 3) := by decide +kernel
theorem dX6_bits_8 : decode cX6_bits 8 = .ok (.iinc 1 1, 3) := by decide +kernel
theorem dX6_bits_11 : decode cX6_bits 11 = .ok (.iload_n 2, 1) := by decide +kernel
theorem dX6_bits_12 : decode cX6_bits 12 = .ok (.iload_n 2, 1) := by decide +kernel
theorem dX6_bits_13 : decode cX6_bits 13 = .ok (.iconst 1, 1) := by decide +kernel
theorem dX6_bits_14 : decode cX6_bits 14 = .ok (.isub, 1) := by decide +kernel
theorem dX6_bits_15 : decode cX6_bits 15 = .ok (.iand, 1) := by decide +kernel
theorem dX6_bits_16 : decode cX6_bits 16 = .ok (.istore_n 2, 1) := by decide +kernel
theorem dX6_bits_17 : decode cX6_bits 17 = .ok (.goto (-13), 3) := by decide +kernel
theorem dX6_bits_20 : decode cX6_bits 20 = .ok (.iload_n 1, 1) := by decide +kernel
theorem dX6_bits_21 : decode cX6_bits 21 = .ok (.ireturn, 1) := by decide +kernel
theorem dX6_count_0 : decode cX6_count 0 = .ok (.aload_n 0, 1) := by decide +kernel
theorem dX6_count_1 : decode cX6_count 1 = .ok (.iconst 0, 1) := by decide +kernel
theorem dX6_count_2 : decode cX6_count 2 = .ok (.putfield 43, 3) := by decide +kernel
theorem dX6_count_5 : decode cX6_count 5 = .ok (.iconst 0, 1) := by decide +kernel
theorem dX6_count_6 : decode cX6_count 6 = .ok (.istore_n 2, 1) := by decide +kernel
theorem dX6_count_7 : decode cX6_count 7 = .ok (.iload_n 1, 1) := by decide +kernel
theorem dX6_count_8 : decode cX6_count 8 = .ok (.tableswitch 107 0 5 #[40, 47, 54, 60, 67, 99], 40) := by decide +kernel
theorem dX6_count_48 : decode cX6_count 48 = .ok (.aload_n 0, 1) := by decide +kernel
theorem dX6_count_49 : decode cX6_count 49 = .ok (.getfield 16, 3) := by decide +kernel
theorem dX6_count_52 : decode cX6_count 52 = .ok (.iconst 3, 1) := by decide +kernel
theorem dX6_count_53 : decode cX6_count 53 = .ok (.iaload, 1) := by decide +kernel
theorem dX6_count_54 : decode cX6_count 54 = .ok (.ireturn, 1) := by decide +kernel
theorem dX6_count_55 : decode cX6_count 55 = .ok (.aload_n 0, 1) := by decide +kernel
theorem dX6_count_56 : decode cX6_count 56 = .ok (.getfield 16, 3) := by decide +kernel
theorem dX6_count_59 : decode cX6_count 59 = .ok (.iconst 4, 1) := by decide +kernel
theorem dX6_count_60 : decode cX6_count 60 = .ok (.iaload, 1) := by decide +kernel
theorem dX6_count_61 : decode cX6_count 61 = .ok (.ireturn, 1) := by decide +kernel
theorem dX6_count_62 : decode cX6_count 62 = .ok (.aload_n 0, 1) := by decide +kernel
theorem dX6_count_63 : decode cX6_count 63 = .ok (.iconst 0, 1) := by decide +kernel
theorem dX6_count_64 : decode cX6_count 64 = .ok (.invokevirtual 113, 3) := by decide +kernel
theorem dX6_count_67 : decode cX6_count 67 = .ok (.ireturn, 1) := by decide +kernel
theorem dX6_count_68 : decode cX6_count 68 = .ok (.aload_n 0, 1) := by decide +kernel
theorem dX6_count_69 : decode cX6_count 69 = .ok (.getfield 16, 3) := by decide +kernel
theorem dX6_count_72 : decode cX6_count 72 = .ok (.iconst 2, 1) := by decide +kernel
theorem dX6_count_73 : decode cX6_count 73 = .ok (.iaload, 1) := by decide +kernel
theorem dX6_count_74 : decode cX6_count 74 = .ok (.ireturn, 1) := by decide +kernel
theorem dX6_count_75 : decode cX6_count 75 = .ok (.iconst 0, 1) := by decide +kernel
theorem dX6_count_76 : decode cX6_count 76 = .ok (.istore_n 3, 1) := by decide +kernel
theorem dX6_count_77 : decode cX6_count 77 = .ok (.iload_n 3, 1) := by decide +kernel
theorem dX6_count_78 : decode cX6_count 78 = .ok (.bipush 6, 2) := by decide +kernel
theorem dX6_count_80 : decode cX6_count 80 = .ok (.if_icmp .ge 25, 3) := by decide +kernel
theorem dX6_count_83 : decode cX6_count 83 = .ok (.iload_n 2, 1) := by decide +kernel
theorem dX6_count_84 : decode cX6_count 84 = .ok (.aload_n 0, 1) := by decide +kernel
theorem dX6_count_85 : decode cX6_count 85 = .ok (.iload_n 3, 1) := by decide +kernel
theorem dX6_count_86 : decode cX6_count 86 = .ok (.invokevirtual 74, 3) := by decide +kernel
theorem dX6_count_89 : decode cX6_count 89 = .ok (.ifCond .eq 7, 3) := by decide +kernel
theorem dX6_count_92 : decode cX6_count 92 = .ok (.iconst 1, 1) := by decide +kernel
theorem dX6_count_93 : decode cX6_count 93 = .ok (.goto 4, 3) := by decide +kernel
theorem dX6_count_96 : decode cX6_count 96 = .ok (.iconst 0, 1) := by decide +kernel
theorem dX6_count_97 : decode cX6_count 97 = .ok (.iadd, 1) := by decide +kernel
theorem dX6_count_98 : decode cX6_count 98 = .ok (.istore_n 2, 1) := by decide +kernel
theorem dX6_count_99 : decode cX6_count 99 = .ok (.iinc 3 1, 3) := by decide +kernel
theorem dX6_count_102 : decode cX6_count 102 = .ok (.goto (-25), 3) := by decide +kernel
theorem dX6_count_105 : decode cX6_count 105 = .ok (.iload_n 2, 1) := by decide +kernel
theorem dX6_count_106 : decode cX6_count 106 = .ok (.ireturn, 1) := by decide +kernel
theorem dX6_count_107 : decode cX6_count 107 = .ok (.aload_n 0, 1) := by decide +kernel
theorem dX6_count_108 : decode cX6_count 108 = .ok (.invokevirtual 117, 3) := by decide +kernel
theorem dX6_count_111 : decode cX6_count 111 = .ok (.invokestatic 121, 3) := by decide +kernel
theorem dX6_count_114 : decode cX6_count 114 = .ok (.ireturn, 1) := by decide +kernel
theorem dX6_count_115 : decode cX6_count 115 = .ok (.bipush (-2), 2) := by decide +kernel
theorem dX6_count_117 : decode cX6_count 117 = .ok (.ireturn, 1) := by decide +kernel
theorem dX6_snapshots_0 : decode cX6_snapshots 0 = .ok (.iconst 0, 1) := by decide +kernel
theorem dX6_snapshots_1 : decode cX6_snapshots 1 = .ok (.istore_n 1, 1) := by decide +kernel
theorem dX6_snapshots_2 : decode cX6_snapshots 2 = .ok (.iconst 0, 1) := by decide +kernel
theorem dX6_snapshots_3 : decode cX6_snapshots 3 = .ok (.istore_n 2, 1) := by decide +kernel
theorem dX6_snapshots_4 : decode cX6_snapshots 4 = .ok (.iload_n 2, 1) := by decide +kernel
theorem dX6_snapshots_5 : decode cX6_snapshots 5 = .ok (.bipush 16, 2) := by decide +kernel
theorem dX6_snapshots_7 : decode cX6_snapshots 7 = .ok (.if_icmp .ge 27, 3) := by decide +kernel
theorem dX6_snapshots_10 : decode cX6_snapshots 10 = .ok (.iload_n 1, 1) := by decide +kernel
theorem dX6_snapshots_11 : decode cX6_snapshots 11 = .ok (.aload_n 0, 1) := by decide +kernel
theorem dX6_snapshots_12 : decode cX6_snapshots 12 = .ok (.iload_n 2, 1) := by decide +kernel
theorem dX6_snapshots_13 : decode cX6_snapshots 13 = .ok (.invokevirtual 70, 3) := by decide +kernel
theorem dX6_snapshots_16 : decode cX6_snapshots 16 = .ok (.ifCond .eq 9, 3) := by decide +kernel
theorem dX6_snapshots_19 : decode cX6_snapshots 19 = .ok (.iconst 1, 1) := by decide +kernel
theorem dX6_snapshots_20 : decode cX6_snapshots 20 = .ok (.iload_n 2, 1) := by decide +kernel
theorem dX6_snapshots_21 : decode cX6_snapshots 21 = .ok (.ishl, 1) := by decide +kernel
theorem dX6_snapshots_22 : decode cX6_snapshots 22 = .ok (.goto 4, 3) := by decide +kernel
theorem dX6_snapshots_25 : decode cX6_snapshots 25 = .ok (.iconst 0, 1) := by decide +kernel
theorem dX6_snapshots_26 : decode cX6_snapshots 26 = .ok (.ior, 1) := by decide +kernel
theorem dX6_snapshots_27 : decode cX6_snapshots 27 = .ok (.istore_n 1, 1) := by decide +kernel
theorem dX6_snapshots_28 : decode cX6_snapshots 28 = .ok (.iinc 2 1, 3) := by decide +kernel
theorem dX6_snapshots_31 : decode cX6_snapshots 31 = .ok (.goto (-27), 3) := by decide +kernel
theorem dX6_snapshots_34 : decode cX6_snapshots 34 = .ok (.iload_n 1, 1) := by decide +kernel
theorem dX6_snapshots_35 : decode cX6_snapshots 35 = .ok (.ireturn, 1) := by decide +kernel
theorem dX6_find_0 : decode cX6_find 0 = .ok (.iconst 0, 1) := by decide +kernel
theorem dX6_find_1 : decode cX6_find 1 = .ok (.istore_n 3, 1) := by decide +kernel
theorem dX6_find_2 : decode cX6_find 2 = .ok (.iload_n 3, 1) := by decide +kernel
theorem dX6_find_3 : decode cX6_find 3 = .ok (.iload_n 1, 1) := by decide +kernel
theorem dX6_find_4 : decode cX6_find 4 = .ok (.ifCond .eq 8, 3) := by decide +kernel
theorem dX6_find_7 : decode cX6_find 7 = .ok (.bipush 16, 2) := by decide +kernel
theorem dX6_find_9 : decode cX6_find 9 = .ok (.goto 5, 3) := by decide +kernel
theorem dX6_find_12 : decode cX6_find 12 = .ok (.bipush 6, 2) := by decide +kernel
theorem dX6_find_14 : decode cX6_find 14 = .ok (.if_icmp .ge 75, 3) := by decide +kernel
theorem dX6_find_17 : decode cX6_find 17 = .ok (.iload_n 2, 1) := by decide +kernel
theorem dX6_find_18 : decode cX6_find 18 = .ok (.ifCond .eq 71, 3) := by decide +kernel
theorem dX6_find_21 : decode cX6_find 21 = .ok (.iload_n 1, 1) := by decide +kernel
theorem dX6_find_22 : decode cX6_find 22 = .ok (.ifCond .eq 29, 3) := by decide +kernel
theorem dX6_find_25 : decode cX6_find 25 = .ok (.aload_n 0, 1) := by decide +kernel
theorem dX6_find_26 : decode cX6_find 26 = .ok (.iload_n 3, 1) := by decide +kernel
theorem dX6_find_27 : decode cX6_find 27 = .ok (.invokevirtual 70, 3) := by decide +kernel
theorem dX6_find_30 : decode cX6_find 30 = .ok (.ifCond .eq 17, 3) := by decide +kernel
theorem dX6_find_33 : decode cX6_find 33 = .ok (.aload_n 0, 1) := by decide +kernel
theorem dX6_find_34 : decode cX6_find 34 = .ok (.iload_n 3, 1) := by decide +kernel
theorem dX6_find_35 : decode cX6_find 35 = .ok (.iconst 4, 1) := by decide +kernel
theorem dX6_find_36 : decode cX6_find 36 = .ok (.invokevirtual 67, 3) := by decide +kernel
theorem dX6_find_39 : decode cX6_find 39 = .ok (.iload_n 2, 1) := by decide +kernel
theorem dX6_find_40 : decode cX6_find 40 = .ok (.if_icmp .ne 7, 3) := by decide +kernel
theorem dX6_find_43 : decode cX6_find 43 = .ok (.iconst 1, 1) := by decide +kernel
theorem dX6_find_44 : decode cX6_find 44 = .ok (.goto 30, 3) := by decide +kernel
theorem dX6_find_47 : decode cX6_find 47 = .ok (.iconst 0, 1) := by decide +kernel
theorem dX6_find_48 : decode cX6_find 48 = .ok (.goto 26, 3) := by decide +kernel
theorem dX6_find_51 : decode cX6_find 51 = .ok (.aload_n 0, 1) := by decide +kernel
theorem dX6_find_52 : decode cX6_find 52 = .ok (.iload_n 3, 1) := by decide +kernel
theorem dX6_find_53 : decode cX6_find 53 = .ok (.invokevirtual 74, 3) := by decide +kernel
theorem dX6_find_56 : decode cX6_find 56 = .ok (.ifCond .eq 17, 3) := by decide +kernel
theorem dX6_find_59 : decode cX6_find 59 = .ok (.aload_n 0, 1) := by decide +kernel
theorem dX6_find_60 : decode cX6_find 60 = .ok (.iload_n 3, 1) := by decide +kernel
theorem dX6_find_61 : decode cX6_find 61 = .ok (.iconst 3, 1) := by decide +kernel
theorem dX6_find_62 : decode cX6_find 62 = .ok (.invokevirtual 64, 3) := by decide +kernel
theorem dX6_find_65 : decode cX6_find 65 = .ok (.iload_n 2, 1) := by decide +kernel
theorem dX6_find_66 : decode cX6_find 66 = .ok (.if_icmp .ne 7, 3) := by decide +kernel
theorem dX6_find_69 : decode cX6_find 69 = .ok (.iconst 1, 1) := by decide +kernel
theorem dX6_find_70 : decode cX6_find 70 = .ok (.goto 4, 3) := by decide +kernel
theorem dX6_find_73 : decode cX6_find 73 = .ok (.iconst 0, 1) := by decide +kernel
theorem dX6_find_74 : decode cX6_find 74 = .ok (.istore 4, 2) := by decide +kernel
theorem dX6_find_76 : decode cX6_find 76 = .ok (.iload 4, 2) := by decide +kernel
theorem dX6_find_78 : decode cX6_find 78 = .ok (.ifCond .eq 5, 3) := by decide +kernel
theorem dX6_find_81 : decode cX6_find 81 = .ok (.iload_n 3, 1) := by decide +kernel
theorem dX6_find_82 : decode cX6_find 82 = .ok (.ireturn, 1) := by decide +kernel
theorem dX6_find_83 : decode cX6_find 83 = .ok (.iinc 3 1, 3) := by decide +kernel
theorem dX6_find_86 : decode cX6_find 86 = .ok (.goto (-84), 3) := by decide +kernel
theorem dX6_find_89 : decode cX6_find 89 = .ok (.iconst (-1), 1) := by decide +kernel
theorem dX6_find_90 : decode cX6_find 90 = .ok (.ireturn, 1) := by decide +kernel
theorem dX6_named_0 : decode cX6_named 0 = .ok (.aload_n 0, 1) := by decide +kernel
theorem dX6_named_1 : decode cX6_named 1 = .ok (.iconst 0, 1) := by decide +kernel
theorem dX6_named_2 : decode cX6_named 2 = .ok (.putfield 43, 3) := by decide +kernel
theorem dX6_named_5 : decode cX6_named 5 = .ok (.aload_n 0, 1) := by decide +kernel
theorem dX6_named_6 : decode cX6_named 6 = .ok (.iload_n 1, 1) := by decide +kernel
theorem dX6_named_7 : decode cX6_named 7 = .ok (.iload_n 2, 1) := by decide +kernel
theorem dX6_named_8 : decode cX6_named 8 = .ok (.invokevirtual 124, 3) := by decide +kernel
theorem dX6_named_11 : decode cX6_named 11 = .ok (.ireturn, 1) := by decide +kernel
theorem dX6_getSetting_0 : decode cX6_getSetting 0 = .ok (.aload_n 0, 1) := by decide +kernel
theorem dX6_getSetting_1 : decode cX6_getSetting 1 = .ok (.iconst 0, 1) := by decide +kernel
theorem dX6_getSetting_2 : decode cX6_getSetting 2 = .ok (.putfield 43, 3) := by decide +kernel
theorem dX6_getSetting_5 : decode cX6_getSetting 5 = .ok (.iload_n 1, 1) := by decide +kernel
theorem dX6_getSetting_6 : decode cX6_getSetting 6 = .ok (.iconst 0, 1) := by decide +kernel
theorem dX6_getSetting_7 : decode cX6_getSetting 7 = .ok (.iconst 1, 1) := by decide +kernel
theorem dX6_getSetting_8 : decode cX6_getSetting 8 = .ok (.invokestatic 60, 3) := by decide +kernel
theorem dX6_getSetting_11 : decode cX6_getSetting 11 = .ok (.ifCond .eq 12, 3) := by decide +kernel
theorem dX6_getSetting_14 : decode cX6_getSetting 14 = .ok (.aload_n 0, 1) := by decide +kernel
theorem dX6_getSetting_15 : decode cX6_getSetting 15 = .ok (.getfield 16, 3) := by decide +kernel
theorem dX6_getSetting_18 : decode cX6_getSetting 18 = .ok (.iload_n 1, 1) := by decide +kernel
theorem dX6_getSetting_19 : decode cX6_getSetting 19 = .ok (.iaload, 1) := by decide +kernel
theorem dX6_getSetting_20 : decode cX6_getSetting 20 = .ok (.goto 5, 3) := by decide +kernel
theorem dX6_getSetting_23 : decode cX6_getSetting 23 = .ok (.bipush (-2), 2) := by decide +kernel
theorem dX6_getSetting_25 : decode cX6_getSetting 25 = .ok (.ireturn, 1) := by decide +kernel
theorem dX6_isThere_0 : decode cX6_isThere 0 = .ok (.aload_n 0, 1) := by decide +kernel
theorem dX6_isThere_1 : decode cX6_isThere 1 = .ok (.iconst 0, 1) := by decide +kernel
theorem dX6_isThere_2 : decode cX6_isThere 2 = .ok (.putfield 43, 3) := by decide +kernel
theorem dX6_isThere_5 : decode cX6_isThere 5 = .ok (.aload_n 0, 1) := by decide +kernel
theorem dX6_isThere_6 : decode cX6_isThere 6 = .ok (.iload_n 1, 1) := by decide +kernel
theorem dX6_isThere_7 : decode cX6_isThere 7 = .ok (.invokevirtual 87, 3) := by decide +kernel
theorem dX6_isThere_10 : decode cX6_isThere 10 = .ok (.ireturn, 1) := by decide +kernel
theorem dX6_volumeNumber_0 : decode cX6_volumeNumber 0 = .ok (.aload_n 0, 1) := by decide +kernel
theorem dX6_volumeNumber_1 : decode cX6_volumeNumber 1 = .ok (.aload_n 0, 1) := by decide +kernel
theorem dX6_volumeNumber_2 : decode cX6_volumeNumber 2 = .ok (.iload_n 1, 1) := by decide +kernel
theorem dX6_volumeNumber_3 : decode cX6_volumeNumber 3 = .ok (.invokevirtual 74, 3) := by decide +kernel
theorem dX6_volumeNumber_6 : decode cX6_volumeNumber 6 = .ok (.invokevirtual 128, 3) := by decide +kernel
theorem dX6_volumeNumber_9 : decode cX6_volumeNumber 9 = .ok (.ifCond .eq 5, 3) := by decide +kernel
theorem dX6_volumeNumber_12 : decode cX6_volumeNumber 12 = .ok (.iconst 0, 1) := by decide +kernel
theorem dX6_volumeNumber_13 : decode cX6_volumeNumber 13 = .ok (.ireturn, 1) := by decide +kernel
theorem dX6_volumeNumber_14 : decode cX6_volumeNumber 14 = .ok (.iload_n 2, 1) := by decide +kernel
theorem dX6_volumeNumber_15 : decode cX6_volumeNumber 15 = .ok (.ifCond .ne 11, 3) := by decide +kernel
theorem dX6_volumeNumber_18 : decode cX6_volumeNumber 18 = .ok (.aload_n 0, 1) := by decide +kernel
theorem dX6_volumeNumber_19 : decode cX6_volumeNumber 19 = .ok (.iload_n 1, 1) := by decide +kernel
theorem dX6_volumeNumber_20 : decode cX6_volumeNumber 20 = .ok (.invokevirtual 107, 3) := by decide +kernel
theorem dX6_volumeNumber_23 : decode cX6_volumeNumber 23 = .ok (.goto 33, 3) := by decide +kernel
theorem dX6_volumeNumber_26 : decode cX6_volumeNumber 26 = .ok (.iload_n 2, 1) := by decide +kernel
theorem dX6_volumeNumber_27 : decode cX6_volumeNumber 27 = .ok (.iconst 1, 1) := by decide +kernel
theorem dX6_volumeNumber_28 : decode cX6_volumeNumber 28 = .ok (.if_icmp .ne 12, 3) := by decide +kernel
theorem dX6_volumeNumber_31 : decode cX6_volumeNumber 31 = .ok (.aload_n 0, 1) := by decide +kernel
theorem dX6_volumeNumber_32 : decode cX6_volumeNumber 32 = .ok (.iload_n 1, 1) := by decide +kernel
theorem dX6_volumeNumber_33 : decode cX6_volumeNumber 33 = .ok (.iconst 4, 1) := by decide +kernel
theorem dX6_volumeNumber_34 : decode cX6_volumeNumber 34 = .ok (.invokevirtual 64, 3) := by decide +kernel
theorem dX6_volumeNumber_37 : decode cX6_volumeNumber 37 = .ok (.goto 19, 3) := by decide +kernel
theorem dX6_volumeNumber_40 : decode cX6_volumeNumber 40 = .ok (.iload_n 2, 1) := by decide +kernel
theorem dX6_volumeNumber_41 : decode cX6_volumeNumber 41 = .ok (.iconst 2, 1) := by decide +kernel
theorem dX6_volumeNumber_42 : decode cX6_volumeNumber 42 = .ok (.if_icmp .ne 12, 3) := by decide +kernel
theorem dX6_volumeNumber_45 : decode cX6_volumeNumber 45 = .ok (.aload_n 0, 1) := by decide +kernel
theorem dX6_volumeNumber_46 : decode cX6_volumeNumber 46 = .ok (.iload_n 1, 1) := by decide +kernel
theorem dX6_volumeNumber_47 : decode cX6_volumeNumber 47 = .ok (.iconst 2, 1) := by decide +kernel
theorem dX6_volumeNumber_48 : decode cX6_volumeNumber 48 = .ok (.invokevirtual 64, 3) := by decide +kernel
theorem dX6_volumeNumber_51 : decode cX6_volumeNumber 51 = .ok (.goto 5, 3) := by decide +kernel
theorem dX6_volumeNumber_54 : decode cX6_volumeNumber 54 = .ok (.bipush (-2), 2) := by decide +kernel
theorem dX6_volumeNumber_56 : decode cX6_volumeNumber 56 = .ok (.ireturn, 1) := by decide +kernel
theorem dX6_snapshotNumber_0 : decode cX6_snapshotNumber 0 = .ok (.aload_n 0, 1) := by decide +kernel
theorem dX6_snapshotNumber_1 : decode cX6_snapshotNumber 1 = .ok (.aload_n 0, 1) := by decide +kernel
theorem dX6_snapshotNumber_2 : decode cX6_snapshotNumber 2 = .ok (.iload_n 1, 1) := by decide +kernel
theorem dX6_snapshotNumber_3 : decode cX6_snapshotNumber 3 = .ok (.invokevirtual 70, 3) := by decide +kernel
theorem dX6_snapshotNumber_6 : decode cX6_snapshotNumber 6 = .ok (.invokevirtual 128, 3) := by decide +kernel
theorem dX6_snapshotNumber_9 : decode cX6_snapshotNumber 9 = .ok (.ifCond .eq 5, 3) := by decide +kernel
theorem dX6_snapshotNumber_12 : decode cX6_snapshotNumber 12 = .ok (.iconst 0, 1) := by decide +kernel
theorem dX6_snapshotNumber_13 : decode cX6_snapshotNumber 13 = .ok (.ireturn, 1) := by decide +kernel
theorem dX6_snapshotNumber_14 : decode cX6_snapshotNumber 14 = .ok (.iload_n 2, 1) := by decide +kernel
theorem dX6_snapshotNumber_15 : decode cX6_snapshotNumber 15 = .ok (.tableswitch 69 0 4 #[33, 40, 47, 54, 63], 33) := by decide +kernel
theorem dX6_snapshotNumber_48 : decode cX6_snapshotNumber 48 = .ok (.aload_n 0, 1) := by decide +kernel
theorem dX6_snapshotNumber_49 : decode cX6_snapshotNumber 49 = .ok (.iload_n 1, 1) := by decide +kernel
theorem dX6_snapshotNumber_50 : decode cX6_snapshotNumber 50 = .ok (.iconst 1, 1) := by decide +kernel
theorem dX6_snapshotNumber_51 : decode cX6_snapshotNumber 51 = .ok (.invokevirtual 67, 3) := by decide +kernel
theorem dX6_snapshotNumber_54 : decode cX6_snapshotNumber 54 = .ok (.ireturn, 1) := by decide +kernel
theorem dX6_snapshotNumber_55 : decode cX6_snapshotNumber 55 = .ok (.aload_n 0, 1) := by decide +kernel
theorem dX6_snapshotNumber_56 : decode cX6_snapshotNumber 56 = .ok (.iload_n 1, 1) := by decide +kernel
theorem dX6_snapshotNumber_57 : decode cX6_snapshotNumber 57 = .ok (.iconst 2, 1) := by decide +kernel
theorem dX6_snapshotNumber_58 : decode cX6_snapshotNumber 58 = .ok (.invokevirtual 67, 3) := by decide +kernel
theorem dX6_snapshotNumber_61 : decode cX6_snapshotNumber 61 = .ok (.ireturn, 1) := by decide +kernel
theorem dX6_snapshotNumber_62 : decode cX6_snapshotNumber 62 = .ok (.aload_n 0, 1) := by decide +kernel
theorem dX6_snapshotNumber_63 : decode cX6_snapshotNumber 63 = .ok (.iload_n 1, 1) := by decide +kernel
theorem dX6_snapshotNumber_64 : decode cX6_snapshotNumber 64 = .ok (.iconst 3, 1) := by decide +kernel
theorem dX6_snapshotNumber_65 : decode cX6_snapshotNumber 65 = .ok (.invokevirtual 67, 3) := by decide +kernel
theorem dX6_snapshotNumber_68 : decode cX6_snapshotNumber 68 = .ok (.ireturn, 1) := by decide +kernel
theorem dX6_snapshotNumber_69 : decode cX6_snapshotNumber 69 = .ok (.aload_n 0, 1) := by decide +kernel
theorem dX6_snapshotNumber_70 : decode cX6_snapshotNumber 70 = .ok (.iload_n 1, 1) := by decide +kernel
theorem dX6_snapshotNumber_71 : decode cX6_snapshotNumber 71 = .ok (.invokevirtual 132, 3) := by decide +kernel
theorem dX6_snapshotNumber_74 : decode cX6_snapshotNumber 74 = .ok (.invokestatic 121, 3) := by decide +kernel
theorem dX6_snapshotNumber_77 : decode cX6_snapshotNumber 77 = .ok (.ireturn, 1) := by decide +kernel
theorem dX6_snapshotNumber_78 : decode cX6_snapshotNumber 78 = .ok (.aload_n 0, 1) := by decide +kernel
theorem dX6_snapshotNumber_79 : decode cX6_snapshotNumber 79 = .ok (.iload_n 1, 1) := by decide +kernel
theorem dX6_snapshotNumber_80 : decode cX6_snapshotNumber 80 = .ok (.invokevirtual 104, 3) := by decide +kernel
theorem dX6_snapshotNumber_83 : decode cX6_snapshotNumber 83 = .ok (.ireturn, 1) := by decide +kernel
theorem dX6_snapshotNumber_84 : decode cX6_snapshotNumber 84 = .ok (.bipush (-2), 2) := by decide +kernel
theorem dX6_snapshotNumber_86 : decode cX6_snapshotNumber 86 = .ok (.ireturn, 1) := by decide +kernel
theorem dX6_snapshotAt_0 : decode cX6_snapshotAt 0 = .ok (.aload_n 0, 1) := by decide +kernel
theorem dX6_snapshotAt_1 : decode cX6_snapshotAt 1 = .ok (.aload_n 0, 1) := by decide +kernel
theorem dX6_snapshotAt_2 : decode cX6_snapshotAt 2 = .ok (.iload_n 1, 1) := by decide +kernel
theorem dX6_snapshotAt_3 : decode cX6_snapshotAt 3 = .ok (.invokevirtual 74, 3) := by decide +kernel
theorem dX6_snapshotAt_6 : decode cX6_snapshotAt 6 = .ok (.invokevirtual 128, 3) := by decide +kernel
theorem dX6_snapshotAt_9 : decode cX6_snapshotAt 9 = .ok (.ifCond .eq 5, 3) := by decide +kernel
theorem dX6_snapshotAt_12 : decode cX6_snapshotAt 12 = .ok (.iconst 0, 1) := by decide +kernel
theorem dX6_snapshotAt_13 : decode cX6_snapshotAt 13 = .ok (.ireturn, 1) := by decide +kernel
theorem dX6_snapshotAt_14 : decode cX6_snapshotAt 14 = .ok (.iload_n 2, 1) := by decide +kernel
theorem dX6_snapshotAt_15 : decode cX6_snapshotAt 15 = .ok (.iconst 0, 1) := by decide +kernel
theorem dX6_snapshotAt_16 : decode cX6_snapshotAt 16 = .ok (.aload_n 0, 1) := by decide +kernel
theorem dX6_snapshotAt_17 : decode cX6_snapshotAt 17 = .ok (.iload_n 1, 1) := by decide +kernel
theorem dX6_snapshotAt_18 : decode cX6_snapshotAt 18 = .ok (.iconst 4, 1) := by decide +kernel
theorem dX6_snapshotAt_19 : decode cX6_snapshotAt 19 = .ok (.invokevirtual 64, 3) := by decide +kernel
theorem dX6_snapshotAt_22 : decode cX6_snapshotAt 22 = .ok (.iconst 1, 1) := by decide +kernel
theorem dX6_snapshotAt_23 : decode cX6_snapshotAt 23 = .ok (.isub, 1) := by decide +kernel
theorem dX6_snapshotAt_24 : decode cX6_snapshotAt 24 = .ok (.invokestatic 60, 3) := by decide +kernel
theorem dX6_snapshotAt_27 : decode cX6_snapshotAt 27 = .ok (.ifCond .eq 14, 3) := by decide +kernel
theorem dX6_snapshotAt_30 : decode cX6_snapshotAt 30 = .ok (.aload_n 0, 1) := by decide +kernel
theorem dX6_snapshotAt_31 : decode cX6_snapshotAt 31 = .ok (.iload_n 1, 1) := by decide +kernel
theorem dX6_snapshotAt_32 : decode cX6_snapshotAt 32 = .ok (.iconst 5, 1) := by decide +kernel
theorem dX6_snapshotAt_33 : decode cX6_snapshotAt 33 = .ok (.iload_n 2, 1) := by decide +kernel
theorem dX6_snapshotAt_34 : decode cX6_snapshotAt 34 = .ok (.iadd, 1) := by decide +kernel
theorem dX6_snapshotAt_35 : decode cX6_snapshotAt 35 = .ok (.invokevirtual 64, 3) := by decide +kernel
theorem dX6_snapshotAt_38 : decode cX6_snapshotAt 38 = .ok (.goto 4, 3) := by decide +kernel
theorem dX6_snapshotAt_41 : decode cX6_snapshotAt 41 = .ok (.iconst (-1), 1) := by decide +kernel
theorem dX6_snapshotAt_42 : decode cX6_snapshotAt 42 = .ok (.ireturn, 1) := by decide +kernel
theorem dX6_clonesOf_0 : decode cX6_clonesOf 0 = .ok (.aload_n 0, 1) := by decide +kernel
theorem dX6_clonesOf_1 : decode cX6_clonesOf 1 = .ok (.aload_n 0, 1) := by decide +kernel
theorem dX6_clonesOf_2 : decode cX6_clonesOf 2 = .ok (.iload_n 1, 1) := by decide +kernel
theorem dX6_clonesOf_3 : decode cX6_clonesOf 3 = .ok (.invokevirtual 70, 3) := by decide +kernel
theorem dX6_clonesOf_6 : decode cX6_clonesOf 6 = .ok (.invokevirtual 128, 3) := by decide +kernel
theorem dX6_clonesOf_9 : decode cX6_clonesOf 9 = .ok (.ifCond .eq 7, 3) := by decide +kernel
theorem dX6_clonesOf_12 : decode cX6_clonesOf 12 = .ok (.iconst 0, 1) := by decide +kernel
theorem dX6_clonesOf_13 : decode cX6_clonesOf 13 = .ok (.goto 8, 3) := by decide +kernel
theorem dX6_clonesOf_16 : decode cX6_clonesOf 16 = .ok (.aload_n 0, 1) := by decide +kernel
theorem dX6_clonesOf_17 : decode cX6_clonesOf 17 = .ok (.iload_n 1, 1) := by decide +kernel
theorem dX6_clonesOf_18 : decode cX6_clonesOf 18 = .ok (.invokevirtual 132, 3) := by decide +kernel
theorem dX6_clonesOf_21 : decode cX6_clonesOf 21 = .ok (.ireturn, 1) := by decide +kernel
theorem dX6_before_0 : decode cX6_before 0 = .ok (.aload_n 0, 1) := by decide +kernel
theorem dX6_before_1 : decode cX6_before 1 = .ok (.aload_n 0, 1) := by decide +kernel
theorem dX6_before_2 : decode cX6_before 2 = .ok (.iload_n 1, 1) := by decide +kernel
theorem dX6_before_3 : decode cX6_before 3 = .ok (.invokevirtual 87, 3) := by decide +kernel
theorem dX6_before_6 : decode cX6_before 6 = .ok (.invokevirtual 128, 3) := by decide +kernel
theorem dX6_before_9 : decode cX6_before 9 = .ok (.ifCond .eq 7, 3) := by decide +kernel
theorem dX6_before_12 : decode cX6_before 12 = .ok (.iconst 0, 1) := by decide +kernel
theorem dX6_before_13 : decode cX6_before 13 = .ok (.goto 8, 3) := by decide +kernel
theorem dX6_before_16 : decode cX6_before 16 = .ok (.aload_n 0, 1) := by decide +kernel
theorem dX6_before_17 : decode cX6_before 17 = .ok (.iload_n 1, 1) := by decide +kernel
theorem dX6_before_18 : decode cX6_before 18 = .ok (.invokevirtual 110, 3) := by decide +kernel
theorem dX6_before_21 : decode cX6_before 21 = .ok (.ireturn, 1) := by decide +kernel
theorem dX6_behind_0 : decode cX6_behind 0 = .ok (.aload_n 0, 1) := by decide +kernel
theorem dX6_behind_1 : decode cX6_behind 1 = .ok (.aload_n 0, 1) := by decide +kernel
theorem dX6_behind_2 : decode cX6_behind 2 = .ok (.iload_n 1, 1) := by decide +kernel
theorem dX6_behind_3 : decode cX6_behind 3 = .ok (.invokevirtual 70, 3) := by decide +kernel
theorem dX6_behind_6 : decode cX6_behind 6 = .ok (.invokevirtual 128, 3) := by decide +kernel
theorem dX6_behind_9 : decode cX6_behind 9 = .ok (.ifCond .eq 7, 3) := by decide +kernel
theorem dX6_behind_12 : decode cX6_behind 12 = .ok (.iconst 0, 1) := by decide +kernel
theorem dX6_behind_13 : decode cX6_behind 13 = .ok (.goto 8, 3) := by decide +kernel
theorem dX6_behind_16 : decode cX6_behind 16 = .ok (.aload_n 0, 1) := by decide +kernel
theorem dX6_behind_17 : decode cX6_behind 17 = .ok (.iload_n 1, 1) := by decide +kernel
theorem dX6_behind_18 : decode cX6_behind 18 = .ok (.invokevirtual 135, 3) := by decide +kernel
theorem dX6_behind_21 : decode cX6_behind 21 = .ok (.ireturn, 1) := by decide +kernel
theorem dX6_depthOf_0 : decode cX6_depthOf 0 = .ok (.aload_n 0, 1) := by decide +kernel
theorem dX6_depthOf_1 : decode cX6_depthOf 1 = .ok (.aload_n 0, 1) := by decide +kernel
theorem dX6_depthOf_2 : decode cX6_depthOf 2 = .ok (.iload_n 1, 1) := by decide +kernel
theorem dX6_depthOf_3 : decode cX6_depthOf 3 = .ok (.invokevirtual 87, 3) := by decide +kernel
theorem dX6_depthOf_6 : decode cX6_depthOf 6 = .ok (.invokevirtual 128, 3) := by decide +kernel
theorem dX6_depthOf_9 : decode cX6_depthOf 9 = .ok (.ifCond .eq 7, 3) := by decide +kernel
theorem dX6_depthOf_12 : decode cX6_depthOf 12 = .ok (.iconst 0, 1) := by decide +kernel
theorem dX6_depthOf_13 : decode cX6_depthOf 13 = .ok (.goto 8, 3) := by decide +kernel
theorem dX6_depthOf_16 : decode cX6_depthOf 16 = .ok (.aload_n 0, 1) := by decide +kernel
theorem dX6_depthOf_17 : decode cX6_depthOf 17 = .ok (.iload_n 1, 1) := by decide +kernel
theorem dX6_depthOf_18 : decode cX6_depthOf 18 = .ok (.invokevirtual 138, 3) := by decide +kernel
theorem dX6_depthOf_21 : decode cX6_depthOf 21 = .ok (.ireturn, 1) := by decide +kernel
theorem dX6_common_0 : decode cX6_common 0 = .ok (.aload_n 0, 1) := by decide +kernel
theorem dX6_common_1 : decode cX6_common 1 = .ok (.aload_n 0, 1) := by decide +kernel
theorem dX6_common_2 : decode cX6_common 2 = .ok (.iload_n 1, 1) := by decide +kernel
theorem dX6_common_3 : decode cX6_common 3 = .ok (.invokevirtual 87, 3) := by decide +kernel
theorem dX6_common_6 : decode cX6_common 6 = .ok (.ifCond .eq 15, 3) := by decide +kernel
theorem dX6_common_9 : decode cX6_common 9 = .ok (.aload_n 0, 1) := by decide +kernel
theorem dX6_common_10 : decode cX6_common 10 = .ok (.iload_n 2, 1) := by decide +kernel
theorem dX6_common_11 : decode cX6_common 11 = .ok (.invokevirtual 87, 3) := by decide +kernel
theorem dX6_common_14 : decode cX6_common 14 = .ok (.ifCond .eq 7, 3) := by decide +kernel
theorem dX6_common_17 : decode cX6_common 17 = .ok (.iconst 1, 1) := by decide +kernel
theorem dX6_common_18 : decode cX6_common 18 = .ok (.goto 4, 3) := by decide +kernel
theorem dX6_common_21 : decode cX6_common 21 = .ok (.iconst 0, 1) := by decide +kernel
theorem dX6_common_22 : decode cX6_common 22 = .ok (.invokevirtual 128, 3) := by decide +kernel
theorem dX6_common_25 : decode cX6_common 25 = .ok (.ifCond .eq 5, 3) := by decide +kernel
theorem dX6_common_28 : decode cX6_common 28 = .ok (.iconst 0, 1) := by decide +kernel
theorem dX6_common_29 : decode cX6_common 29 = .ok (.ireturn, 1) := by decide +kernel
theorem dX6_common_30 : decode cX6_common 30 = .ok (.iload_n 1, 1) := by decide +kernel
theorem dX6_common_31 : decode cX6_common 31 = .ok (.istore_n 3, 1) := by decide +kernel
theorem dX6_common_32 : decode cX6_common 32 = .ok (.iload_n 3, 1) := by decide +kernel
theorem dX6_common_33 : decode cX6_common 33 = .ok (.ifCond .lt 39, 3) := by decide +kernel
theorem dX6_common_36 : decode cX6_common 36 = .ok (.iload_n 2, 1) := by decide +kernel
theorem dX6_common_37 : decode cX6_common 37 = .ok (.istore 4, 2) := by decide +kernel
theorem dX6_common_39 : decode cX6_common 39 = .ok (.iload 4, 2) := by decide +kernel
theorem dX6_common_41 : decode cX6_common 41 = .ok (.ifCond .lt 22, 3) := by decide +kernel
theorem dX6_common_44 : decode cX6_common 44 = .ok (.iload_n 3, 1) := by decide +kernel
theorem dX6_common_45 : decode cX6_common 45 = .ok (.iload 4, 2) := by decide +kernel
theorem dX6_common_47 : decode cX6_common 47 = .ok (.if_icmp .ne 5, 3) := by decide +kernel
theorem dX6_common_50 : decode cX6_common 50 = .ok (.iload_n 3, 1) := by decide +kernel
theorem dX6_common_51 : decode cX6_common 51 = .ok (.ireturn, 1) := by decide +kernel
theorem dX6_common_52 : decode cX6_common 52 = .ok (.aload_n 0, 1) := by decide +kernel
theorem dX6_common_53 : decode cX6_common 53 = .ok (.iload 4, 2) := by decide +kernel
theorem dX6_common_55 : decode cX6_common 55 = .ok (.invokevirtual 110, 3) := by decide +kernel
theorem dX6_common_58 : decode cX6_common 58 = .ok (.istore 4, 2) := by decide +kernel
theorem dX6_common_60 : decode cX6_common 60 = .ok (.goto (-21), 3) := by decide +kernel
theorem dX6_common_63 : decode cX6_common 63 = .ok (.aload_n 0, 1) := by decide +kernel
theorem dX6_common_64 : decode cX6_common 64 = .ok (.iload_n 3, 1) := by decide +kernel
theorem dX6_common_65 : decode cX6_common 65 = .ok (.invokevirtual 110, 3) := by decide +kernel
theorem dX6_common_68 : decode cX6_common 68 = .ok (.istore_n 3, 1) := by decide +kernel
theorem dX6_common_69 : decode cX6_common 69 = .ok (.goto (-37), 3) := by decide +kernel
theorem dX6_common_72 : decode cX6_common 72 = .ok (.iconst (-1), 1) := by decide +kernel
theorem dX6_common_73 : decode cX6_common 73 = .ok (.ireturn, 1) := by decide +kernel
theorem dX6_blockAt_0 : decode cX6_blockAt 0 = .ok (.aload_n 0, 1) := by decide +kernel
theorem dX6_blockAt_1 : decode cX6_blockAt 1 = .ok (.aload_n 0, 1) := by decide +kernel
theorem dX6_blockAt_2 : decode cX6_blockAt 2 = .ok (.iload_n 1, 1) := by decide +kernel
theorem dX6_blockAt_3 : decode cX6_blockAt 3 = .ok (.invokevirtual 87, 3) := by decide +kernel
theorem dX6_blockAt_6 : decode cX6_blockAt 6 = .ok (.ifCond .eq 14, 3) := by decide +kernel
theorem dX6_blockAt_9 : decode cX6_blockAt 9 = .ok (.iload_n 2, 1) := by decide +kernel
theorem dX6_blockAt_10 : decode cX6_blockAt 10 = .ok (.invokestatic 141, 3) := by decide +kernel
theorem dX6_blockAt_13 : decode cX6_blockAt 13 = .ok (.ifCond .eq 7, 3) := by decide +kernel
theorem dX6_blockAt_16 : decode cX6_blockAt 16 = .ok (.iconst 1, 1) := by decide +kernel
theorem dX6_blockAt_17 : decode cX6_blockAt 17 = .ok (.goto 4, 3) := by decide +kernel
theorem dX6_blockAt_20 : decode cX6_blockAt 20 = .ok (.iconst 0, 1) := by decide +kernel
theorem dX6_blockAt_21 : decode cX6_blockAt 21 = .ok (.invokevirtual 128, 3) := by decide +kernel
theorem dX6_blockAt_24 : decode cX6_blockAt 24 = .ok (.ifCond .eq 5, 3) := by decide +kernel
theorem dX6_blockAt_27 : decode cX6_blockAt 27 = .ok (.iconst 0, 1) := by decide +kernel
theorem dX6_blockAt_28 : decode cX6_blockAt 28 = .ok (.ireturn, 1) := by decide +kernel
theorem dX6_blockAt_29 : decode cX6_blockAt 29 = .ok (.aload_n 0, 1) := by decide +kernel
theorem dX6_blockAt_30 : decode cX6_blockAt 30 = .ok (.iload_n 1, 1) := by decide +kernel
theorem dX6_blockAt_31 : decode cX6_blockAt 31 = .ok (.iload_n 2, 1) := by decide +kernel
theorem dX6_blockAt_32 : decode cX6_blockAt 32 = .ok (.invokevirtual 77, 3) := by decide +kernel
theorem dX6_blockAt_35 : decode cX6_blockAt 35 = .ok (.ifCond .ne 7, 3) := by decide +kernel
theorem dX6_blockAt_38 : decode cX6_blockAt 38 = .ok (.iconst (-1), 1) := by decide +kernel
theorem dX6_blockAt_39 : decode cX6_blockAt 39 = .ok (.goto 9, 3) := by decide +kernel
theorem dX6_blockAt_42 : decode cX6_blockAt 42 = .ok (.aload_n 0, 1) := by decide +kernel
theorem dX6_blockAt_43 : decode cX6_blockAt 43 = .ok (.iload_n 1, 1) := by decide +kernel
theorem dX6_blockAt_44 : decode cX6_blockAt 44 = .ok (.iload_n 2, 1) := by decide +kernel
theorem dX6_blockAt_45 : decode cX6_blockAt 45 = .ok (.invokevirtual 77, 3) := by decide +kernel
theorem dX6_blockAt_48 : decode cX6_blockAt 48 = .ok (.ireturn, 1) := by decide +kernel
theorem dX6_sizeOf_0 : decode cX6_sizeOf 0 = .ok (.aload_n 0, 1) := by decide +kernel
theorem dX6_sizeOf_1 : decode cX6_sizeOf 1 = .ok (.iconst 0, 1) := by decide +kernel
theorem dX6_sizeOf_2 : decode cX6_sizeOf 2 = .ok (.putfield 43, 3) := by decide +kernel
theorem dX6_sizeOf_5 : decode cX6_sizeOf 5 = .ok (.iconst 0, 1) := by decide +kernel
theorem dX6_sizeOf_6 : decode cX6_sizeOf 6 = .ok (.istore_n 2, 1) := by decide +kernel
theorem dX6_sizeOf_7 : decode cX6_sizeOf 7 = .ok (.iload_n 2, 1) := by decide +kernel
theorem dX6_sizeOf_8 : decode cX6_sizeOf 8 = .ok (.bipush 22, 2) := by decide +kernel
theorem dX6_sizeOf_10 : decode cX6_sizeOf 10 = .ok (.if_icmp .ge 55, 3) := by decide +kernel
theorem dX6_sizeOf_13 : decode cX6_sizeOf 13 = .ok (.aload_n 0, 1) := by decide +kernel
theorem dX6_sizeOf_14 : decode cX6_sizeOf 14 = .ok (.iload_n 2, 1) := by decide +kernel
theorem dX6_sizeOf_15 : decode cX6_sizeOf 15 = .ok (.invokevirtual 87, 3) := by decide +kernel
theorem dX6_sizeOf_18 : decode cX6_sizeOf 18 = .ok (.ifCond .ne 6, 3) := by decide +kernel
theorem dX6_sizeOf_21 : decode cX6_sizeOf 21 = .ok (.goto 38, 3) := by decide +kernel
theorem dX6_sizeOf_24 : decode cX6_sizeOf 24 = .ok (.iconst 0, 1) := by decide +kernel
theorem dX6_sizeOf_25 : decode cX6_sizeOf 25 = .ok (.istore_n 3, 1) := by decide +kernel
theorem dX6_sizeOf_26 : decode cX6_sizeOf 26 = .ok (.iload_n 3, 1) := by decide +kernel
theorem dX6_sizeOf_27 : decode cX6_sizeOf 27 = .ok (.bipush 12, 2) := by decide +kernel
theorem dX6_sizeOf_29 : decode cX6_sizeOf 29 = .ok (.if_icmp .ge 30, 3) := by decide +kernel
theorem dX6_sizeOf_32 : decode cX6_sizeOf 32 = .ok (.aload_n 0, 1) := by decide +kernel
theorem dX6_sizeOf_33 : decode cX6_sizeOf 33 = .ok (.iload_n 2, 1) := by decide +kernel
theorem dX6_sizeOf_34 : decode cX6_sizeOf 34 = .ok (.iload_n 3, 1) := by decide +kernel
theorem dX6_sizeOf_35 : decode cX6_sizeOf 35 = .ok (.invokevirtual 77, 3) := by decide +kernel
theorem dX6_sizeOf_38 : decode cX6_sizeOf 38 = .ok (.iload_n 1, 1) := by decide +kernel
theorem dX6_sizeOf_39 : decode cX6_sizeOf 39 = .ok (.if_icmp .ne 14, 3) := by decide +kernel
theorem dX6_sizeOf_42 : decode cX6_sizeOf 42 = .ok (.iload_n 1, 1) := by decide +kernel
theorem dX6_sizeOf_43 : decode cX6_sizeOf 43 = .ok (.ifCond .eq 10, 3) := by decide +kernel
theorem dX6_sizeOf_46 : decode cX6_sizeOf 46 = .ok (.aload_n 0, 1) := by decide +kernel
theorem dX6_sizeOf_47 : decode cX6_sizeOf 47 = .ok (.iload_n 2, 1) := by decide +kernel
theorem dX6_sizeOf_48 : decode cX6_sizeOf 48 = .ok (.iload_n 3, 1) := by decide +kernel
theorem dX6_sizeOf_49 : decode cX6_sizeOf 49 = .ok (.invokevirtual 80, 3) := by decide +kernel
theorem dX6_sizeOf_52 : decode cX6_sizeOf 52 = .ok (.ireturn, 1) := by decide +kernel
theorem dX6_sizeOf_53 : decode cX6_sizeOf 53 = .ok (.iinc 3 1, 3) := by decide +kernel
theorem dX6_sizeOf_56 : decode cX6_sizeOf 56 = .ok (.goto (-30), 3) := by decide +kernel
theorem dX6_sizeOf_59 : decode cX6_sizeOf 59 = .ok (.iinc 2 1, 3) := by decide +kernel
theorem dX6_sizeOf_62 : decode cX6_sizeOf 62 = .ok (.goto (-55), 3) := by decide +kernel
theorem dX6_sizeOf_65 : decode cX6_sizeOf 65 = .ok (.iconst (-1), 1) := by decide +kernel
theorem dX6_sizeOf_66 : decode cX6_sizeOf 66 = .ok (.ireturn, 1) := by decide +kernel
theorem dX6_holders_0 : decode cX6_holders 0 = .ok (.aload_n 0, 1) := by decide +kernel
theorem dX6_holders_1 : decode cX6_holders 1 = .ok (.iconst 0, 1) := by decide +kernel
theorem dX6_holders_2 : decode cX6_holders 2 = .ok (.putfield 43, 3) := by decide +kernel
theorem dX6_holders_5 : decode cX6_holders 5 = .ok (.iload_n 1, 1) := by decide +kernel
theorem dX6_holders_6 : decode cX6_holders 6 = .ok (.ifCond .ne 7, 3) := by decide +kernel
theorem dX6_holders_9 : decode cX6_holders 9 = .ok (.iconst 0, 1) := by decide +kernel
theorem dX6_holders_10 : decode cX6_holders 10 = .ok (.goto 8, 3) := by decide +kernel
theorem dX6_holders_13 : decode cX6_holders 13 = .ok (.aload_n 0, 1) := by decide +kernel
theorem dX6_holders_14 : decode cX6_holders 14 = .ok (.iload_n 1, 1) := by decide +kernel
theorem dX6_holders_15 : decode cX6_holders 15 = .ok (.invokevirtual 94, 3) := by decide +kernel
theorem dX6_holders_18 : decode cX6_holders 18 = .ok (.ireturn, 1) := by decide +kernel
theorem dX6_used_0 : decode cX6_used 0 = .ok (.aload_n 0, 1) := by decide +kernel
theorem dX6_used_1 : decode cX6_used 1 = .ok (.iconst 0, 1) := by decide +kernel
theorem dX6_used_2 : decode cX6_used 2 = .ok (.putfield 43, 3) := by decide +kernel
theorem dX6_used_5 : decode cX6_used 5 = .ok (.aload_n 0, 1) := by decide +kernel
theorem dX6_used_6 : decode cX6_used 6 = .ok (.iconst 1, 1) := by decide +kernel
theorem dX6_used_7 : decode cX6_used 7 = .ok (.invokevirtual 113, 3) := by decide +kernel
theorem dX6_used_10 : decode cX6_used 10 = .ok (.ireturn, 1) := by decide +kernel
theorem dX6_referenced_0 : decode cX6_referenced 0 = .ok (.aload_n 0, 1) := by decide +kernel
theorem dX6_referenced_1 : decode cX6_referenced 1 = .ok (.aload_n 0, 1) := by decide +kernel
theorem dX6_referenced_2 : decode cX6_referenced 2 = .ok (.iload_n 1, 1) := by decide +kernel
theorem dX6_referenced_3 : decode cX6_referenced 3 = .ok (.invokevirtual 87, 3) := by decide +kernel
theorem dX6_referenced_6 : decode cX6_referenced 6 = .ok (.invokevirtual 128, 3) := by decide +kernel
theorem dX6_referenced_9 : decode cX6_referenced 9 = .ok (.ifCond .eq 7, 3) := by decide +kernel
theorem dX6_referenced_12 : decode cX6_referenced 12 = .ok (.iconst 0, 1) := by decide +kernel
theorem dX6_referenced_13 : decode cX6_referenced 13 = .ok (.goto 8, 3) := by decide +kernel
theorem dX6_referenced_16 : decode cX6_referenced 16 = .ok (.aload_n 0, 1) := by decide +kernel
theorem dX6_referenced_17 : decode cX6_referenced 17 = .ok (.iload_n 1, 1) := by decide +kernel
theorem dX6_referenced_18 : decode cX6_referenced 18 = .ok (.invokevirtual 144, 3) := by decide +kernel
theorem dX6_referenced_21 : decode cX6_referenced 21 = .ok (.ireturn, 1) := by decide +kernel
theorem dX6_exclusive_0 : decode cX6_exclusive 0 = .ok (.aload_n 0, 1) := by decide +kernel
theorem dX6_exclusive_1 : decode cX6_exclusive 1 = .ok (.aload_n 0, 1) := by decide +kernel
theorem dX6_exclusive_2 : decode cX6_exclusive 2 = .ok (.iload_n 1, 1) := by decide +kernel
theorem dX6_exclusive_3 : decode cX6_exclusive 3 = .ok (.invokevirtual 87, 3) := by decide +kernel
theorem dX6_exclusive_6 : decode cX6_exclusive 6 = .ok (.invokevirtual 128, 3) := by decide +kernel
theorem dX6_exclusive_9 : decode cX6_exclusive 9 = .ok (.ifCond .eq 7, 3) := by decide +kernel
theorem dX6_exclusive_12 : decode cX6_exclusive 12 = .ok (.iconst 0, 1) := by decide +kernel
theorem dX6_exclusive_13 : decode cX6_exclusive 13 = .ok (.goto 10, 3) := by decide +kernel
theorem dX6_exclusive_16 : decode cX6_exclusive 16 = .ok (.aload_n 0, 1) := by decide +kernel
theorem dX6_exclusive_17 : decode cX6_exclusive 17 = .ok (.iconst 1, 1) := by decide +kernel
theorem dX6_exclusive_18 : decode cX6_exclusive 18 = .ok (.iload_n 1, 1) := by decide +kernel
theorem dX6_exclusive_19 : decode cX6_exclusive 19 = .ok (.ishl, 1) := by decide +kernel
theorem dX6_exclusive_20 : decode cX6_exclusive 20 = .ok (.invokevirtual 147, 3) := by decide +kernel
theorem dX6_exclusive_23 : decode cX6_exclusive 23 = .ok (.ireturn, 1) := by decide +kernel
theorem dX6_shared_0 : decode cX6_shared 0 = .ok (.aload_n 0, 1) := by decide +kernel
theorem dX6_shared_1 : decode cX6_shared 1 = .ok (.aload_n 0, 1) := by decide +kernel
theorem dX6_shared_2 : decode cX6_shared 2 = .ok (.iload_n 1, 1) := by decide +kernel
theorem dX6_shared_3 : decode cX6_shared 3 = .ok (.invokevirtual 87, 3) := by decide +kernel
theorem dX6_shared_6 : decode cX6_shared 6 = .ok (.ifCond .eq 15, 3) := by decide +kernel
theorem dX6_shared_9 : decode cX6_shared 9 = .ok (.aload_n 0, 1) := by decide +kernel
theorem dX6_shared_10 : decode cX6_shared 10 = .ok (.iload_n 2, 1) := by decide +kernel
theorem dX6_shared_11 : decode cX6_shared 11 = .ok (.invokevirtual 87, 3) := by decide +kernel
theorem dX6_shared_14 : decode cX6_shared 14 = .ok (.ifCond .eq 7, 3) := by decide +kernel
theorem dX6_shared_17 : decode cX6_shared 17 = .ok (.iconst 1, 1) := by decide +kernel
theorem dX6_shared_18 : decode cX6_shared 18 = .ok (.goto 4, 3) := by decide +kernel
theorem dX6_shared_21 : decode cX6_shared 21 = .ok (.iconst 0, 1) := by decide +kernel
theorem dX6_shared_22 : decode cX6_shared 22 = .ok (.invokevirtual 128, 3) := by decide +kernel
theorem dX6_shared_25 : decode cX6_shared 25 = .ok (.ifCond .eq 5, 3) := by decide +kernel
theorem dX6_shared_28 : decode cX6_shared 28 = .ok (.iconst 0, 1) := by decide +kernel
theorem dX6_shared_29 : decode cX6_shared 29 = .ok (.ireturn, 1) := by decide +kernel
theorem dX6_shared_30 : decode cX6_shared 30 = .ok (.iconst 0, 1) := by decide +kernel
theorem dX6_shared_31 : decode cX6_shared 31 = .ok (.istore_n 3, 1) := by decide +kernel
theorem dX6_shared_32 : decode cX6_shared 32 = .ok (.iconst 0, 1) := by decide +kernel
theorem dX6_shared_33 : decode cX6_shared 33 = .ok (.istore 4, 2) := by decide +kernel
theorem dX6_shared_35 : decode cX6_shared 35 = .ok (.iload 4, 2) := by decide +kernel
theorem dX6_shared_37 : decode cX6_shared 37 = .ok (.bipush 12, 2) := by decide +kernel
theorem dX6_shared_39 : decode cX6_shared 39 = .ok (.if_icmp .ge 48, 3) := by decide +kernel
theorem dX6_shared_42 : decode cX6_shared 42 = .ok (.iload_n 3, 1) := by decide +kernel
theorem dX6_shared_43 : decode cX6_shared 43 = .ok (.aload_n 0, 1) := by decide +kernel
theorem dX6_shared_44 : decode cX6_shared 44 = .ok (.iload_n 1, 1) := by decide +kernel
theorem dX6_shared_45 : decode cX6_shared 45 = .ok (.iload 4, 2) := by decide +kernel
theorem dX6_shared_47 : decode cX6_shared 47 = .ok (.invokevirtual 77, 3) := by decide +kernel
theorem dX6_shared_50 : decode cX6_shared 50 = .ok (.ifCond .eq 28, 3) := by decide +kernel
theorem dX6_shared_53 : decode cX6_shared 53 = .ok (.aload_n 0, 1) := by decide +kernel
theorem dX6_shared_54 : decode cX6_shared 54 = .ok (.iload_n 2, 1) := by decide +kernel
theorem dX6_shared_55 : decode cX6_shared 55 = .ok (.aload_n 0, 1) := by decide +kernel
theorem dX6_shared_56 : decode cX6_shared 56 = .ok (.iload_n 1, 1) := by decide +kernel
theorem dX6_shared_57 : decode cX6_shared 57 = .ok (.iload 4, 2) := by decide +kernel
theorem dX6_shared_59 : decode cX6_shared 59 = .ok (.invokevirtual 77, 3) := by decide +kernel
theorem dX6_shared_62 : decode cX6_shared 62 = .ok (.invokevirtual 90, 3) := by decide +kernel
theorem dX6_shared_65 : decode cX6_shared 65 = .ok (.ifCond .eq 13, 3) := by decide +kernel
theorem dX6_shared_68 : decode cX6_shared 68 = .ok (.aload_n 0, 1) := by decide +kernel
theorem dX6_shared_69 : decode cX6_shared 69 = .ok (.iload_n 1, 1) := by decide +kernel
theorem dX6_shared_70 : decode cX6_shared 70 = .ok (.iload 4, 2) := by decide +kernel
theorem dX6_shared_72 : decode cX6_shared 72 = .ok (.invokevirtual 80, 3) := by decide +kernel
theorem dX6_shared_75 : decode cX6_shared 75 = .ok (.goto 4, 3) := by decide +kernel
theorem dX6_shared_78 : decode cX6_shared 78 = .ok (.iconst 0, 1) := by decide +kernel
theorem dX6_shared_79 : decode cX6_shared 79 = .ok (.iadd, 1) := by decide +kernel
theorem dX6_shared_80 : decode cX6_shared 80 = .ok (.istore_n 3, 1) := by decide +kernel
theorem dX6_shared_81 : decode cX6_shared 81 = .ok (.iinc 4 1, 3) := by decide +kernel
theorem dX6_shared_84 : decode cX6_shared 84 = .ok (.goto (-49), 3) := by decide +kernel
theorem dX6_shared_87 : decode cX6_shared 87 = .ok (.iload_n 3, 1) := by decide +kernel
theorem dX6_shared_88 : decode cX6_shared 88 = .ok (.ireturn, 1) := by decide +kernel
theorem dX6_unlike_0 : decode cX6_unlike 0 = .ok (.aload_n 0, 1) := by decide +kernel
theorem dX6_unlike_1 : decode cX6_unlike 1 = .ok (.aload_n 0, 1) := by decide +kernel
theorem dX6_unlike_2 : decode cX6_unlike 2 = .ok (.iload_n 1, 1) := by decide +kernel
theorem dX6_unlike_3 : decode cX6_unlike 3 = .ok (.invokevirtual 87, 3) := by decide +kernel
theorem dX6_unlike_6 : decode cX6_unlike 6 = .ok (.ifCond .eq 15, 3) := by decide +kernel
theorem dX6_unlike_9 : decode cX6_unlike 9 = .ok (.aload_n 0, 1) := by decide +kernel
theorem dX6_unlike_10 : decode cX6_unlike 10 = .ok (.iload_n 2, 1) := by decide +kernel
theorem dX6_unlike_11 : decode cX6_unlike 11 = .ok (.invokevirtual 87, 3) := by decide +kernel
theorem dX6_unlike_14 : decode cX6_unlike 14 = .ok (.ifCond .eq 7, 3) := by decide +kernel
theorem dX6_unlike_17 : decode cX6_unlike 17 = .ok (.iconst 1, 1) := by decide +kernel
theorem dX6_unlike_18 : decode cX6_unlike 18 = .ok (.goto 4, 3) := by decide +kernel
theorem dX6_unlike_21 : decode cX6_unlike 21 = .ok (.iconst 0, 1) := by decide +kernel
theorem dX6_unlike_22 : decode cX6_unlike 22 = .ok (.invokevirtual 128, 3) := by decide +kernel
theorem dX6_unlike_25 : decode cX6_unlike 25 = .ok (.ifCond .eq 5, 3) := by decide +kernel
theorem dX6_unlike_28 : decode cX6_unlike 28 = .ok (.iconst 0, 1) := by decide +kernel
theorem dX6_unlike_29 : decode cX6_unlike 29 = .ok (.ireturn, 1) := by decide +kernel
theorem dX6_unlike_30 : decode cX6_unlike 30 = .ok (.iconst 0, 1) := by decide +kernel
theorem dX6_unlike_31 : decode cX6_unlike 31 = .ok (.istore_n 3, 1) := by decide +kernel
theorem dX6_unlike_32 : decode cX6_unlike 32 = .ok (.iconst 0, 1) := by decide +kernel
theorem dX6_unlike_33 : decode cX6_unlike 33 = .ok (.istore 4, 2) := by decide +kernel
theorem dX6_unlike_35 : decode cX6_unlike 35 = .ok (.iload 4, 2) := by decide +kernel
theorem dX6_unlike_37 : decode cX6_unlike 37 = .ok (.bipush 12, 2) := by decide +kernel
theorem dX6_unlike_39 : decode cX6_unlike 39 = .ok (.if_icmp .ge 37, 3) := by decide +kernel
theorem dX6_unlike_42 : decode cX6_unlike 42 = .ok (.iload_n 3, 1) := by decide +kernel
theorem dX6_unlike_43 : decode cX6_unlike 43 = .ok (.aload_n 0, 1) := by decide +kernel
theorem dX6_unlike_44 : decode cX6_unlike 44 = .ok (.iload_n 1, 1) := by decide +kernel
theorem dX6_unlike_45 : decode cX6_unlike 45 = .ok (.iload 4, 2) := by decide +kernel
theorem dX6_unlike_47 : decode cX6_unlike 47 = .ok (.invokevirtual 77, 3) := by decide +kernel
theorem dX6_unlike_50 : decode cX6_unlike 50 = .ok (.aload_n 0, 1) := by decide +kernel
theorem dX6_unlike_51 : decode cX6_unlike 51 = .ok (.iload_n 2, 1) := by decide +kernel
theorem dX6_unlike_52 : decode cX6_unlike 52 = .ok (.iload 4, 2) := by decide +kernel
theorem dX6_unlike_54 : decode cX6_unlike 54 = .ok (.invokevirtual 77, 3) := by decide +kernel
theorem dX6_unlike_57 : decode cX6_unlike 57 = .ok (.if_icmp .eq 10, 3) := by decide +kernel
theorem dX6_unlike_60 : decode cX6_unlike 60 = .ok (.iconst 1, 1) := by decide +kernel
theorem dX6_unlike_61 : decode cX6_unlike 61 = .ok (.iload 4, 2) := by decide +kernel
theorem dX6_unlike_63 : decode cX6_unlike 63 = .ok (.ishl, 1) := by decide +kernel
theorem dX6_unlike_64 : decode cX6_unlike 64 = .ok (.goto 4, 3) := by decide +kernel
theorem dX6_unlike_67 : decode cX6_unlike 67 = .ok (.iconst 0, 1) := by decide +kernel
theorem dX6_unlike_68 : decode cX6_unlike 68 = .ok (.ior, 1) := by decide +kernel
theorem dX6_unlike_69 : decode cX6_unlike 69 = .ok (.istore_n 3, 1) := by decide +kernel
theorem dX6_unlike_70 : decode cX6_unlike 70 = .ok (.iinc 4 1, 3) := by decide +kernel
theorem dX6_unlike_73 : decode cX6_unlike 73 = .ok (.goto (-38), 3) := by decide +kernel
theorem dX6_unlike_76 : decode cX6_unlike 76 = .ok (.iload_n 3, 1) := by decide +kernel
theorem dX6_unlike_77 : decode cX6_unlike 77 = .ok (.ireturn, 1) := by decide +kernel
theorem dX6_writtenSince_0 : decode cX6_writtenSince 0 = .ok (.aload_n 0, 1) := by decide +kernel
theorem dX6_writtenSince_1 : decode cX6_writtenSince 1 = .ok (.aload_n 0, 1) := by decide +kernel
theorem dX6_writtenSince_2 : decode cX6_writtenSince 2 = .ok (.iload_n 1, 1) := by decide +kernel
theorem dX6_writtenSince_3 : decode cX6_writtenSince 3 = .ok (.invokevirtual 74, 3) := by decide +kernel
theorem dX6_writtenSince_6 : decode cX6_writtenSince 6 = .ok (.ifCond .eq 15, 3) := by decide +kernel
theorem dX6_writtenSince_9 : decode cX6_writtenSince 9 = .ok (.aload_n 0, 1) := by decide +kernel
theorem dX6_writtenSince_10 : decode cX6_writtenSince 10 = .ok (.iload_n 2, 1) := by decide +kernel
theorem dX6_writtenSince_11 : decode cX6_writtenSince 11 = .ok (.invokevirtual 70, 3) := by decide +kernel
theorem dX6_writtenSince_14 : decode cX6_writtenSince 14 = .ok (.ifCond .eq 7, 3) := by decide +kernel
theorem dX6_writtenSince_17 : decode cX6_writtenSince 17 = .ok (.iconst 1, 1) := by decide +kernel
theorem dX6_writtenSince_18 : decode cX6_writtenSince 18 = .ok (.goto 4, 3) := by decide +kernel
theorem dX6_writtenSince_21 : decode cX6_writtenSince 21 = .ok (.iconst 0, 1) := by decide +kernel
theorem dX6_writtenSince_22 : decode cX6_writtenSince 22 = .ok (.invokevirtual 128, 3) := by decide +kernel
theorem dX6_writtenSince_25 : decode cX6_writtenSince 25 = .ok (.ifCond .eq 5, 3) := by decide +kernel
theorem dX6_writtenSince_28 : decode cX6_writtenSince 28 = .ok (.iconst 0, 1) := by decide +kernel
theorem dX6_writtenSince_29 : decode cX6_writtenSince 29 = .ok (.ireturn, 1) := by decide +kernel
theorem dX6_writtenSince_30 : decode cX6_writtenSince 30 = .ok (.iconst 0, 1) := by decide +kernel
theorem dX6_writtenSince_31 : decode cX6_writtenSince 31 = .ok (.istore_n 3, 1) := by decide +kernel
theorem dX6_writtenSince_32 : decode cX6_writtenSince 32 = .ok (.iconst 0, 1) := by decide +kernel
theorem dX6_writtenSince_33 : decode cX6_writtenSince 33 = .ok (.istore 4, 2) := by decide +kernel
theorem dX6_writtenSince_35 : decode cX6_writtenSince 35 = .ok (.iload 4, 2) := by decide +kernel
theorem dX6_writtenSince_37 : decode cX6_writtenSince 37 = .ok (.bipush 12, 2) := by decide +kernel
theorem dX6_writtenSince_39 : decode cX6_writtenSince 39 = .ok (.if_icmp .ge 45, 3) := by decide +kernel
theorem dX6_writtenSince_42 : decode cX6_writtenSince 42 = .ok (.iload_n 3, 1) := by decide +kernel
theorem dX6_writtenSince_43 : decode cX6_writtenSince 43 = .ok (.aload_n 0, 1) := by decide +kernel
theorem dX6_writtenSince_44 : decode cX6_writtenSince 44 = .ok (.bipush 16, 2) := by decide +kernel
theorem dX6_writtenSince_46 : decode cX6_writtenSince 46 = .ok (.iload_n 1, 1) := by decide +kernel
theorem dX6_writtenSince_47 : decode cX6_writtenSince 47 = .ok (.iadd, 1) := by decide +kernel
theorem dX6_writtenSince_48 : decode cX6_writtenSince 48 = .ok (.iload 4, 2) := by decide +kernel
theorem dX6_writtenSince_50 : decode cX6_writtenSince 50 = .ok (.invokevirtual 77, 3) := by decide +kernel
theorem dX6_writtenSince_53 : decode cX6_writtenSince 53 = .ok (.aload_n 0, 1) := by decide +kernel
theorem dX6_writtenSince_54 : decode cX6_writtenSince 54 = .ok (.iload_n 2, 1) := by decide +kernel
theorem dX6_writtenSince_55 : decode cX6_writtenSince 55 = .ok (.iconst 2, 1) := by decide +kernel
theorem dX6_writtenSince_56 : decode cX6_writtenSince 56 = .ok (.invokevirtual 67, 3) := by decide +kernel
theorem dX6_writtenSince_59 : decode cX6_writtenSince 59 = .ok (.if_icmp .le 16, 3) := by decide +kernel
theorem dX6_writtenSince_62 : decode cX6_writtenSince 62 = .ok (.aload_n 0, 1) := by decide +kernel
theorem dX6_writtenSince_63 : decode cX6_writtenSince 63 = .ok (.bipush 16, 2) := by decide +kernel
theorem dX6_writtenSince_65 : decode cX6_writtenSince 65 = .ok (.iload_n 1, 1) := by decide +kernel
theorem dX6_writtenSince_66 : decode cX6_writtenSince 66 = .ok (.iadd, 1) := by decide +kernel
theorem dX6_writtenSince_67 : decode cX6_writtenSince 67 = .ok (.iload 4, 2) := by decide +kernel
theorem dX6_writtenSince_69 : decode cX6_writtenSince 69 = .ok (.invokevirtual 80, 3) := by decide +kernel
theorem dX6_writtenSince_72 : decode cX6_writtenSince 72 = .ok (.goto 4, 3) := by decide +kernel
theorem dX6_writtenSince_75 : decode cX6_writtenSince 75 = .ok (.iconst 0, 1) := by decide +kernel
theorem dX6_writtenSince_76 : decode cX6_writtenSince 76 = .ok (.iadd, 1) := by decide +kernel
theorem dX6_writtenSince_77 : decode cX6_writtenSince 77 = .ok (.istore_n 3, 1) := by decide +kernel
theorem dX6_writtenSince_78 : decode cX6_writtenSince 78 = .ok (.iinc 4 1, 3) := by decide +kernel
theorem dX6_writtenSince_81 : decode cX6_writtenSince 81 = .ok (.goto (-46), 3) := by decide +kernel
theorem dX6_writtenSince_84 : decode cX6_writtenSince 84 = .ok (.iload_n 3, 1) := by decide +kernel
theorem dX6_writtenSince_85 : decode cX6_writtenSince 85 = .ok (.ireturn, 1) := by decide +kernel
theorem dX6_birthIn_0 : decode cX6_birthIn 0 = .ok (.aload_n 0, 1) := by decide +kernel
theorem dX6_birthIn_1 : decode cX6_birthIn 1 = .ok (.aload_n 0, 1) := by decide +kernel
theorem dX6_birthIn_2 : decode cX6_birthIn 2 = .ok (.iload_n 1, 1) := by decide +kernel
theorem dX6_birthIn_3 : decode cX6_birthIn 3 = .ok (.invokevirtual 87, 3) := by decide +kernel
theorem dX6_birthIn_6 : decode cX6_birthIn 6 = .ok (.invokevirtual 128, 3) := by decide +kernel
theorem dX6_birthIn_9 : decode cX6_birthIn 9 = .ok (.ifCond .eq 5, 3) := by decide +kernel
theorem dX6_birthIn_12 : decode cX6_birthIn 12 = .ok (.iconst 0, 1) := by decide +kernel
theorem dX6_birthIn_13 : decode cX6_birthIn 13 = .ok (.ireturn, 1) := by decide +kernel
theorem dX6_birthIn_14 : decode cX6_birthIn 14 = .ok (.iconst (-1), 1) := by decide +kernel
theorem dX6_birthIn_15 : decode cX6_birthIn 15 = .ok (.istore_n 3, 1) := by decide +kernel
theorem dX6_birthIn_16 : decode cX6_birthIn 16 = .ok (.iconst 0, 1) := by decide +kernel
theorem dX6_birthIn_17 : decode cX6_birthIn 17 = .ok (.istore 4, 2) := by decide +kernel
theorem dX6_birthIn_19 : decode cX6_birthIn 19 = .ok (.iload 4, 2) := by decide +kernel
theorem dX6_birthIn_21 : decode cX6_birthIn 21 = .ok (.bipush 12, 2) := by decide +kernel
theorem dX6_birthIn_23 : decode cX6_birthIn 23 = .ok (.if_icmp .ge 45, 3) := by decide +kernel
theorem dX6_birthIn_26 : decode cX6_birthIn 26 = .ok (.aload_n 0, 1) := by decide +kernel
theorem dX6_birthIn_27 : decode cX6_birthIn 27 = .ok (.iload_n 1, 1) := by decide +kernel
theorem dX6_birthIn_28 : decode cX6_birthIn 28 = .ok (.iload 4, 2) := by decide +kernel
theorem dX6_birthIn_30 : decode cX6_birthIn 30 = .ok (.invokevirtual 77, 3) := by decide +kernel
theorem dX6_birthIn_33 : decode cX6_birthIn 33 = .ok (.istore 5, 2) := by decide +kernel
theorem dX6_birthIn_35 : decode cX6_birthIn 35 = .ok (.iload 5, 2) := by decide +kernel
theorem dX6_birthIn_37 : decode cX6_birthIn 37 = .ok (.ifCond .eq 25, 3) := by decide +kernel
theorem dX6_birthIn_40 : decode cX6_birthIn 40 = .ok (.iload_n 3, 1) := by decide +kernel
theorem dX6_birthIn_41 : decode cX6_birthIn 41 = .ok (.ifCond .lt 18, 3) := by decide +kernel
theorem dX6_birthIn_44 : decode cX6_birthIn 44 = .ok (.iload_n 2, 1) := by decide +kernel
theorem dX6_birthIn_45 : decode cX6_birthIn 45 = .ok (.iload 5, 2) := by decide +kernel
theorem dX6_birthIn_47 : decode cX6_birthIn 47 = .ok (.iload_n 3, 1) := by decide +kernel
theorem dX6_birthIn_48 : decode cX6_birthIn 48 = .ok (.if_icmp .le 7, 3) := by decide +kernel
theorem dX6_birthIn_51 : decode cX6_birthIn 51 = .ok (.iconst 1, 1) := by decide +kernel
theorem dX6_birthIn_52 : decode cX6_birthIn 52 = .ok (.goto 4, 3) := by decide +kernel
theorem dX6_birthIn_55 : decode cX6_birthIn 55 = .ok (.iconst 0, 1) := by decide +kernel
theorem dX6_birthIn_56 : decode cX6_birthIn 56 = .ok (.if_icmp .ne 6, 3) := by decide +kernel
theorem dX6_birthIn_59 : decode cX6_birthIn 59 = .ok (.iload 5, 2) := by decide +kernel
theorem dX6_birthIn_61 : decode cX6_birthIn 61 = .ok (.istore_n 3, 1) := by decide +kernel
theorem dX6_birthIn_62 : decode cX6_birthIn 62 = .ok (.iinc 4 1, 3) := by decide +kernel
theorem dX6_birthIn_65 : decode cX6_birthIn 65 = .ok (.goto (-46), 3) := by decide +kernel
theorem dX6_birthIn_68 : decode cX6_birthIn 68 = .ok (.iload_n 3, 1) := by decide +kernel
theorem dX6_birthIn_69 : decode cX6_birthIn 69 = .ok (.ireturn, 1) := by decide +kernel
theorem dX6_sameAt_0 : decode cX6_sameAt 0 = .ok (.aload_n 0, 1) := by decide +kernel
theorem dX6_sameAt_1 : decode cX6_sameAt 1 = .ok (.aload_n 0, 1) := by decide +kernel
theorem dX6_sameAt_2 : decode cX6_sameAt 2 = .ok (.iload_n 1, 1) := by decide +kernel
theorem dX6_sameAt_3 : decode cX6_sameAt 3 = .ok (.invokevirtual 87, 3) := by decide +kernel
theorem dX6_sameAt_6 : decode cX6_sameAt 6 = .ok (.ifCond .eq 14, 3) := by decide +kernel
theorem dX6_sameAt_9 : decode cX6_sameAt 9 = .ok (.iload_n 2, 1) := by decide +kernel
theorem dX6_sameAt_10 : decode cX6_sameAt 10 = .ok (.invokestatic 141, 3) := by decide +kernel
theorem dX6_sameAt_13 : decode cX6_sameAt 13 = .ok (.ifCond .eq 7, 3) := by decide +kernel
theorem dX6_sameAt_16 : decode cX6_sameAt 16 = .ok (.iconst 1, 1) := by decide +kernel
theorem dX6_sameAt_17 : decode cX6_sameAt 17 = .ok (.goto 4, 3) := by decide +kernel
theorem dX6_sameAt_20 : decode cX6_sameAt 20 = .ok (.iconst 0, 1) := by decide +kernel
theorem dX6_sameAt_21 : decode cX6_sameAt 21 = .ok (.invokevirtual 128, 3) := by decide +kernel
theorem dX6_sameAt_24 : decode cX6_sameAt 24 = .ok (.ifCond .eq 5, 3) := by decide +kernel
theorem dX6_sameAt_27 : decode cX6_sameAt 27 = .ok (.iconst 0, 1) := by decide +kernel
theorem dX6_sameAt_28 : decode cX6_sameAt 28 = .ok (.ireturn, 1) := by decide +kernel
theorem dX6_sameAt_29 : decode cX6_sameAt 29 = .ok (.iconst 0, 1) := by decide +kernel
theorem dX6_sameAt_30 : decode cX6_sameAt 30 = .ok (.istore_n 3, 1) := by decide +kernel
theorem dX6_sameAt_31 : decode cX6_sameAt 31 = .ok (.iconst 0, 1) := by decide +kernel
theorem dX6_sameAt_32 : decode cX6_sameAt 32 = .ok (.istore 4, 2) := by decide +kernel
theorem dX6_sameAt_34 : decode cX6_sameAt 34 = .ok (.iload 4, 2) := by decide +kernel
theorem dX6_sameAt_36 : decode cX6_sameAt 36 = .ok (.bipush 22, 2) := by decide +kernel
theorem dX6_sameAt_38 : decode cX6_sameAt 38 = .ok (.if_icmp .ge 45, 3) := by decide +kernel
theorem dX6_sameAt_41 : decode cX6_sameAt 41 = .ok (.iload_n 3, 1) := by decide +kernel
theorem dX6_sameAt_42 : decode cX6_sameAt 42 = .ok (.aload_n 0, 1) := by decide +kernel
theorem dX6_sameAt_43 : decode cX6_sameAt 43 = .ok (.iload 4, 2) := by decide +kernel
theorem dX6_sameAt_45 : decode cX6_sameAt 45 = .ok (.invokevirtual 87, 3) := by decide +kernel
theorem dX6_sameAt_48 : decode cX6_sameAt 48 = .ok (.ifCond .eq 26, 3) := by decide +kernel
theorem dX6_sameAt_51 : decode cX6_sameAt 51 = .ok (.aload_n 0, 1) := by decide +kernel
theorem dX6_sameAt_52 : decode cX6_sameAt 52 = .ok (.iload 4, 2) := by decide +kernel
theorem dX6_sameAt_54 : decode cX6_sameAt 54 = .ok (.iload_n 2, 1) := by decide +kernel
theorem dX6_sameAt_55 : decode cX6_sameAt 55 = .ok (.invokevirtual 77, 3) := by decide +kernel
theorem dX6_sameAt_58 : decode cX6_sameAt 58 = .ok (.aload_n 0, 1) := by decide +kernel
theorem dX6_sameAt_59 : decode cX6_sameAt 59 = .ok (.iload_n 1, 1) := by decide +kernel
theorem dX6_sameAt_60 : decode cX6_sameAt 60 = .ok (.iload_n 2, 1) := by decide +kernel
theorem dX6_sameAt_61 : decode cX6_sameAt 61 = .ok (.invokevirtual 77, 3) := by decide +kernel
theorem dX6_sameAt_64 : decode cX6_sameAt 64 = .ok (.if_icmp .ne 10, 3) := by decide +kernel
theorem dX6_sameAt_67 : decode cX6_sameAt 67 = .ok (.iconst 1, 1) := by decide +kernel
theorem dX6_sameAt_68 : decode cX6_sameAt 68 = .ok (.iload 4, 2) := by decide +kernel
theorem dX6_sameAt_70 : decode cX6_sameAt 70 = .ok (.ishl, 1) := by decide +kernel
theorem dX6_sameAt_71 : decode cX6_sameAt 71 = .ok (.goto 4, 3) := by decide +kernel
theorem dX6_sameAt_74 : decode cX6_sameAt 74 = .ok (.iconst 0, 1) := by decide +kernel
theorem dX6_sameAt_75 : decode cX6_sameAt 75 = .ok (.ior, 1) := by decide +kernel
theorem dX6_sameAt_76 : decode cX6_sameAt 76 = .ok (.istore_n 3, 1) := by decide +kernel
theorem dX6_sameAt_77 : decode cX6_sameAt 77 = .ok (.iinc 4 1, 3) := by decide +kernel
theorem dX6_sameAt_80 : decode cX6_sameAt 80 = .ok (.goto (-46), 3) := by decide +kernel
theorem dX6_sameAt_83 : decode cX6_sameAt 83 = .ok (.iload_n 3, 1) := by decide +kernel
theorem dX6_sameAt_84 : decode cX6_sameAt 84 = .ok (.ireturn, 1) := by decide +kernel
theorem dX6_besideOrigin_0 : decode cX6_besideOrigin 0 = .ok (.aload_n 0, 1) := by decide +kernel
theorem dX6_besideOrigin_1 : decode cX6_besideOrigin 1 = .ok (.aload_n 0, 1) := by decide +kernel
theorem dX6_besideOrigin_2 : decode cX6_besideOrigin 2 = .ok (.iload_n 1, 1) := by decide +kernel
theorem dX6_besideOrigin_3 : decode cX6_besideOrigin 3 = .ok (.invokevirtual 74, 3) := by decide +kernel
theorem dX6_besideOrigin_6 : decode cX6_besideOrigin 6 = .ok (.invokevirtual 128, 3) := by decide +kernel
theorem dX6_besideOrigin_9 : decode cX6_besideOrigin 9 = .ok (.ifCond .eq 5, 3) := by decide +kernel
theorem dX6_besideOrigin_12 : decode cX6_besideOrigin 12 = .ok (.iconst 0, 1) := by decide +kernel
theorem dX6_besideOrigin_13 : decode cX6_besideOrigin 13 = .ok (.ireturn, 1) := by decide +kernel
theorem dX6_besideOrigin_14 : decode cX6_besideOrigin 14 = .ok (.aload_n 0, 1) := by decide +kernel
theorem dX6_besideOrigin_15 : decode cX6_besideOrigin 15 = .ok (.iload_n 1, 1) := by decide +kernel
theorem dX6_besideOrigin_16 : decode cX6_besideOrigin 16 = .ok (.iconst 0, 1) := by decide +kernel
theorem dX6_besideOrigin_17 : decode cX6_besideOrigin 17 = .ok (.invokevirtual 150, 3) := by decide +kernel
theorem dX6_besideOrigin_20 : decode cX6_besideOrigin 20 = .ok (.iconst 1, 1) := by decide +kernel
theorem dX6_besideOrigin_21 : decode cX6_besideOrigin 21 = .ok (.bipush 16, 2) := by decide +kernel
theorem dX6_besideOrigin_23 : decode cX6_besideOrigin 23 = .ok (.iload_n 1, 1) := by decide +kernel
theorem dX6_besideOrigin_24 : decode cX6_besideOrigin 24 = .ok (.iadd, 1) := by decide +kernel
theorem dX6_besideOrigin_25 : decode cX6_besideOrigin 25 = .ok (.ishl, 1) := by decide +kernel
theorem dX6_besideOrigin_26 : decode cX6_besideOrigin 26 = .ok (.ior, 1) := by decide +kernel
theorem dX6_besideOrigin_27 : decode cX6_besideOrigin 27 = .ok (.istore_n 2, 1) := by decide +kernel
theorem dX6_besideOrigin_28 : decode cX6_besideOrigin 28 = .ok (.iconst 0, 1) := by decide +kernel
theorem dX6_besideOrigin_29 : decode cX6_besideOrigin 29 = .ok (.istore_n 3, 1) := by decide +kernel
theorem dX6_besideOrigin_30 : decode cX6_besideOrigin 30 = .ok (.iconst 0, 1) := by decide +kernel
theorem dX6_besideOrigin_31 : decode cX6_besideOrigin 31 = .ok (.istore 4, 2) := by decide +kernel
theorem dX6_besideOrigin_33 : decode cX6_besideOrigin 33 = .ok (.iload 4, 2) := by decide +kernel
theorem dX6_besideOrigin_35 : decode cX6_besideOrigin 35 = .ok (.bipush 22, 2) := by decide +kernel
theorem dX6_besideOrigin_37 : decode cX6_besideOrigin 37 = .ok (.if_icmp .ge 107, 3) := by decide +kernel
theorem dX6_besideOrigin_40 : decode cX6_besideOrigin 40 = .ok (.iconst 0, 1) := by decide +kernel
theorem dX6_besideOrigin_41 : decode cX6_besideOrigin 41 = .ok (.istore 5, 2) := by decide +kernel
theorem dX6_besideOrigin_43 : decode cX6_besideOrigin 43 = .ok (.iload 5, 2) := by decide +kernel
theorem dX6_besideOrigin_45 : decode cX6_besideOrigin 45 = .ok (.bipush 12, 2) := by decide +kernel
theorem dX6_besideOrigin_47 : decode cX6_besideOrigin 47 = .ok (.if_icmp .ge 91, 3) := by decide +kernel
theorem dX6_besideOrigin_50 : decode cX6_besideOrigin 50 = .ok (.iload_n 2, 1) := by decide +kernel
theorem dX6_besideOrigin_51 : decode cX6_besideOrigin 51 = .ok (.iload 4, 2) := by decide +kernel
theorem dX6_besideOrigin_53 : decode cX6_besideOrigin 53 = .ok (.invokestatic 101, 3) := by decide +kernel
theorem dX6_besideOrigin_56 : decode cX6_besideOrigin 56 = .ok (.ifCond .eq 82, 3) := by decide +kernel
theorem dX6_besideOrigin_59 : decode cX6_besideOrigin 59 = .ok (.aload_n 0, 1) := by decide +kernel
theorem dX6_besideOrigin_60 : decode cX6_besideOrigin 60 = .ok (.iload 4, 2) := by decide +kernel
theorem dX6_besideOrigin_62 : decode cX6_besideOrigin 62 = .ok (.iload 5, 2) := by decide +kernel
theorem dX6_besideOrigin_64 : decode cX6_besideOrigin 64 = .ok (.invokevirtual 77, 3) := by decide +kernel
theorem dX6_besideOrigin_67 : decode cX6_besideOrigin 67 = .ok (.istore 6, 2) := by decide +kernel
theorem dX6_besideOrigin_69 : decode cX6_besideOrigin 69 = .ok (.iload 6, 2) := by decide +kernel
theorem dX6_besideOrigin_71 : decode cX6_besideOrigin 71 = .ok (.ifCond .eq 61, 3) := by decide +kernel
theorem dX6_besideOrigin_74 : decode cX6_besideOrigin 74 = .ok (.aload_n 0, 1) := by decide +kernel
theorem dX6_besideOrigin_75 : decode cX6_besideOrigin 75 = .ok (.iload 6, 2) := by decide +kernel
theorem dX6_besideOrigin_77 : decode cX6_besideOrigin 77 = .ok (.invokevirtual 94, 3) := by decide +kernel
theorem dX6_besideOrigin_80 : decode cX6_besideOrigin 80 = .ok (.iload_n 2, 1) := by decide +kernel
theorem dX6_besideOrigin_81 : decode cX6_besideOrigin 81 = .ok (.iand, 1) := by decide +kernel
theorem dX6_besideOrigin_82 : decode cX6_besideOrigin 82 = .ok (.iconst 1, 1) := by decide +kernel
theorem dX6_besideOrigin_83 : decode cX6_besideOrigin 83 = .ok (.iload 4, 2) := by decide +kernel
theorem dX6_besideOrigin_85 : decode cX6_besideOrigin 85 = .ok (.ishl, 1) := by decide +kernel
theorem dX6_besideOrigin_86 : decode cX6_besideOrigin 86 = .ok (.iconst 1, 1) := by decide +kernel
theorem dX6_besideOrigin_87 : decode cX6_besideOrigin 87 = .ok (.isub, 1) := by decide +kernel
theorem dX6_besideOrigin_88 : decode cX6_besideOrigin 88 = .ok (.iand, 1) := by decide +kernel
theorem dX6_besideOrigin_89 : decode cX6_besideOrigin 89 = .ok (.ifCond .eq 6, 3) := by decide +kernel
theorem dX6_besideOrigin_92 : decode cX6_besideOrigin 92 = .ok (.goto 40, 3) := by decide +kernel
theorem dX6_besideOrigin_95 : decode cX6_besideOrigin 95 = .ok (.iload_n 3, 1) := by decide +kernel
theorem dX6_besideOrigin_96 : decode cX6_besideOrigin 96 = .ok (.aload_n 0, 1) := by decide +kernel
theorem dX6_besideOrigin_97 : decode cX6_besideOrigin 97 = .ok (.iload_n 1, 1) := by decide +kernel
theorem dX6_besideOrigin_98 : decode cX6_besideOrigin 98 = .ok (.invokevirtual 107, 3) := by decide +kernel
theorem dX6_besideOrigin_101 : decode cX6_besideOrigin 101 = .ok (.ifCond .lt 17, 3) := by decide +kernel
theorem dX6_besideOrigin_104 : decode cX6_besideOrigin 104 = .ok (.aload_n 0, 1) := by decide +kernel
theorem dX6_besideOrigin_105 : decode cX6_besideOrigin 105 = .ok (.aload_n 0, 1) := by decide +kernel
theorem dX6_besideOrigin_106 : decode cX6_besideOrigin 106 = .ok (.iload_n 1, 1) := by decide +kernel
theorem dX6_besideOrigin_107 : decode cX6_besideOrigin 107 = .ok (.invokevirtual 107, 3) := by decide +kernel
theorem dX6_besideOrigin_110 : decode cX6_besideOrigin 110 = .ok (.iload 6, 2) := by decide +kernel
theorem dX6_besideOrigin_112 : decode cX6_besideOrigin 112 = .ok (.invokevirtual 90, 3) := by decide +kernel
theorem dX6_besideOrigin_115 : decode cX6_besideOrigin 115 = .ok (.ifCond .ne 14, 3) := by decide +kernel
theorem dX6_besideOrigin_118 : decode cX6_besideOrigin 118 = .ok (.aload_n 0, 1) := by decide +kernel
theorem dX6_besideOrigin_119 : decode cX6_besideOrigin 119 = .ok (.iload 4, 2) := by decide +kernel
theorem dX6_besideOrigin_121 : decode cX6_besideOrigin 121 = .ok (.iload 5, 2) := by decide +kernel
theorem dX6_besideOrigin_123 : decode cX6_besideOrigin 123 = .ok (.invokevirtual 80, 3) := by decide +kernel
theorem dX6_besideOrigin_126 : decode cX6_besideOrigin 126 = .ok (.goto 4, 3) := by decide +kernel
theorem dX6_besideOrigin_129 : decode cX6_besideOrigin 129 = .ok (.iconst 0, 1) := by decide +kernel
theorem dX6_besideOrigin_130 : decode cX6_besideOrigin 130 = .ok (.iadd, 1) := by decide +kernel
theorem dX6_besideOrigin_131 : decode cX6_besideOrigin 131 = .ok (.istore_n 3, 1) := by decide +kernel
theorem dX6_besideOrigin_132 : decode cX6_besideOrigin 132 = .ok (.iinc 5 1, 3) := by decide +kernel
theorem dX6_besideOrigin_135 : decode cX6_besideOrigin 135 = .ok (.goto (-92), 3) := by decide +kernel
theorem dX6_besideOrigin_138 : decode cX6_besideOrigin 138 = .ok (.iinc 4 1, 3) := by decide +kernel
theorem dX6_besideOrigin_141 : decode cX6_besideOrigin 141 = .ok (.goto (-108), 3) := by decide +kernel
theorem dX6_besideOrigin_144 : decode cX6_besideOrigin 144 = .ok (.iload_n 3, 1) := by decide +kernel
theorem dX6_besideOrigin_145 : decode cX6_besideOrigin 145 = .ok (.ireturn, 1) := by decide +kernel
theorem dX6_goesWith_0 : decode cX6_goesWith 0 = .ok (.aload_n 0, 1) := by decide +kernel
theorem dX6_goesWith_1 : decode cX6_goesWith 1 = .ok (.bipush 16, 2) := by decide +kernel
theorem dX6_goesWith_3 : decode cX6_goesWith 3 = .ok (.iload_n 1, 1) := by decide +kernel
theorem dX6_goesWith_4 : decode cX6_goesWith 4 = .ok (.iadd, 1) := by decide +kernel
theorem dX6_goesWith_5 : decode cX6_goesWith 5 = .ok (.iload_n 2, 1) := by decide +kernel
theorem dX6_goesWith_6 : decode cX6_goesWith 6 = .ok (.invokevirtual 77, 3) := by decide +kernel
theorem dX6_goesWith_9 : decode cX6_goesWith 9 = .ok (.istore_n 3, 1) := by decide +kernel
theorem dX6_goesWith_10 : decode cX6_goesWith 10 = .ok (.iload_n 3, 1) := by decide +kernel
theorem dX6_goesWith_11 : decode cX6_goesWith 11 = .ok (.ifCond .eq 29, 3) := by decide +kernel
theorem dX6_goesWith_14 : decode cX6_goesWith 14 = .ok (.aload_n 0, 1) := by decide +kernel
theorem dX6_goesWith_15 : decode cX6_goesWith 15 = .ok (.iload_n 3, 1) := by decide +kernel
theorem dX6_goesWith_16 : decode cX6_goesWith 16 = .ok (.invokevirtual 94, 3) := by decide +kernel
theorem dX6_goesWith_19 : decode cX6_goesWith 19 = .ok (.iconst 1, 1) := by decide +kernel
theorem dX6_goesWith_20 : decode cX6_goesWith 20 = .ok (.bipush 16, 2) := by decide +kernel
theorem dX6_goesWith_22 : decode cX6_goesWith 22 = .ok (.iload_n 1, 1) := by decide +kernel
theorem dX6_goesWith_23 : decode cX6_goesWith 23 = .ok (.iadd, 1) := by decide +kernel
theorem dX6_goesWith_24 : decode cX6_goesWith 24 = .ok (.ishl, 1) := by decide +kernel
theorem dX6_goesWith_25 : decode cX6_goesWith 25 = .ok (.if_icmp .ne 15, 3) := by decide +kernel
theorem dX6_goesWith_28 : decode cX6_goesWith 28 = .ok (.aload_n 0, 1) := by decide +kernel
theorem dX6_goesWith_29 : decode cX6_goesWith 29 = .ok (.bipush 16, 2) := by decide +kernel
theorem dX6_goesWith_31 : decode cX6_goesWith 31 = .ok (.iload_n 1, 1) := by decide +kernel
theorem dX6_goesWith_32 : decode cX6_goesWith 32 = .ok (.iadd, 1) := by decide +kernel
theorem dX6_goesWith_33 : decode cX6_goesWith 33 = .ok (.iload_n 2, 1) := by decide +kernel
theorem dX6_goesWith_34 : decode cX6_goesWith 34 = .ok (.invokevirtual 80, 3) := by decide +kernel
theorem dX6_goesWith_37 : decode cX6_goesWith 37 = .ok (.goto 4, 3) := by decide +kernel
theorem dX6_goesWith_40 : decode cX6_goesWith 40 = .ok (.iconst 0, 1) := by decide +kernel
theorem dX6_goesWith_41 : decode cX6_goesWith 41 = .ok (.ireturn, 1) := by decide +kernel
theorem dX6_wouldFree_0 : decode cX6_wouldFree 0 = .ok (.aload_n 0, 1) := by decide +kernel
theorem dX6_wouldFree_1 : decode cX6_wouldFree 1 = .ok (.aload_n 0, 1) := by decide +kernel
theorem dX6_wouldFree_2 : decode cX6_wouldFree 2 = .ok (.iload_n 1, 1) := by decide +kernel
theorem dX6_wouldFree_3 : decode cX6_wouldFree 3 = .ok (.invokevirtual 74, 3) := by decide +kernel
theorem dX6_wouldFree_6 : decode cX6_wouldFree 6 = .ok (.ifCond .eq 14, 3) := by decide +kernel
theorem dX6_wouldFree_9 : decode cX6_wouldFree 9 = .ok (.iload_n 2, 1) := by decide +kernel
theorem dX6_wouldFree_10 : decode cX6_wouldFree 10 = .ok (.invokestatic 141, 3) := by decide +kernel
theorem dX6_wouldFree_13 : decode cX6_wouldFree 13 = .ok (.ifCond .eq 7, 3) := by decide +kernel
theorem dX6_wouldFree_16 : decode cX6_wouldFree 16 = .ok (.iconst 1, 1) := by decide +kernel
theorem dX6_wouldFree_17 : decode cX6_wouldFree 17 = .ok (.goto 4, 3) := by decide +kernel
theorem dX6_wouldFree_20 : decode cX6_wouldFree 20 = .ok (.iconst 0, 1) := by decide +kernel
theorem dX6_wouldFree_21 : decode cX6_wouldFree 21 = .ok (.invokevirtual 128, 3) := by decide +kernel
theorem dX6_wouldFree_24 : decode cX6_wouldFree 24 = .ok (.ifCond .eq 7, 3) := by decide +kernel
theorem dX6_wouldFree_27 : decode cX6_wouldFree 27 = .ok (.iconst 0, 1) := by decide +kernel
theorem dX6_wouldFree_28 : decode cX6_wouldFree 28 = .ok (.goto 9, 3) := by decide +kernel
theorem dX6_wouldFree_31 : decode cX6_wouldFree 31 = .ok (.aload_n 0, 1) := by decide +kernel
theorem dX6_wouldFree_32 : decode cX6_wouldFree 32 = .ok (.iload_n 1, 1) := by decide +kernel
theorem dX6_wouldFree_33 : decode cX6_wouldFree 33 = .ok (.iload_n 2, 1) := by decide +kernel
theorem dX6_wouldFree_34 : decode cX6_wouldFree 34 = .ok (.invokevirtual 153, 3) := by decide +kernel
theorem dX6_wouldFree_37 : decode cX6_wouldFree 37 = .ok (.ireturn, 1) := by decide +kernel
theorem dX6_isDead_0 : decode cX6_isDead 0 = .ok (.aload_n 0, 1) := by decide +kernel
theorem dX6_isDead_1 : decode cX6_isDead 1 = .ok (.iload_n 2, 1) := by decide +kernel
theorem dX6_isDead_2 : decode cX6_isDead 2 = .ok (.iload_n 3, 1) := by decide +kernel
theorem dX6_isDead_3 : decode cX6_isDead 3 = .ok (.invokevirtual 77, 3) := by decide +kernel
theorem dX6_isDead_6 : decode cX6_isDead 6 = .ok (.ifCond .eq 21, 3) := by decide +kernel
theorem dX6_isDead_9 : decode cX6_isDead 9 = .ok (.aload_n 0, 1) := by decide +kernel
theorem dX6_isDead_10 : decode cX6_isDead 10 = .ok (.iload_n 1, 1) := by decide +kernel
theorem dX6_isDead_11 : decode cX6_isDead 11 = .ok (.aload_n 0, 1) := by decide +kernel
theorem dX6_isDead_12 : decode cX6_isDead 12 = .ok (.iload_n 2, 1) := by decide +kernel
theorem dX6_isDead_13 : decode cX6_isDead 13 = .ok (.iload_n 3, 1) := by decide +kernel
theorem dX6_isDead_14 : decode cX6_isDead 14 = .ok (.invokevirtual 77, 3) := by decide +kernel
theorem dX6_isDead_17 : decode cX6_isDead 17 = .ok (.invokevirtual 90, 3) := by decide +kernel
theorem dX6_isDead_20 : decode cX6_isDead 20 = .ok (.ifCond .ne 7, 3) := by decide +kernel
theorem dX6_isDead_23 : decode cX6_isDead 23 = .ok (.iconst 1, 1) := by decide +kernel
theorem dX6_isDead_24 : decode cX6_isDead 24 = .ok (.goto 4, 3) := by decide +kernel
theorem dX6_isDead_27 : decode cX6_isDead 27 = .ok (.iconst 0, 1) := by decide +kernel
theorem dX6_isDead_28 : decode cX6_isDead 28 = .ok (.ireturn, 1) := by decide +kernel
theorem dX6_deadCount_0 : decode cX6_deadCount 0 = .ok (.aload_n 0, 1) := by decide +kernel
theorem dX6_deadCount_1 : decode cX6_deadCount 1 = .ok (.aload_n 0, 1) := by decide +kernel
theorem dX6_deadCount_2 : decode cX6_deadCount 2 = .ok (.iload_n 1, 1) := by decide +kernel
theorem dX6_deadCount_3 : decode cX6_deadCount 3 = .ok (.invokevirtual 87, 3) := by decide +kernel
theorem dX6_deadCount_6 : decode cX6_deadCount 6 = .ok (.invokevirtual 128, 3) := by decide +kernel
theorem dX6_deadCount_9 : decode cX6_deadCount 9 = .ok (.ifCond .eq 5, 3) := by decide +kernel
theorem dX6_deadCount_12 : decode cX6_deadCount 12 = .ok (.iconst 0, 1) := by decide +kernel
theorem dX6_deadCount_13 : decode cX6_deadCount 13 = .ok (.ireturn, 1) := by decide +kernel
theorem dX6_deadCount_14 : decode cX6_deadCount 14 = .ok (.aload_n 0, 1) := by decide +kernel
theorem dX6_deadCount_15 : decode cX6_deadCount 15 = .ok (.iload_n 1, 1) := by decide +kernel
theorem dX6_deadCount_16 : decode cX6_deadCount 16 = .ok (.invokevirtual 110, 3) := by decide +kernel
theorem dX6_deadCount_19 : decode cX6_deadCount 19 = .ok (.istore_n 2, 1) := by decide +kernel
theorem dX6_deadCount_20 : decode cX6_deadCount 20 = .ok (.iconst 0, 1) := by decide +kernel
theorem dX6_deadCount_21 : decode cX6_deadCount 21 = .ok (.istore_n 3, 1) := by decide +kernel
theorem dX6_deadCount_22 : decode cX6_deadCount 22 = .ok (.iconst 0, 1) := by decide +kernel
theorem dX6_deadCount_23 : decode cX6_deadCount 23 = .ok (.istore 4, 2) := by decide +kernel
theorem dX6_deadCount_25 : decode cX6_deadCount 25 = .ok (.iload 4, 2) := by decide +kernel
theorem dX6_deadCount_27 : decode cX6_deadCount 27 = .ok (.bipush 12, 2) := by decide +kernel
theorem dX6_deadCount_29 : decode cX6_deadCount 29 = .ok (.if_icmp .ge 32, 3) := by decide +kernel
theorem dX6_deadCount_32 : decode cX6_deadCount 32 = .ok (.iload_n 2, 1) := by decide +kernel
theorem dX6_deadCount_33 : decode cX6_deadCount 33 = .ok (.ifCond .lt 28, 3) := by decide +kernel
theorem dX6_deadCount_36 : decode cX6_deadCount 36 = .ok (.iload_n 3, 1) := by decide +kernel
theorem dX6_deadCount_37 : decode cX6_deadCount 37 = .ok (.aload_n 0, 1) := by decide +kernel
theorem dX6_deadCount_38 : decode cX6_deadCount 38 = .ok (.iload_n 1, 1) := by decide +kernel
theorem dX6_deadCount_39 : decode cX6_deadCount 39 = .ok (.iload_n 2, 1) := by decide +kernel
theorem dX6_deadCount_40 : decode cX6_deadCount 40 = .ok (.iload 4, 2) := by decide +kernel
theorem dX6_deadCount_42 : decode cX6_deadCount 42 = .ok (.invokevirtual 156, 3) := by decide +kernel
theorem dX6_deadCount_45 : decode cX6_deadCount 45 = .ok (.ifCond .eq 7, 3) := by decide +kernel
theorem dX6_deadCount_48 : decode cX6_deadCount 48 = .ok (.iconst 1, 1) := by decide +kernel
theorem dX6_deadCount_49 : decode cX6_deadCount 49 = .ok (.goto 4, 3) := by decide +kernel
theorem dX6_deadCount_52 : decode cX6_deadCount 52 = .ok (.iconst 0, 1) := by decide +kernel
theorem dX6_deadCount_53 : decode cX6_deadCount 53 = .ok (.iadd, 1) := by decide +kernel
theorem dX6_deadCount_54 : decode cX6_deadCount 54 = .ok (.istore_n 3, 1) := by decide +kernel
theorem dX6_deadCount_55 : decode cX6_deadCount 55 = .ok (.iinc 4 1, 3) := by decide +kernel
theorem dX6_deadCount_58 : decode cX6_deadCount 58 = .ok (.goto (-33), 3) := by decide +kernel
theorem dX6_deadCount_61 : decode cX6_deadCount 61 = .ok (.iload_n 3, 1) := by decide +kernel
theorem dX6_deadCount_62 : decode cX6_deadCount 62 = .ok (.ireturn, 1) := by decide +kernel
theorem dX6_deadBlock_0 : decode cX6_deadBlock 0 = .ok (.aload_n 0, 1) := by decide +kernel
theorem dX6_deadBlock_1 : decode cX6_deadBlock 1 = .ok (.aload_n 0, 1) := by decide +kernel
theorem dX6_deadBlock_2 : decode cX6_deadBlock 2 = .ok (.iload_n 1, 1) := by decide +kernel
theorem dX6_deadBlock_3 : decode cX6_deadBlock 3 = .ok (.invokevirtual 87, 3) := by decide +kernel
theorem dX6_deadBlock_6 : decode cX6_deadBlock 6 = .ok (.invokevirtual 128, 3) := by decide +kernel
theorem dX6_deadBlock_9 : decode cX6_deadBlock 9 = .ok (.ifCond .eq 5, 3) := by decide +kernel
theorem dX6_deadBlock_12 : decode cX6_deadBlock 12 = .ok (.iconst 0, 1) := by decide +kernel
theorem dX6_deadBlock_13 : decode cX6_deadBlock 13 = .ok (.ireturn, 1) := by decide +kernel
theorem dX6_deadBlock_14 : decode cX6_deadBlock 14 = .ok (.aload_n 0, 1) := by decide +kernel
theorem dX6_deadBlock_15 : decode cX6_deadBlock 15 = .ok (.iload_n 1, 1) := by decide +kernel
theorem dX6_deadBlock_16 : decode cX6_deadBlock 16 = .ok (.invokevirtual 110, 3) := by decide +kernel
theorem dX6_deadBlock_19 : decode cX6_deadBlock 19 = .ok (.istore_n 3, 1) := by decide +kernel
theorem dX6_deadBlock_20 : decode cX6_deadBlock 20 = .ok (.iconst 0, 1) := by decide +kernel
theorem dX6_deadBlock_21 : decode cX6_deadBlock 21 = .ok (.istore 4, 2) := by decide +kernel
theorem dX6_deadBlock_23 : decode cX6_deadBlock 23 = .ok (.iload 4, 2) := by decide +kernel
theorem dX6_deadBlock_25 : decode cX6_deadBlock 25 = .ok (.bipush 12, 2) := by decide +kernel
theorem dX6_deadBlock_27 : decode cX6_deadBlock 27 = .ok (.if_icmp .ge 98, 3) := by decide +kernel
theorem dX6_deadBlock_30 : decode cX6_deadBlock 30 = .ok (.iload_n 3, 1) := by decide +kernel
theorem dX6_deadBlock_31 : decode cX6_deadBlock 31 = .ok (.ifCond .lt 94, 3) := by decide +kernel
theorem dX6_deadBlock_34 : decode cX6_deadBlock 34 = .ok (.aload_n 0, 1) := by decide +kernel
theorem dX6_deadBlock_35 : decode cX6_deadBlock 35 = .ok (.iload_n 1, 1) := by decide +kernel
theorem dX6_deadBlock_36 : decode cX6_deadBlock 36 = .ok (.iload_n 3, 1) := by decide +kernel
theorem dX6_deadBlock_37 : decode cX6_deadBlock 37 = .ok (.iload 4, 2) := by decide +kernel
theorem dX6_deadBlock_39 : decode cX6_deadBlock 39 = .ok (.invokevirtual 156, 3) := by decide +kernel
theorem dX6_deadBlock_42 : decode cX6_deadBlock 42 = .ok (.ifCond .ne 6, 3) := by decide +kernel
theorem dX6_deadBlock_45 : decode cX6_deadBlock 45 = .ok (.goto 74, 3) := by decide +kernel
theorem dX6_deadBlock_48 : decode cX6_deadBlock 48 = .ok (.iconst 0, 1) := by decide +kernel
theorem dX6_deadBlock_49 : decode cX6_deadBlock 49 = .ok (.istore 5, 2) := by decide +kernel
theorem dX6_deadBlock_51 : decode cX6_deadBlock 51 = .ok (.iconst 0, 1) := by decide +kernel
theorem dX6_deadBlock_52 : decode cX6_deadBlock 52 = .ok (.istore 6, 2) := by decide +kernel
theorem dX6_deadBlock_54 : decode cX6_deadBlock 54 = .ok (.iload 6, 2) := by decide +kernel
theorem dX6_deadBlock_56 : decode cX6_deadBlock 56 = .ok (.bipush 12, 2) := by decide +kernel
theorem dX6_deadBlock_58 : decode cX6_deadBlock 58 = .ok (.if_icmp .ge 47, 3) := by decide +kernel
theorem dX6_deadBlock_61 : decode cX6_deadBlock 61 = .ok (.iload 5, 2) := by decide +kernel
theorem dX6_deadBlock_63 : decode cX6_deadBlock 63 = .ok (.aload_n 0, 1) := by decide +kernel
theorem dX6_deadBlock_64 : decode cX6_deadBlock 64 = .ok (.iload_n 1, 1) := by decide +kernel
theorem dX6_deadBlock_65 : decode cX6_deadBlock 65 = .ok (.iload_n 3, 1) := by decide +kernel
theorem dX6_deadBlock_66 : decode cX6_deadBlock 66 = .ok (.iload 6, 2) := by decide +kernel
theorem dX6_deadBlock_68 : decode cX6_deadBlock 68 = .ok (.invokevirtual 156, 3) := by decide +kernel
theorem dX6_deadBlock_71 : decode cX6_deadBlock 71 = .ok (.ifCond .eq 24, 3) := by decide +kernel
theorem dX6_deadBlock_74 : decode cX6_deadBlock 74 = .ok (.aload_n 0, 1) := by decide +kernel
theorem dX6_deadBlock_75 : decode cX6_deadBlock 75 = .ok (.iload_n 3, 1) := by decide +kernel
theorem dX6_deadBlock_76 : decode cX6_deadBlock 76 = .ok (.iload 6, 2) := by decide +kernel
theorem dX6_deadBlock_78 : decode cX6_deadBlock 78 = .ok (.invokevirtual 77, 3) := by decide +kernel
theorem dX6_deadBlock_81 : decode cX6_deadBlock 81 = .ok (.aload_n 0, 1) := by decide +kernel
theorem dX6_deadBlock_82 : decode cX6_deadBlock 82 = .ok (.iload_n 3, 1) := by decide +kernel
theorem dX6_deadBlock_83 : decode cX6_deadBlock 83 = .ok (.iload 4, 2) := by decide +kernel
theorem dX6_deadBlock_85 : decode cX6_deadBlock 85 = .ok (.invokevirtual 77, 3) := by decide +kernel
theorem dX6_deadBlock_88 : decode cX6_deadBlock 88 = .ok (.if_icmp .ge 7, 3) := by decide +kernel
theorem dX6_deadBlock_91 : decode cX6_deadBlock 91 = .ok (.iconst 1, 1) := by decide +kernel
theorem dX6_deadBlock_92 : decode cX6_deadBlock 92 = .ok (.goto 4, 3) := by decide +kernel
theorem dX6_deadBlock_95 : decode cX6_deadBlock 95 = .ok (.iconst 0, 1) := by decide +kernel
theorem dX6_deadBlock_96 : decode cX6_deadBlock 96 = .ok (.iadd, 1) := by decide +kernel
theorem dX6_deadBlock_97 : decode cX6_deadBlock 97 = .ok (.istore 5, 2) := by decide +kernel
theorem dX6_deadBlock_99 : decode cX6_deadBlock 99 = .ok (.iinc 6 1, 3) := by decide +kernel
theorem dX6_deadBlock_102 : decode cX6_deadBlock 102 = .ok (.goto (-48), 3) := by decide +kernel
theorem dX6_deadBlock_105 : decode cX6_deadBlock 105 = .ok (.iload 5, 2) := by decide +kernel
theorem dX6_deadBlock_107 : decode cX6_deadBlock 107 = .ok (.iload_n 2, 1) := by decide +kernel
theorem dX6_deadBlock_108 : decode cX6_deadBlock 108 = .ok (.if_icmp .ne 11, 3) := by decide +kernel
theorem dX6_deadBlock_111 : decode cX6_deadBlock 111 = .ok (.aload_n 0, 1) := by decide +kernel
theorem dX6_deadBlock_112 : decode cX6_deadBlock 112 = .ok (.iload_n 3, 1) := by decide +kernel
theorem dX6_deadBlock_113 : decode cX6_deadBlock 113 = .ok (.iload 4, 2) := by decide +kernel
theorem dX6_deadBlock_115 : decode cX6_deadBlock 115 = .ok (.invokevirtual 77, 3) := by decide +kernel
theorem dX6_deadBlock_118 : decode cX6_deadBlock 118 = .ok (.ireturn, 1) := by decide +kernel
theorem dX6_deadBlock_119 : decode cX6_deadBlock 119 = .ok (.iinc 4 1, 3) := by decide +kernel
theorem dX6_deadBlock_122 : decode cX6_deadBlock 122 = .ok (.goto (-99), 3) := by decide +kernel
theorem dX6_deadBlock_125 : decode cX6_deadBlock 125 = .ok (.iconst (-1), 1) := by decide +kernel
theorem dX6_deadBlock_126 : decode cX6_deadBlock 126 = .ok (.ireturn, 1) := by decide +kernel
theorem dX6_byDeadBlocks_0 : decode cX6_byDeadBlocks 0 = .ok (.aload_n 0, 1) := by decide +kernel
theorem dX6_byDeadBlocks_1 : decode cX6_byDeadBlocks 1 = .ok (.aload_n 0, 1) := by decide +kernel
theorem dX6_byDeadBlocks_2 : decode cX6_byDeadBlocks 2 = .ok (.iload_n 1, 1) := by decide +kernel
theorem dX6_byDeadBlocks_3 : decode cX6_byDeadBlocks 3 = .ok (.invokevirtual 70, 3) := by decide +kernel
theorem dX6_byDeadBlocks_6 : decode cX6_byDeadBlocks 6 = .ok (.invokevirtual 128, 3) := by decide +kernel
theorem dX6_byDeadBlocks_9 : decode cX6_byDeadBlocks 9 = .ok (.ifCond .eq 5, 3) := by decide +kernel
theorem dX6_byDeadBlocks_12 : decode cX6_byDeadBlocks 12 = .ok (.iconst 0, 1) := by decide +kernel
theorem dX6_byDeadBlocks_13 : decode cX6_byDeadBlocks 13 = .ok (.ireturn, 1) := by decide +kernel
theorem dX6_byDeadBlocks_14 : decode cX6_byDeadBlocks 14 = .ok (.aload_n 0, 1) := by decide +kernel
theorem dX6_byDeadBlocks_15 : decode cX6_byDeadBlocks 15 = .ok (.iload_n 1, 1) := by decide +kernel
theorem dX6_byDeadBlocks_16 : decode cX6_byDeadBlocks 16 = .ok (.invokevirtual 135, 3) := by decide +kernel
theorem dX6_byDeadBlocks_19 : decode cX6_byDeadBlocks 19 = .ok (.istore_n 2, 1) := by decide +kernel
theorem dX6_byDeadBlocks_20 : decode cX6_byDeadBlocks 20 = .ok (.aload_n 0, 1) := by decide +kernel
theorem dX6_byDeadBlocks_21 : decode cX6_byDeadBlocks 21 = .ok (.iload_n 1, 1) := by decide +kernel
theorem dX6_byDeadBlocks_22 : decode cX6_byDeadBlocks 22 = .ok (.invokevirtual 110, 3) := by decide +kernel
theorem dX6_byDeadBlocks_25 : decode cX6_byDeadBlocks 25 = .ok (.istore_n 3, 1) := by decide +kernel
theorem dX6_byDeadBlocks_26 : decode cX6_byDeadBlocks 26 = .ok (.iload_n 3, 1) := by decide +kernel
theorem dX6_byDeadBlocks_27 : decode cX6_byDeadBlocks 27 = .ok (.ifCond .ge 7, 3) := by decide +kernel
theorem dX6_byDeadBlocks_30 : decode cX6_byDeadBlocks 30 = .ok (.iconst 0, 1) := by decide +kernel
theorem dX6_byDeadBlocks_31 : decode cX6_byDeadBlocks 31 = .ok (.goto 9, 3) := by decide +kernel
theorem dX6_byDeadBlocks_34 : decode cX6_byDeadBlocks 34 = .ok (.aload_n 0, 1) := by decide +kernel
theorem dX6_byDeadBlocks_35 : decode cX6_byDeadBlocks 35 = .ok (.iload_n 3, 1) := by decide +kernel
theorem dX6_byDeadBlocks_36 : decode cX6_byDeadBlocks 36 = .ok (.iconst 2, 1) := by decide +kernel
theorem dX6_byDeadBlocks_37 : decode cX6_byDeadBlocks 37 = .ok (.invokevirtual 67, 3) := by decide +kernel
theorem dX6_byDeadBlocks_40 : decode cX6_byDeadBlocks 40 = .ok (.istore 4, 2) := by decide +kernel
theorem dX6_byDeadBlocks_42 : decode cX6_byDeadBlocks 42 = .ok (.iconst 0, 1) := by decide +kernel
theorem dX6_byDeadBlocks_43 : decode cX6_byDeadBlocks 43 = .ok (.istore 5, 2) := by decide +kernel
theorem dX6_byDeadBlocks_45 : decode cX6_byDeadBlocks 45 = .ok (.iconst 0, 1) := by decide +kernel
theorem dX6_byDeadBlocks_46 : decode cX6_byDeadBlocks 46 = .ok (.istore 6, 2) := by decide +kernel
theorem dX6_byDeadBlocks_48 : decode cX6_byDeadBlocks 48 = .ok (.iload 6, 2) := by decide +kernel
theorem dX6_byDeadBlocks_50 : decode cX6_byDeadBlocks 50 = .ok (.bipush 12, 2) := by decide +kernel
theorem dX6_byDeadBlocks_52 : decode cX6_byDeadBlocks 52 = .ok (.if_icmp .ge 48, 3) := by decide +kernel
theorem dX6_byDeadBlocks_55 : decode cX6_byDeadBlocks 55 = .ok (.iload 5, 2) := by decide +kernel
theorem dX6_byDeadBlocks_57 : decode cX6_byDeadBlocks 57 = .ok (.aload_n 0, 1) := by decide +kernel
theorem dX6_byDeadBlocks_58 : decode cX6_byDeadBlocks 58 = .ok (.iload_n 2, 1) := by decide +kernel
theorem dX6_byDeadBlocks_59 : decode cX6_byDeadBlocks 59 = .ok (.iload_n 1, 1) := by decide +kernel
theorem dX6_byDeadBlocks_60 : decode cX6_byDeadBlocks 60 = .ok (.iload 6, 2) := by decide +kernel
theorem dX6_byDeadBlocks_62 : decode cX6_byDeadBlocks 62 = .ok (.invokevirtual 156, 3) := by decide +kernel
theorem dX6_byDeadBlocks_65 : decode cX6_byDeadBlocks 65 = .ok (.ifCond .eq 25, 3) := by decide +kernel
theorem dX6_byDeadBlocks_68 : decode cX6_byDeadBlocks 68 = .ok (.aload_n 0, 1) := by decide +kernel
theorem dX6_byDeadBlocks_69 : decode cX6_byDeadBlocks 69 = .ok (.iload_n 1, 1) := by decide +kernel
theorem dX6_byDeadBlocks_70 : decode cX6_byDeadBlocks 70 = .ok (.iload 6, 2) := by decide +kernel
theorem dX6_byDeadBlocks_72 : decode cX6_byDeadBlocks 72 = .ok (.invokevirtual 77, 3) := by decide +kernel
theorem dX6_byDeadBlocks_75 : decode cX6_byDeadBlocks 75 = .ok (.iload 4, 2) := by decide +kernel
theorem dX6_byDeadBlocks_77 : decode cX6_byDeadBlocks 77 = .ok (.if_icmp .le 13, 3) := by decide +kernel
theorem dX6_byDeadBlocks_80 : decode cX6_byDeadBlocks 80 = .ok (.aload_n 0, 1) := by decide +kernel
theorem dX6_byDeadBlocks_81 : decode cX6_byDeadBlocks 81 = .ok (.iload_n 1, 1) := by decide +kernel
theorem dX6_byDeadBlocks_82 : decode cX6_byDeadBlocks 82 = .ok (.iload 6, 2) := by decide +kernel
theorem dX6_byDeadBlocks_84 : decode cX6_byDeadBlocks 84 = .ok (.invokevirtual 80, 3) := by decide +kernel
theorem dX6_byDeadBlocks_87 : decode cX6_byDeadBlocks 87 = .ok (.goto 4, 3) := by decide +kernel
theorem dX6_byDeadBlocks_90 : decode cX6_byDeadBlocks 90 = .ok (.iconst 0, 1) := by decide +kernel
theorem dX6_byDeadBlocks_91 : decode cX6_byDeadBlocks 91 = .ok (.iadd, 1) := by decide +kernel
theorem dX6_byDeadBlocks_92 : decode cX6_byDeadBlocks 92 = .ok (.istore 5, 2) := by decide +kernel
theorem dX6_byDeadBlocks_94 : decode cX6_byDeadBlocks 94 = .ok (.iinc 6 1, 3) := by decide +kernel
theorem dX6_byDeadBlocks_97 : decode cX6_byDeadBlocks 97 = .ok (.goto (-49), 3) := by decide +kernel
theorem dX6_byDeadBlocks_100 : decode cX6_byDeadBlocks 100 = .ok (.iload 5, 2) := by decide +kernel
theorem dX6_byDeadBlocks_102 : decode cX6_byDeadBlocks 102 = .ok (.ireturn, 1) := by decide +kernel
theorem dX6_freedBy_0 : decode cX6_freedBy 0 = .ok (.aload_n 0, 1) := by decide +kernel
theorem dX6_freedBy_1 : decode cX6_freedBy 1 = .ok (.iconst 0, 1) := by decide +kernel
theorem dX6_freedBy_2 : decode cX6_freedBy 2 = .ok (.putfield 43, 3) := by decide +kernel
theorem dX6_freedBy_5 : decode cX6_freedBy 5 = .ok (.iload_n 1, 1) := by decide +kernel
theorem dX6_freedBy_6 : decode cX6_freedBy 6 = .ok (.aload_n 0, 1) := by decide +kernel
theorem dX6_freedBy_7 : decode cX6_freedBy 7 = .ok (.invokevirtual 117, 3) := by decide +kernel
theorem dX6_freedBy_10 : decode cX6_freedBy 10 = .ok (.iconst (-1), 1) := by decide +kernel
theorem dX6_freedBy_11 : decode cX6_freedBy 11 = .ok (.ixor, 1) := by decide +kernel
theorem dX6_freedBy_12 : decode cX6_freedBy 12 = .ok (.iand, 1) := by decide +kernel
theorem dX6_freedBy_13 : decode cX6_freedBy 13 = .ok (.ifCond .eq 7, 3) := by decide +kernel
theorem dX6_freedBy_16 : decode cX6_freedBy 16 = .ok (.iconst (-1), 1) := by decide +kernel
theorem dX6_freedBy_17 : decode cX6_freedBy 17 = .ok (.goto 8, 3) := by decide +kernel
theorem dX6_freedBy_20 : decode cX6_freedBy 20 = .ok (.aload_n 0, 1) := by decide +kernel
theorem dX6_freedBy_21 : decode cX6_freedBy 21 = .ok (.iload_n 1, 1) := by decide +kernel
theorem dX6_freedBy_22 : decode cX6_freedBy 22 = .ok (.invokevirtual 147, 3) := by decide +kernel
theorem dX6_freedBy_25 : decode cX6_freedBy 25 = .ok (.ireturn, 1) := by decide +kernel
theorem dX6_listOf_0 : decode cX6_listOf 0 = .ok (.iconst 0, 1) := by decide +kernel
theorem dX6_listOf_1 : decode cX6_listOf 1 = .ok (.istore_n 3, 1) := by decide +kernel
theorem dX6_listOf_2 : decode cX6_listOf 2 = .ok (.iload_n 2, 1) := by decide +kernel
theorem dX6_listOf_3 : decode cX6_listOf 3 = .ok (.istore 4, 2) := by decide +kernel
theorem dX6_listOf_5 : decode cX6_listOf 5 = .ok (.iload 4, 2) := by decide +kernel
theorem dX6_listOf_7 : decode cX6_listOf 7 = .ok (.aload_n 0, 1) := by decide +kernel
theorem dX6_listOf_8 : decode cX6_listOf 8 = .ok (.iload_n 1, 1) := by decide +kernel
theorem dX6_listOf_9 : decode cX6_listOf 9 = .ok (.iconst 4, 1) := by decide +kernel
theorem dX6_listOf_10 : decode cX6_listOf 10 = .ok (.invokevirtual 64, 3) := by decide +kernel
theorem dX6_listOf_13 : decode cX6_listOf 13 = .ok (.if_icmp .ge 23, 3) := by decide +kernel
theorem dX6_listOf_16 : decode cX6_listOf 16 = .ok (.iload_n 3, 1) := by decide +kernel
theorem dX6_listOf_17 : decode cX6_listOf 17 = .ok (.iconst 1, 1) := by decide +kernel
theorem dX6_listOf_18 : decode cX6_listOf 18 = .ok (.aload_n 0, 1) := by decide +kernel
theorem dX6_listOf_19 : decode cX6_listOf 19 = .ok (.iload_n 1, 1) := by decide +kernel
theorem dX6_listOf_20 : decode cX6_listOf 20 = .ok (.iconst 5, 1) := by decide +kernel
theorem dX6_listOf_21 : decode cX6_listOf 21 = .ok (.iload 4, 2) := by decide +kernel
theorem dX6_listOf_23 : decode cX6_listOf 23 = .ok (.iadd, 1) := by decide +kernel
theorem dX6_listOf_24 : decode cX6_listOf 24 = .ok (.invokevirtual 64, 3) := by decide +kernel
theorem dX6_listOf_27 : decode cX6_listOf 27 = .ok (.ishl, 1) := by decide +kernel
theorem dX6_listOf_28 : decode cX6_listOf 28 = .ok (.ior, 1) := by decide +kernel
theorem dX6_listOf_29 : decode cX6_listOf 29 = .ok (.istore_n 3, 1) := by decide +kernel
theorem dX6_listOf_30 : decode cX6_listOf 30 = .ok (.iinc 4 1, 3) := by decide +kernel
theorem dX6_listOf_33 : decode cX6_listOf 33 = .ok (.goto (-28), 3) := by decide +kernel
theorem dX6_listOf_36 : decode cX6_listOf 36 = .ok (.iload_n 3, 1) := by decide +kernel
theorem dX6_listOf_37 : decode cX6_listOf 37 = .ok (.ireturn, 1) := by decide +kernel
theorem dX6_freedByVolume_0 : decode cX6_freedByVolume 0 = .ok (.aload_n 0, 1) := by decide +kernel
theorem dX6_freedByVolume_1 : decode cX6_freedByVolume 1 = .ok (.aload_n 0, 1) := by decide +kernel
theorem dX6_freedByVolume_2 : decode cX6_freedByVolume 2 = .ok (.iload_n 1, 1) := by decide +kernel
theorem dX6_freedByVolume_3 : decode cX6_freedByVolume 3 = .ok (.invokevirtual 74, 3) := by decide +kernel
theorem dX6_freedByVolume_6 : decode cX6_freedByVolume 6 = .ok (.invokevirtual 128, 3) := by decide +kernel
theorem dX6_freedByVolume_9 : decode cX6_freedByVolume 9 = .ok (.ifCond .eq 7, 3) := by decide +kernel
theorem dX6_freedByVolume_12 : decode cX6_freedByVolume 12 = .ok (.iconst 0, 1) := by decide +kernel
theorem dX6_freedByVolume_13 : decode cX6_freedByVolume 13 = .ok (.goto 20, 3) := by decide +kernel
theorem dX6_freedByVolume_16 : decode cX6_freedByVolume 16 = .ok (.aload_n 0, 1) := by decide +kernel
theorem dX6_freedByVolume_17 : decode cX6_freedByVolume 17 = .ok (.aload_n 0, 1) := by decide +kernel
theorem dX6_freedByVolume_18 : decode cX6_freedByVolume 18 = .ok (.iload_n 1, 1) := by decide +kernel
theorem dX6_freedByVolume_19 : decode cX6_freedByVolume 19 = .ok (.iconst 0, 1) := by decide +kernel
theorem dX6_freedByVolume_20 : decode cX6_freedByVolume 20 = .ok (.invokevirtual 150, 3) := by decide +kernel
theorem dX6_freedByVolume_23 : decode cX6_freedByVolume 23 = .ok (.iconst 1, 1) := by decide +kernel
theorem dX6_freedByVolume_24 : decode cX6_freedByVolume 24 = .ok (.bipush 16, 2) := by decide +kernel
theorem dX6_freedByVolume_26 : decode cX6_freedByVolume 26 = .ok (.iload_n 1, 1) := by decide +kernel
theorem dX6_freedByVolume_27 : decode cX6_freedByVolume 27 = .ok (.iadd, 1) := by decide +kernel
theorem dX6_freedByVolume_28 : decode cX6_freedByVolume 28 = .ok (.ishl, 1) := by decide +kernel
theorem dX6_freedByVolume_29 : decode cX6_freedByVolume 29 = .ok (.ior, 1) := by decide +kernel
theorem dX6_freedByVolume_30 : decode cX6_freedByVolume 30 = .ok (.invokevirtual 147, 3) := by decide +kernel
theorem dX6_freedByVolume_33 : decode cX6_freedByVolume 33 = .ok (.ireturn, 1) := by decide +kernel
theorem dX6_usedBySnapshots_0 : decode cX6_usedBySnapshots 0 = .ok (.aload_n 0, 1) := by decide +kernel
theorem dX6_usedBySnapshots_1 : decode cX6_usedBySnapshots 1 = .ok (.aload_n 0, 1) := by decide +kernel
theorem dX6_usedBySnapshots_2 : decode cX6_usedBySnapshots 2 = .ok (.iload_n 1, 1) := by decide +kernel
theorem dX6_usedBySnapshots_3 : decode cX6_usedBySnapshots 3 = .ok (.invokevirtual 74, 3) := by decide +kernel
theorem dX6_usedBySnapshots_6 : decode cX6_usedBySnapshots 6 = .ok (.invokevirtual 128, 3) := by decide +kernel
theorem dX6_usedBySnapshots_9 : decode cX6_usedBySnapshots 9 = .ok (.ifCond .eq 7, 3) := by decide +kernel
theorem dX6_usedBySnapshots_12 : decode cX6_usedBySnapshots 12 = .ok (.iconst 0, 1) := by decide +kernel
theorem dX6_usedBySnapshots_13 : decode cX6_usedBySnapshots 13 = .ok (.goto 13, 3) := by decide +kernel
theorem dX6_usedBySnapshots_16 : decode cX6_usedBySnapshots 16 = .ok (.aload_n 0, 1) := by decide +kernel
theorem dX6_usedBySnapshots_17 : decode cX6_usedBySnapshots 17 = .ok (.aload_n 0, 1) := by decide +kernel
theorem dX6_usedBySnapshots_18 : decode cX6_usedBySnapshots 18 = .ok (.iload_n 1, 1) := by decide +kernel
theorem dX6_usedBySnapshots_19 : decode cX6_usedBySnapshots 19 = .ok (.iconst 0, 1) := by decide +kernel
theorem dX6_usedBySnapshots_20 : decode cX6_usedBySnapshots 20 = .ok (.invokevirtual 150, 3) := by decide +kernel
theorem dX6_usedBySnapshots_23 : decode cX6_usedBySnapshots 23 = .ok (.invokevirtual 147, 3) := by decide +kernel
theorem dX6_usedBySnapshots_26 : decode cX6_usedBySnapshots 26 = .ok (.ireturn, 1) := by decide +kernel
theorem dX6_why_0 : decode cX6_why 0 = .ok (.aload_n 0, 1) := by decide +kernel
theorem dX6_why_1 : decode cX6_why 1 = .ok (.iload_n 1, 1) := by decide +kernel
theorem dX6_why_2 : decode cX6_why 2 = .ok (.invokevirtual 132, 3) := by decide +kernel
theorem dX6_why_5 : decode cX6_why 5 = .ok (.ifCond .eq 7, 3) := by decide +kernel
theorem dX6_why_8 : decode cX6_why 8 = .ok (.iconst 1, 1) := by decide +kernel
theorem dX6_why_9 : decode cX6_why 9 = .ok (.goto 18, 3) := by decide +kernel
theorem dX6_why_12 : decode cX6_why 12 = .ok (.aload_n 0, 1) := by decide +kernel
theorem dX6_why_13 : decode cX6_why 13 = .ok (.iload_n 1, 1) := by decide +kernel
theorem dX6_why_14 : decode cX6_why 14 = .ok (.iconst 3, 1) := by decide +kernel
theorem dX6_why_15 : decode cX6_why 15 = .ok (.invokevirtual 67, 3) := by decide +kernel
theorem dX6_why_18 : decode cX6_why 18 = .ok (.iconst 1, 1) := by decide +kernel
theorem dX6_why_19 : decode cX6_why 19 = .ok (.if_icmp .ne 7, 3) := by decide +kernel
theorem dX6_why_22 : decode cX6_why 22 = .ok (.iconst 2, 1) := by decide +kernel
theorem dX6_why_23 : decode cX6_why 23 = .ok (.goto 4, 3) := by decide +kernel
theorem dX6_why_26 : decode cX6_why 26 = .ok (.iconst 0, 1) := by decide +kernel
theorem dX6_why_27 : decode cX6_why 27 = .ok (.ireturn, 1) := by decide +kernel
theorem dX6_whyKept_0 : decode cX6_whyKept 0 = .ok (.aload_n 0, 1) := by decide +kernel
theorem dX6_whyKept_1 : decode cX6_whyKept 1 = .ok (.aload_n 0, 1) := by decide +kernel
theorem dX6_whyKept_2 : decode cX6_whyKept 2 = .ok (.iload_n 1, 1) := by decide +kernel
theorem dX6_whyKept_3 : decode cX6_whyKept 3 = .ok (.invokevirtual 70, 3) := by decide +kernel
theorem dX6_whyKept_6 : decode cX6_whyKept 6 = .ok (.invokevirtual 128, 3) := by decide +kernel
theorem dX6_whyKept_9 : decode cX6_whyKept 9 = .ok (.ifCond .eq 7, 3) := by decide +kernel
theorem dX6_whyKept_12 : decode cX6_whyKept 12 = .ok (.iconst 0, 1) := by decide +kernel
theorem dX6_whyKept_13 : decode cX6_whyKept 13 = .ok (.goto 8, 3) := by decide +kernel
theorem dX6_whyKept_16 : decode cX6_whyKept 16 = .ok (.aload_n 0, 1) := by decide +kernel
theorem dX6_whyKept_17 : decode cX6_whyKept 17 = .ok (.iload_n 1, 1) := by decide +kernel
theorem dX6_whyKept_18 : decode cX6_whyKept 18 = .ok (.invokevirtual 159, 3) := by decide +kernel
theorem dX6_whyKept_21 : decode cX6_whyKept 21 = .ok (.ireturn, 1) := by decide +kernel
theorem dX6_layHeld_0 : decode cX6_layHeld 0 = .ok (.aload_n 0, 1) := by decide +kernel
theorem dX6_layHeld_1 : decode cX6_layHeld 1 = .ok (.iconst 0, 1) := by decide +kernel
theorem dX6_layHeld_2 : decode cX6_layHeld 2 = .ok (.putfield 162, 3) := by decide +kernel
theorem dX6_layHeld_5 : decode cX6_layHeld 5 = .ok (.iconst 0, 1) := by decide +kernel
theorem dX6_layHeld_6 : decode cX6_layHeld 6 = .ok (.istore_n 1, 1) := by decide +kernel
theorem dX6_layHeld_7 : decode cX6_layHeld 7 = .ok (.iload_n 1, 1) := by decide +kernel
theorem dX6_layHeld_8 : decode cX6_layHeld 8 = .ok (.bipush 16, 2) := by decide +kernel
theorem dX6_layHeld_10 : decode cX6_layHeld 10 = .ok (.if_icmp .ge 112, 3) := by decide +kernel
theorem dX6_layHeld_13 : decode cX6_layHeld 13 = .ok (.iconst 0, 1) := by decide +kernel
theorem dX6_layHeld_14 : decode cX6_layHeld 14 = .ok (.istore_n 2, 1) := by decide +kernel
theorem dX6_layHeld_15 : decode cX6_layHeld 15 = .ok (.iload_n 2, 1) := by decide +kernel
theorem dX6_layHeld_16 : decode cX6_layHeld 16 = .ok (.bipush 12, 2) := by decide +kernel
theorem dX6_layHeld_18 : decode cX6_layHeld 18 = .ok (.if_icmp .ge 98, 3) := by decide +kernel
theorem dX6_layHeld_21 : decode cX6_layHeld 21 = .ok (.aload_n 0, 1) := by decide +kernel
theorem dX6_layHeld_22 : decode cX6_layHeld 22 = .ok (.iload_n 1, 1) := by decide +kernel
theorem dX6_layHeld_23 : decode cX6_layHeld 23 = .ok (.invokevirtual 70, 3) := by decide +kernel
theorem dX6_layHeld_26 : decode cX6_layHeld 26 = .ok (.ifCond .eq 90, 3) := by decide +kernel
theorem dX6_layHeld_29 : decode cX6_layHeld 29 = .ok (.aload_n 0, 1) := by decide +kernel
theorem dX6_layHeld_30 : decode cX6_layHeld 30 = .ok (.iload_n 1, 1) := by decide +kernel
theorem dX6_layHeld_31 : decode cX6_layHeld 31 = .ok (.iload_n 2, 1) := by decide +kernel
theorem dX6_layHeld_32 : decode cX6_layHeld 32 = .ok (.invokevirtual 77, 3) := by decide +kernel
theorem dX6_layHeld_35 : decode cX6_layHeld 35 = .ok (.ifCond .eq 75, 3) := by decide +kernel
theorem dX6_layHeld_38 : decode cX6_layHeld 38 = .ok (.aload_n 0, 1) := by decide +kernel
theorem dX6_layHeld_39 : decode cX6_layHeld 39 = .ok (.iload_n 1, 1) := by decide +kernel
theorem dX6_layHeld_40 : decode cX6_layHeld 40 = .ok (.aload_n 0, 1) := by decide +kernel
theorem dX6_layHeld_41 : decode cX6_layHeld 41 = .ok (.iload_n 1, 1) := by decide +kernel
theorem dX6_layHeld_42 : decode cX6_layHeld 42 = .ok (.iload_n 2, 1) := by decide +kernel
theorem dX6_layHeld_43 : decode cX6_layHeld 43 = .ok (.invokevirtual 77, 3) := by decide +kernel
theorem dX6_layHeld_46 : decode cX6_layHeld 46 = .ok (.invokevirtual 98, 3) := by decide +kernel
theorem dX6_layHeld_49 : decode cX6_layHeld 49 = .ok (.ifCond .ne 6, 3) := by decide +kernel
theorem dX6_layHeld_52 : decode cX6_layHeld 52 = .ok (.goto 58, 3) := by decide +kernel
theorem dX6_layHeld_55 : decode cX6_layHeld 55 = .ok (.aload_n 0, 1) := by decide +kernel
theorem dX6_layHeld_56 : decode cX6_layHeld 56 = .ok (.aload_n 0, 1) := by decide +kernel
theorem dX6_layHeld_57 : decode cX6_layHeld 57 = .ok (.iload_n 1, 1) := by decide +kernel
theorem dX6_layHeld_58 : decode cX6_layHeld 58 = .ok (.iload_n 2, 1) := by decide +kernel
theorem dX6_layHeld_59 : decode cX6_layHeld 59 = .ok (.invokevirtual 77, 3) := by decide +kernel
theorem dX6_layHeld_62 : decode cX6_layHeld 62 = .ok (.invokevirtual 94, 3) := by decide +kernel
theorem dX6_layHeld_65 : decode cX6_layHeld 65 = .ok (.istore_n 3, 1) := by decide +kernel
theorem dX6_layHeld_66 : decode cX6_layHeld 66 = .ok (.iload_n 3, 1) := by decide +kernel
theorem dX6_layHeld_67 : decode cX6_layHeld 67 = .ok (.ldc 165, 2) := by decide +kernel
theorem dX6_layHeld_69 : decode cX6_layHeld 69 = .ok (.if_icmp .lt 6, 3) := by decide +kernel
theorem dX6_layHeld_72 : decode cX6_layHeld 72 = .ok (.goto 38, 3) := by decide +kernel
theorem dX6_layHeld_75 : decode cX6_layHeld 75 = .ok (.aload_n 0, 1) := by decide +kernel
theorem dX6_layHeld_76 : decode cX6_layHeld 76 = .ok (.getfield 19, 3) := by decide +kernel
theorem dX6_layHeld_79 : decode cX6_layHeld 79 = .ok (.aload_n 0, 1) := by decide +kernel
