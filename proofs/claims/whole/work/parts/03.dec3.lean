theorem dX10_holdsRow_10 : decode cX10_holdsRow 10 = .ok (.iload_n 2, 1) := by decide +kernel
theorem dX10_holdsRow_11 : decode cX10_holdsRow 11 = .ok (.iconst 2, 1) := by decide +kernel
theorem dX10_holdsRow_12 : decode cX10_holdsRow 12 = .ok (.iadd, 1) := by decide +kernel
theorem dX10_holdsRow_13 : decode cX10_holdsRow 13 = .ok (.iaload, 1) := by decide +kernel
theorem dX10_holdsRow_14 : decode cX10_holdsRow 14 = .ok (.aload_n 1, 1) := by decide +kernel
theorem dX10_holdsRow_15 : decode cX10_holdsRow 15 = .ok (.iload_n 2, 1) := by decide +kernel
theorem dX10_holdsRow_16 : decode cX10_holdsRow 16 = .ok (.iconst 3, 1) := by decide +kernel
theorem dX10_holdsRow_17 : decode cX10_holdsRow 17 = .ok (.iadd, 1) := by decide +kernel
theorem dX10_holdsRow_18 : decode cX10_holdsRow 18 = .ok (.iaload, 1) := by decide +kernel
theorem dX10_holdsRow_19 : decode cX10_holdsRow 19 = .ok (.aload_n 1, 1) := by decide +kernel
theorem dX10_holdsRow_20 : decode cX10_holdsRow 20 = .ok (.iload_n 2, 1) := by decide +kernel
theorem dX10_holdsRow_21 : decode cX10_holdsRow 21 = .ok (.iconst 4, 1) := by decide +kernel
theorem dX10_holdsRow_22 : decode cX10_holdsRow 22 = .ok (.iadd, 1) := by decide +kernel
theorem dX10_holdsRow_23 : decode cX10_holdsRow 23 = .ok (.iaload, 1) := by decide +kernel
theorem dX10_holdsRow_24 : decode cX10_holdsRow 24 = .ok (.aload_n 1, 1) := by decide +kernel
theorem dX10_holdsRow_25 : decode cX10_holdsRow 25 = .ok (.iload_n 2, 1) := by decide +kernel
theorem dX10_holdsRow_26 : decode cX10_holdsRow 26 = .ok (.iconst 5, 1) := by decide +kernel
theorem dX10_holdsRow_27 : decode cX10_holdsRow 27 = .ok (.iadd, 1) := by decide +kernel
theorem dX10_holdsRow_28 : decode cX10_holdsRow 28 = .ok (.iaload, 1) := by decide +kernel
theorem dX10_holdsRow_29 : decode cX10_holdsRow 29 = .ok (.aload_n 1, 1) := by decide +kernel
theorem dX10_holdsRow_30 : decode cX10_holdsRow 30 = .ok (.iload_n 2, 1) := by decide +kernel
theorem dX10_holdsRow_31 : decode cX10_holdsRow 31 = .ok (.bipush 6, 2) := by decide +kernel
theorem dX10_holdsRow_33 : decode cX10_holdsRow 33 = .ok (.iadd, 1) := by decide +kernel
theorem dX10_holdsRow_34 : decode cX10_holdsRow 34 = .ok (.iaload, 1) := by decide +kernel
theorem dX10_holdsRow_35 : decode cX10_holdsRow 35 = .ok (.invokevirtual 268, 3) := by decide +kernel
theorem dX10_holdsRow_38 : decode cX10_holdsRow 38 = .ok (.ireturn, 1) := by decide +kernel
theorem dX10_addRowFrom_0 : decode cX10_addRowFrom 0 = .ok (.aload_n 0, 1) := by decide +kernel
theorem dX10_addRowFrom_1 : decode cX10_addRowFrom 1 = .ok (.aload_n 1, 1) := by decide +kernel
theorem dX10_addRowFrom_2 : decode cX10_addRowFrom 2 = .ok (.iload_n 2, 1) := by decide +kernel
theorem dX10_addRowFrom_3 : decode cX10_addRowFrom 3 = .ok (.iaload, 1) := by decide +kernel
theorem dX10_addRowFrom_4 : decode cX10_addRowFrom 4 = .ok (.aload_n 1, 1) := by decide +kernel
theorem dX10_addRowFrom_5 : decode cX10_addRowFrom 5 = .ok (.iload_n 2, 1) := by decide +kernel
theorem dX10_addRowFrom_6 : decode cX10_addRowFrom 6 = .ok (.iconst 1, 1) := by decide +kernel
theorem dX10_addRowFrom_7 : decode cX10_addRowFrom 7 = .ok (.iadd, 1) := by decide +kernel
theorem dX10_addRowFrom_8 : decode cX10_addRowFrom 8 = .ok (.iaload, 1) := by decide +kernel
theorem dX10_addRowFrom_9 : decode cX10_addRowFrom 9 = .ok (.aload_n 1, 1) := by decide +kernel
theorem dX10_addRowFrom_10 : decode cX10_addRowFrom 10 = .ok (.iload_n 2, 1) := by decide +kernel
theorem dX10_addRowFrom_11 : decode cX10_addRowFrom 11 = .ok (.iconst 2, 1) := by decide +kernel
theorem dX10_addRowFrom_12 : decode cX10_addRowFrom 12 = .ok (.iadd, 1) := by decide +kernel
theorem dX10_addRowFrom_13 : decode cX10_addRowFrom 13 = .ok (.iaload, 1) := by decide +kernel
theorem dX10_addRowFrom_14 : decode cX10_addRowFrom 14 = .ok (.aload_n 1, 1) := by decide +kernel
theorem dX10_addRowFrom_15 : decode cX10_addRowFrom 15 = .ok (.iload_n 2, 1) := by decide +kernel
theorem dX10_addRowFrom_16 : decode cX10_addRowFrom 16 = .ok (.iconst 3, 1) := by decide +kernel
theorem dX10_addRowFrom_17 : decode cX10_addRowFrom 17 = .ok (.iadd, 1) := by decide +kernel
theorem dX10_addRowFrom_18 : decode cX10_addRowFrom 18 = .ok (.iaload, 1) := by decide +kernel
theorem dX10_addRowFrom_19 : decode cX10_addRowFrom 19 = .ok (.aload_n 1, 1) := by decide +kernel
theorem dX10_addRowFrom_20 : decode cX10_addRowFrom 20 = .ok (.iload_n 2, 1) := by decide +kernel
theorem dX10_addRowFrom_21 : decode cX10_addRowFrom 21 = .ok (.iconst 4, 1) := by decide +kernel
theorem dX10_addRowFrom_22 : decode cX10_addRowFrom 22 = .ok (.iadd, 1) := by decide +kernel
theorem dX10_addRowFrom_23 : decode cX10_addRowFrom 23 = .ok (.iaload, 1) := by decide +kernel
theorem dX10_addRowFrom_24 : decode cX10_addRowFrom 24 = .ok (.aload_n 1, 1) := by decide +kernel
theorem dX10_addRowFrom_25 : decode cX10_addRowFrom 25 = .ok (.iload_n 2, 1) := by decide +kernel
theorem dX10_addRowFrom_26 : decode cX10_addRowFrom 26 = .ok (.iconst 5, 1) := by decide +kernel
theorem dX10_addRowFrom_27 : decode cX10_addRowFrom 27 = .ok (.iadd, 1) := by decide +kernel
theorem dX10_addRowFrom_28 : decode cX10_addRowFrom 28 = .ok (.iaload, 1) := by decide +kernel
theorem dX10_addRowFrom_29 : decode cX10_addRowFrom 29 = .ok (.aload_n 1, 1) := by decide +kernel
theorem dX10_addRowFrom_30 : decode cX10_addRowFrom 30 = .ok (.iload_n 2, 1) := by decide +kernel
theorem dX10_addRowFrom_31 : decode cX10_addRowFrom 31 = .ok (.bipush 6, 2) := by decide +kernel
theorem dX10_addRowFrom_33 : decode cX10_addRowFrom 33 = .ok (.iadd, 1) := by decide +kernel
theorem dX10_addRowFrom_34 : decode cX10_addRowFrom 34 = .ok (.iaload, 1) := by decide +kernel
theorem dX10_addRowFrom_35 : decode cX10_addRowFrom 35 = .ok (.invokevirtual 272, 3) := by decide +kernel
theorem dX10_addRowFrom_38 : decode cX10_addRowFrom 38 = .ok (.return_, 1) := by decide +kernel
theorem dX10_rowsOf_0 : decode cX10_rowsOf 0 = .ok (.iconst 0, 1) := by decide +kernel
theorem dX10_rowsOf_1 : decode cX10_rowsOf 1 = .ok (.istore_n 2, 1) := by decide +kernel
theorem dX10_rowsOf_2 : decode cX10_rowsOf 2 = .ok (.iconst 0, 1) := by decide +kernel
theorem dX10_rowsOf_3 : decode cX10_rowsOf 3 = .ok (.istore_n 3, 1) := by decide +kernel
theorem dX10_rowsOf_4 : decode cX10_rowsOf 4 = .ok (.iload_n 3, 1) := by decide +kernel
theorem dX10_rowsOf_5 : decode cX10_rowsOf 5 = .ok (.aload_n 0, 1) := by decide +kernel
theorem dX10_rowsOf_6 : decode cX10_rowsOf 6 = .ok (.getfield 95, 3) := by decide +kernel
theorem dX10_rowsOf_9 : decode cX10_rowsOf 9 = .ok (.if_icmp .ge 28, 3) := by decide +kernel
theorem dX10_rowsOf_12 : decode cX10_rowsOf 12 = .ok (.aload_n 0, 1) := by decide +kernel
theorem dX10_rowsOf_13 : decode cX10_rowsOf 13 = .ok (.getfield 91, 3) := by decide +kernel
theorem dX10_rowsOf_16 : decode cX10_rowsOf 16 = .ok (.iload_n 3, 1) := by decide +kernel
theorem dX10_rowsOf_17 : decode cX10_rowsOf 17 = .ok (.aaload, 1) := by decide +kernel
theorem dX10_rowsOf_18 : decode cX10_rowsOf 18 = .ok (.getfield 424, 3) := by decide +kernel
theorem dX10_rowsOf_21 : decode cX10_rowsOf 21 = .ok (.getfield 222, 3) := by decide +kernel
theorem dX10_rowsOf_24 : decode cX10_rowsOf 24 = .ok (.iload_n 1, 1) := by decide +kernel
theorem dX10_rowsOf_25 : decode cX10_rowsOf 25 = .ok (.if_icmp .ne 6, 3) := by decide +kernel
theorem dX10_rowsOf_28 : decode cX10_rowsOf 28 = .ok (.iinc 2 1, 3) := by decide +kernel
theorem dX10_rowsOf_31 : decode cX10_rowsOf 31 = .ok (.iinc 3 1, 3) := by decide +kernel
theorem dX10_rowsOf_34 : decode cX10_rowsOf 34 = .ok (.goto (-30), 3) := by decide +kernel
theorem dX10_rowsOf_37 : decode cX10_rowsOf 37 = .ok (.iload_n 2, 1) := by decide +kernel
theorem dX10_rowsOf_38 : decode cX10_rowsOf 38 = .ok (.ireturn, 1) := by decide +kernel
theorem dX10_missOf_0 : decode cX10_missOf 0 = .ok (.aload_n 0, 1) := by decide +kernel
theorem dX10_missOf_1 : decode cX10_missOf 1 = .ok (.aload_n 0, 1) := by decide +kernel
theorem dX10_missOf_2 : decode cX10_missOf 2 = .ok (.getfield 57, 3) := by decide +kernel
theorem dX10_missOf_5 : decode cX10_missOf 5 = .ok (.aload_n 1, 1) := by decide +kernel
theorem dX10_missOf_6 : decode cX10_missOf 6 = .ok (.getfield 424, 3) := by decide +kernel
theorem dX10_missOf_9 : decode cX10_missOf 9 = .ok (.iload_n 2, 1) := by decide +kernel
theorem dX10_missOf_10 : decode cX10_missOf 10 = .ok (.invokevirtual 192, 3) := by decide +kernel
theorem dX10_missOf_13 : decode cX10_missOf 13 = .ok (.pop, 1) := by decide +kernel
theorem dX10_missOf_14 : decode cX10_missOf 14 = .ok (.sipush 9999, 3) := by decide +kernel
theorem dX10_missOf_17 : decode cX10_missOf 17 = .ok (.aload_n 1, 1) := by decide +kernel
theorem dX10_missOf_18 : decode cX10_missOf 18 = .ok (.getfield 427, 3) := by decide +kernel
theorem dX10_missOf_21 : decode cX10_missOf 21 = .ok (.aload_n 0, 1) := by decide +kernel
theorem dX10_missOf_22 : decode cX10_missOf 22 = .ok (.getfield 57, 3) := by decide +kernel
theorem dX10_missOf_25 : decode cX10_missOf 25 = .ok (.getfield 305, 3) := by decide +kernel
theorem dX10_missOf_28 : decode cX10_missOf 28 = .ok (.isub, 1) := by decide +kernel
theorem dX10_missOf_29 : decode cX10_missOf 29 = .ok (.invokestatic 229, 3) := by decide +kernel
theorem dX10_missOf_32 : decode cX10_missOf 32 = .ok (.aload_n 1, 1) := by decide +kernel
theorem dX10_missOf_33 : decode cX10_missOf 33 = .ok (.getfield 428, 3) := by decide +kernel
theorem dX10_missOf_36 : decode cX10_missOf 36 = .ok (.aload_n 0, 1) := by decide +kernel
theorem dX10_missOf_37 : decode cX10_missOf 37 = .ok (.getfield 57, 3) := by decide +kernel
theorem dX10_missOf_40 : decode cX10_missOf 40 = .ok (.getfield 311, 3) := by decide +kernel
theorem dX10_missOf_43 : decode cX10_missOf 43 = .ok (.isub, 1) := by decide +kernel
theorem dX10_missOf_44 : decode cX10_missOf 44 = .ok (.invokestatic 229, 3) := by decide +kernel
theorem dX10_missOf_47 : decode cX10_missOf 47 = .ok (.iadd, 1) := by decide +kernel
theorem dX10_missOf_48 : decode cX10_missOf 48 = .ok (.invokestatic 429, 3) := by decide +kernel
theorem dX10_missOf_51 : decode cX10_missOf 51 = .ok (.ireturn, 1) := by decide +kernel
theorem dX10_missSum_0 : decode cX10_missSum 0 = .ok (.iconst 0, 1) := by decide +kernel
theorem dX10_missSum_1 : decode cX10_missSum 1 = .ok (.istore_n 3, 1) := by decide +kernel
theorem dX10_missSum_2 : decode cX10_missSum 2 = .ok (.iconst 0, 1) := by decide +kernel
theorem dX10_missSum_3 : decode cX10_missSum 3 = .ok (.istore 4, 2) := by decide +kernel
theorem dX10_missSum_5 : decode cX10_missSum 5 = .ok (.iload 4, 2) := by decide +kernel
theorem dX10_missSum_7 : decode cX10_missSum 7 = .ok (.aload_n 0, 1) := by decide +kernel
theorem dX10_missSum_8 : decode cX10_missSum 8 = .ok (.getfield 95, 3) := by decide +kernel
theorem dX10_missSum_11 : decode cX10_missSum 11 = .ok (.if_icmp .ge 41, 3) := by decide +kernel
theorem dX10_missSum_14 : decode cX10_missSum 14 = .ok (.aload_n 0, 1) := by decide +kernel
theorem dX10_missSum_15 : decode cX10_missSum 15 = .ok (.getfield 91, 3) := by decide +kernel
theorem dX10_missSum_18 : decode cX10_missSum 18 = .ok (.iload 4, 2) := by decide +kernel
theorem dX10_missSum_20 : decode cX10_missSum 20 = .ok (.aaload, 1) := by decide +kernel
theorem dX10_missSum_21 : decode cX10_missSum 21 = .ok (.getfield 424, 3) := by decide +kernel
theorem dX10_missSum_24 : decode cX10_missSum 24 = .ok (.getfield 222, 3) := by decide +kernel
theorem dX10_missSum_27 : decode cX10_missSum 27 = .ok (.iload_n 1, 1) := by decide +kernel
theorem dX10_missSum_28 : decode cX10_missSum 28 = .ok (.if_icmp .ne 18, 3) := by decide +kernel
theorem dX10_missSum_31 : decode cX10_missSum 31 = .ok (.iload_n 3, 1) := by decide +kernel
theorem dX10_missSum_32 : decode cX10_missSum 32 = .ok (.aload_n 0, 1) := by decide +kernel
theorem dX10_missSum_33 : decode cX10_missSum 33 = .ok (.aload_n 0, 1) := by decide +kernel
theorem dX10_missSum_34 : decode cX10_missSum 34 = .ok (.getfield 91, 3) := by decide +kernel
theorem dX10_missSum_37 : decode cX10_missSum 37 = .ok (.iload 4, 2) := by decide +kernel
theorem dX10_missSum_39 : decode cX10_missSum 39 = .ok (.aaload, 1) := by decide +kernel
theorem dX10_missSum_40 : decode cX10_missSum 40 = .ok (.iload_n 2, 1) := by decide +kernel
theorem dX10_missSum_41 : decode cX10_missSum 41 = .ok (.invokevirtual 276, 3) := by decide +kernel
theorem dX10_missSum_44 : decode cX10_missSum 44 = .ok (.iadd, 1) := by decide +kernel
theorem dX10_missSum_45 : decode cX10_missSum 45 = .ok (.istore_n 3, 1) := by decide +kernel
theorem dX10_missSum_46 : decode cX10_missSum 46 = .ok (.iinc 4 1, 3) := by decide +kernel
theorem dX10_missSum_49 : decode cX10_missSum 49 = .ok (.goto (-44), 3) := by decide +kernel
theorem dX10_missSum_52 : decode cX10_missSum 52 = .ok (.iload_n 3, 1) := by decide +kernel
theorem dX10_missSum_53 : decode cX10_missSum 53 = .ok (.ireturn, 1) := by decide +kernel
theorem dX10_explainedBend_0 : decode cX10_explainedBend 0 = .ok (.iconst 0, 1) := by decide +kernel
theorem dX10_explainedBend_1 : decode cX10_explainedBend 1 = .ok (.istore_n 2, 1) := by decide +kernel
theorem dX10_explainedBend_2 : decode cX10_explainedBend 2 = .ok (.aload_n 0, 1) := by decide +kernel
theorem dX10_explainedBend_3 : decode cX10_explainedBend 3 = .ok (.iload_n 1, 1) := by decide +kernel
theorem dX10_explainedBend_4 : decode cX10_explainedBend 4 = .ok (.iconst 0, 1) := by decide +kernel
theorem dX10_explainedBend_5 : decode cX10_explainedBend 5 = .ok (.invokevirtual 286, 3) := by decide +kernel
theorem dX10_explainedBend_8 : decode cX10_explainedBend 8 = .ok (.istore_n 3, 1) := by decide +kernel
theorem dX10_explainedBend_9 : decode cX10_explainedBend 9 = .ok (.iconst 1, 1) := by decide +kernel
theorem dX10_explainedBend_10 : decode cX10_explainedBend 10 = .ok (.istore 4, 2) := by decide +kernel
theorem dX10_explainedBend_12 : decode cX10_explainedBend 12 = .ok (.iload 4, 2) := by decide +kernel
theorem dX10_explainedBend_14 : decode cX10_explainedBend 14 = .ok (.bipush 9, 2) := by decide +kernel
theorem dX10_explainedBend_16 : decode cX10_explainedBend 16 = .ok (.if_icmp .gt 51, 3) := by decide +kernel
theorem dX10_explainedBend_19 : decode cX10_explainedBend 19 = .ok (.iconst (-1), 1) := by decide +kernel
theorem dX10_explainedBend_20 : decode cX10_explainedBend 20 = .ok (.istore 5, 2) := by decide +kernel
theorem dX10_explainedBend_22 : decode cX10_explainedBend 22 = .ok (.iload 5, 2) := by decide +kernel
theorem dX10_explainedBend_24 : decode cX10_explainedBend 24 = .ok (.iconst 1, 1) := by decide +kernel
theorem dX10_explainedBend_25 : decode cX10_explainedBend 25 = .ok (.if_icmp .gt 36, 3) := by decide +kernel
theorem dX10_explainedBend_28 : decode cX10_explainedBend 28 = .ok (.aload_n 0, 1) := by decide +kernel
theorem dX10_explainedBend_29 : decode cX10_explainedBend 29 = .ok (.iload_n 1, 1) := by decide +kernel
theorem dX10_explainedBend_30 : decode cX10_explainedBend 30 = .ok (.iload 5, 2) := by decide +kernel
theorem dX10_explainedBend_32 : decode cX10_explainedBend 32 = .ok (.iload 4, 2) := by decide +kernel
theorem dX10_explainedBend_34 : decode cX10_explainedBend 34 = .ok (.imul, 1) := by decide +kernel
theorem dX10_explainedBend_35 : decode cX10_explainedBend 35 = .ok (.invokevirtual 286, 3) := by decide +kernel
theorem dX10_explainedBend_38 : decode cX10_explainedBend 38 = .ok (.istore 6, 2) := by decide +kernel
theorem dX10_explainedBend_40 : decode cX10_explainedBend 40 = .ok (.iload 6, 2) := by decide +kernel
theorem dX10_explainedBend_42 : decode cX10_explainedBend 42 = .ok (.iload_n 3, 1) := by decide +kernel
theorem dX10_explainedBend_43 : decode cX10_explainedBend 43 = .ok (.if_icmp .ge 12, 3) := by decide +kernel
theorem dX10_explainedBend_46 : decode cX10_explainedBend 46 = .ok (.iload 6, 2) := by decide +kernel
theorem dX10_explainedBend_48 : decode cX10_explainedBend 48 = .ok (.istore_n 3, 1) := by decide +kernel
theorem dX10_explainedBend_49 : decode cX10_explainedBend 49 = .ok (.iload 5, 2) := by decide +kernel
theorem dX10_explainedBend_51 : decode cX10_explainedBend 51 = .ok (.iload 4, 2) := by decide +kernel
theorem dX10_explainedBend_53 : decode cX10_explainedBend 53 = .ok (.imul, 1) := by decide +kernel
theorem dX10_explainedBend_54 : decode cX10_explainedBend 54 = .ok (.istore_n 2, 1) := by decide +kernel
theorem dX10_explainedBend_55 : decode cX10_explainedBend 55 = .ok (.iinc 5 2, 3) := by decide +kernel
theorem dX10_explainedBend_58 : decode cX10_explainedBend 58 = .ok (.goto (-36), 3) := by decide +kernel
theorem dX10_explainedBend_61 : decode cX10_explainedBend 61 = .ok (.iinc 4 1, 3) := by decide +kernel
theorem dX10_explainedBend_64 : decode cX10_explainedBend 64 = .ok (.goto (-52), 3) := by decide +kernel
theorem dX10_explainedBend_67 : decode cX10_explainedBend 67 = .ok (.iload_n 2, 1) := by decide +kernel
theorem dX10_explainedBend_68 : decode cX10_explainedBend 68 = .ok (.ireturn, 1) := by decide +kernel
theorem dX11_in_0 : decode cX11_in 0 = .ok (.lload_n 0, 1) := by decide +kernel
theorem dX11_in_1 : decode cX11_in 1 = .ok (.lload_n 2, 1) := by decide +kernel
theorem dX11_in_2 : decode cX11_in 2 = .ok (.lcmp, 1) := by decide +kernel
theorem dX11_in_3 : decode cX11_in 3 = .ok (.ifCond .lt 14, 3) := by decide +kernel
theorem dX11_in_6 : decode cX11_in 6 = .ok (.lload_n 0, 1) := by decide +kernel
theorem dX11_in_7 : decode cX11_in 7 = .ok (.lload 4, 2) := by decide +kernel
theorem dX11_in_9 : decode cX11_in 9 = .ok (.lcmp, 1) := by decide +kernel
theorem dX11_in_10 : decode cX11_in 10 = .ok (.ifCond .gt 7, 3) := by decide +kernel
theorem dX11_in_13 : decode cX11_in 13 = .ok (.iconst 1, 1) := by decide +kernel
theorem dX11_in_14 : decode cX11_in 14 = .ok (.goto 4, 3) := by decide +kernel
theorem dX11_in_17 : decode cX11_in 17 = .ok (.iconst 0, 1) := by decide +kernel
theorem dX11_in_18 : decode cX11_in 18 = .ok (.ireturn, 1) := by decide +kernel
theorem dX11_init_0 : decode cX11_init 0 = .ok (.aload_n 0, 1) := by decide +kernel
theorem dX11_init_1 : decode cX11_init 1 = .ok (.invokespecial 1, 3) := by decide +kernel
theorem dX11_init_4 : decode cX11_init 4 = .ok (.aload_n 0, 1) := by decide +kernel
theorem dX11_init_5 : decode cX11_init 5 = .ok (.bipush 91, 2) := by decide +kernel
theorem dX11_init_7 : decode cX11_init 7 = .ok (.newarray .int, 2) := by decide +kernel
theorem dX11_init_9 : decode cX11_init 9 = .ok (.dup, 1) := by decide +kernel
theorem dX11_init_10 : decode cX11_init 10 = .ok (.iconst 0, 1) := by decide +kernel
theorem dX11_init_11 : decode cX11_init 11 = .ok (.iconst 0, 1) := by decide +kernel
theorem dX11_init_12 : decode cX11_init 12 = .ok (.iastore, 1) := by decide +kernel
theorem dX11_init_13 : decode cX11_init 13 = .ok (.dup, 1) := by decide +kernel
theorem dX11_init_14 : decode cX11_init 14 = .ok (.iconst 1, 1) := by decide +kernel
theorem dX11_init_15 : decode cX11_init 15 = .ok (.bipush 17, 2) := by decide +kernel
theorem dX11_init_17 : decode cX11_init 17 = .ok (.iastore, 1) := by decide +kernel
theorem dX11_init_18 : decode cX11_init 18 = .ok (.dup, 1) := by decide +kernel
theorem dX11_init_19 : decode cX11_init 19 = .ok (.iconst 2, 1) := by decide +kernel
theorem dX11_init_20 : decode cX11_init 20 = .ok (.bipush 35, 2) := by decide +kernel
theorem dX11_init_22 : decode cX11_init 22 = .ok (.iastore, 1) := by decide +kernel
theorem dX11_init_23 : decode cX11_init 23 = .ok (.dup, 1) := by decide +kernel
theorem dX11_init_24 : decode cX11_init 24 = .ok (.iconst 3, 1) := by decide +kernel
theorem dX11_init_25 : decode cX11_init 25 = .ok (.bipush 52, 2) := by decide +kernel
theorem dX11_init_27 : decode cX11_init 27 = .ok (.iastore, 1) := by decide +kernel
theorem dX11_init_28 : decode cX11_init 28 = .ok (.dup, 1) := by decide +kernel
theorem dX11_init_29 : decode cX11_init 29 = .ok (.iconst 4, 1) := by decide +kernel
theorem dX11_init_30 : decode cX11_init 30 = .ok (.bipush 70, 2) := by decide +kernel
theorem dX11_init_32 : decode cX11_init 32 = .ok (.iastore, 1) := by decide +kernel
theorem dX11_init_33 : decode cX11_init 33 = .ok (.dup, 1) := by decide +kernel
theorem dX11_init_34 : decode cX11_init 34 = .ok (.iconst 5, 1) := by decide +kernel
theorem dX11_init_35 : decode cX11_init 35 = .ok (.bipush 87, 2) := by decide +kernel
theorem dX11_init_37 : decode cX11_init 37 = .ok (.iastore, 1) := by decide +kernel
theorem dX11_init_38 : decode cX11_init 38 = .ok (.dup, 1) := by decide +kernel
theorem dX11_init_39 : decode cX11_init 39 = .ok (.bipush 6, 2) := by decide +kernel
theorem dX11_init_41 : decode cX11_init 41 = .ok (.bipush 105, 2) := by decide +kernel
theorem dX11_init_43 : decode cX11_init 43 = .ok (.iastore, 1) := by decide +kernel
theorem dX11_init_44 : decode cX11_init 44 = .ok (.dup, 1) := by decide +kernel
theorem dX11_init_45 : decode cX11_init 45 = .ok (.bipush 7, 2) := by decide +kernel
theorem dX11_init_47 : decode cX11_init 47 = .ok (.bipush 122, 2) := by decide +kernel
theorem dX11_init_49 : decode cX11_init 49 = .ok (.iastore, 1) := by decide +kernel
theorem dX11_init_50 : decode cX11_init 50 = .ok (.dup, 1) := by decide +kernel
theorem dX11_init_51 : decode cX11_init 51 = .ok (.bipush 8, 2) := by decide +kernel
theorem dX11_init_53 : decode cX11_init 53 = .ok (.sipush 139, 3) := by decide +kernel
theorem dX11_init_56 : decode cX11_init 56 = .ok (.iastore, 1) := by decide +kernel
theorem dX11_init_57 : decode cX11_init 57 = .ok (.dup, 1) := by decide +kernel
theorem dX11_init_58 : decode cX11_init 58 = .ok (.bipush 9, 2) := by decide +kernel
theorem dX11_init_60 : decode cX11_init 60 = .ok (.sipush 156, 3) := by decide +kernel
theorem dX11_init_63 : decode cX11_init 63 = .ok (.iastore, 1) := by decide +kernel
theorem dX11_init_64 : decode cX11_init 64 = .ok (.dup, 1) := by decide +kernel
theorem dX11_init_65 : decode cX11_init 65 = .ok (.bipush 10, 2) := by decide +kernel
theorem dX11_init_67 : decode cX11_init 67 = .ok (.sipush 174, 3) := by decide +kernel
theorem dX11_init_70 : decode cX11_init 70 = .ok (.iastore, 1) := by decide +kernel
theorem dX11_init_71 : decode cX11_init 71 = .ok (.dup, 1) := by decide +kernel
theorem dX11_init_72 : decode cX11_init 72 = .ok (.bipush 11, 2) := by decide +kernel
theorem dX11_init_74 : decode cX11_init 74 = .ok (.sipush 191, 3) := by decide +kernel
theorem dX11_init_77 : decode cX11_init 77 = .ok (.iastore, 1) := by decide +kernel
theorem dX11_init_78 : decode cX11_init 78 = .ok (.dup, 1) := by decide +kernel
theorem dX11_init_79 : decode cX11_init 79 = .ok (.bipush 12, 2) := by decide +kernel
theorem dX11_init_81 : decode cX11_init 81 = .ok (.sipush 208, 3) := by decide +kernel
theorem dX11_init_84 : decode cX11_init 84 = .ok (.iastore, 1) := by decide +kernel
theorem dX11_init_85 : decode cX11_init 85 = .ok (.dup, 1) := by decide +kernel
theorem dX11_init_86 : decode cX11_init 86 = .ok (.bipush 13, 2) := by decide +kernel
theorem dX11_init_88 : decode cX11_init 88 = .ok (.sipush 225, 3) := by decide +kernel
theorem dX11_init_91 : decode cX11_init 91 = .ok (.iastore, 1) := by decide +kernel
theorem dX11_init_92 : decode cX11_init 92 = .ok (.dup, 1) := by decide +kernel
theorem dX11_init_93 : decode cX11_init 93 = .ok (.bipush 14, 2) := by decide +kernel
theorem dX11_init_95 : decode cX11_init 95 = .ok (.sipush 242, 3) := by decide +kernel
theorem dX11_init_98 : decode cX11_init 98 = .ok (.iastore, 1) := by decide +kernel
theorem dX11_init_99 : decode cX11_init 99 = .ok (.dup, 1) := by decide +kernel
theorem dX11_init_100 : decode cX11_init 100 = .ok (.bipush 15, 2) := by decide +kernel
theorem dX11_init_102 : decode cX11_init 102 = .ok (.sipush 259, 3) := by decide +kernel
theorem dX11_init_105 : decode cX11_init 105 = .ok (.iastore, 1) := by decide +kernel
theorem dX11_init_106 : decode cX11_init 106 = .ok (.dup, 1) := by decide +kernel
theorem dX11_init_107 : decode cX11_init 107 = .ok (.bipush 16, 2) := by decide +kernel
theorem dX11_init_109 : decode cX11_init 109 = .ok (.sipush 276, 3) := by decide +kernel
theorem dX11_init_112 : decode cX11_init 112 = .ok (.iastore, 1) := by decide +kernel
theorem dX11_init_113 : decode cX11_init 113 = .ok (.dup, 1) := by decide +kernel
theorem dX11_init_114 : decode cX11_init 114 = .ok (.bipush 17, 2) := by decide +kernel
theorem dX11_init_116 : decode cX11_init 116 = .ok (.sipush 292, 3) := by decide +kernel
theorem dX11_init_119 : decode cX11_init 119 = .ok (.iastore, 1) := by decide +kernel
theorem dX11_init_120 : decode cX11_init 120 = .ok (.dup, 1) := by decide +kernel
theorem dX11_init_121 : decode cX11_init 121 = .ok (.bipush 18, 2) := by decide +kernel
theorem dX11_init_123 : decode cX11_init 123 = .ok (.sipush 309, 3) := by decide +kernel
theorem dX11_init_126 : decode cX11_init 126 = .ok (.iastore, 1) := by decide +kernel
theorem dX11_init_127 : decode cX11_init 127 = .ok (.dup, 1) := by decide +kernel
theorem dX11_init_128 : decode cX11_init 128 = .ok (.bipush 19, 2) := by decide +kernel
theorem dX11_init_130 : decode cX11_init 130 = .ok (.sipush 326, 3) := by decide +kernel
theorem dX11_init_133 : decode cX11_init 133 = .ok (.iastore, 1) := by decide +kernel
theorem dX11_init_134 : decode cX11_init 134 = .ok (.dup, 1) := by decide +kernel
theorem dX11_init_135 : decode cX11_init 135 = .ok (.bipush 20, 2) := by decide +kernel
theorem dX11_init_137 : decode cX11_init 137 = .ok (.sipush 342, 3) := by decide +kernel
theorem dX11_init_140 : decode cX11_init 140 = .ok (.iastore, 1) := by decide +kernel
theorem dX11_init_141 : decode cX11_init 141 = .ok (.dup, 1) := by decide +kernel
theorem dX11_init_142 : decode cX11_init 142 = .ok (.bipush 21, 2) := by decide +kernel
theorem dX11_init_144 : decode cX11_init 144 = .ok (.sipush 358, 3) := by decide +kernel
theorem dX11_init_147 : decode cX11_init 147 = .ok (.iastore, 1) := by decide +kernel
theorem dX11_init_148 : decode cX11_init 148 = .ok (.dup, 1) := by decide +kernel
theorem dX11_init_149 : decode cX11_init 149 = .ok (.bipush 22, 2) := by decide +kernel
theorem dX11_init_151 : decode cX11_init 151 = .ok (.sipush 375, 3) := by decide +kernel
theorem dX11_init_154 : decode cX11_init 154 = .ok (.iastore, 1) := by decide +kernel
theorem dX11_init_155 : decode cX11_init 155 = .ok (.dup, 1) := by decide +kernel
theorem dX11_init_156 : decode cX11_init 156 = .ok (.bipush 23, 2) := by decide +kernel
theorem dX11_init_158 : decode cX11_init 158 = .ok (.sipush 391, 3) := by decide +kernel
theorem dX11_init_161 : decode cX11_init 161 = .ok (.iastore, 1) := by decide +kernel
theorem dX11_init_162 : decode cX11_init 162 = .ok (.dup, 1) := by decide +kernel
theorem dX11_init_163 : decode cX11_init 163 = .ok (.bipush 24, 2) := by decide +kernel
theorem dX11_init_165 : decode cX11_init 165 = .ok (.sipush 407, 3) := by decide +kernel
theorem dX11_init_168 : decode cX11_init 168 = .ok (.iastore, 1) := by decide +kernel
theorem dX11_init_169 : decode cX11_init 169 = .ok (.dup, 1) := by decide +kernel
theorem dX11_init_170 : decode cX11_init 170 = .ok (.bipush 25, 2) := by decide +kernel
theorem dX11_init_172 : decode cX11_init 172 = .ok (.sipush 423, 3) := by decide +kernel
theorem dX11_init_175 : decode cX11_init 175 = .ok (.iastore, 1) := by decide +kernel
theorem dX11_init_176 : decode cX11_init 176 = .ok (.dup, 1) := by decide +kernel
theorem dX11_init_177 : decode cX11_init 177 = .ok (.bipush 26, 2) := by decide +kernel
theorem dX11_init_179 : decode cX11_init 179 = .ok (.sipush 438, 3) := by decide +kernel
theorem dX11_init_182 : decode cX11_init 182 = .ok (.iastore, 1) := by decide +kernel
theorem dX11_init_183 : decode cX11_init 183 = .ok (.dup, 1) := by decide +kernel
theorem dX11_init_184 : decode cX11_init 184 = .ok (.bipush 27, 2) := by decide +kernel
theorem dX11_init_186 : decode cX11_init 186 = .ok (.sipush 454, 3) := by decide +kernel
theorem dX11_init_189 : decode cX11_init 189 = .ok (.iastore, 1) := by decide +kernel
theorem dX11_init_190 : decode cX11_init 190 = .ok (.dup, 1) := by decide +kernel
theorem dX11_init_191 : decode cX11_init 191 = .ok (.bipush 28, 2) := by decide +kernel
theorem dX11_init_193 : decode cX11_init 193 = .ok (.sipush 469, 3) := by decide +kernel
theorem dX11_init_196 : decode cX11_init 196 = .ok (.iastore, 1) := by decide +kernel
theorem dX11_init_197 : decode cX11_init 197 = .ok (.dup, 1) := by decide +kernel
theorem dX11_init_198 : decode cX11_init 198 = .ok (.bipush 29, 2) := by decide +kernel
theorem dX11_init_200 : decode cX11_init 200 = .ok (.sipush 485, 3) := by decide +kernel
theorem dX11_init_203 : decode cX11_init 203 = .ok (.iastore, 1) := by decide +kernel
theorem dX11_init_204 : decode cX11_init 204 = .ok (.dup, 1) := by decide +kernel
theorem dX11_init_205 : decode cX11_init 205 = .ok (.bipush 30, 2) := by decide +kernel
theorem dX11_init_207 : decode cX11_init 207 = .ok (.sipush 500, 3) := by decide +kernel
theorem dX11_init_210 : decode cX11_init 210 = .ok (.iastore, 1) := by decide +kernel
theorem dX11_init_211 : decode cX11_init 211 = .ok (.dup, 1) := by decide +kernel
theorem dX11_init_212 : decode cX11_init 212 = .ok (.bipush 31, 2) := by decide +kernel
theorem dX11_init_214 : decode cX11_init 214 = .ok (.sipush 515, 3) := by decide +kernel
theorem dX11_init_217 : decode cX11_init 217 = .ok (.iastore, 1) := by decide +kernel
theorem dX11_init_218 : decode cX11_init 218 = .ok (.dup, 1) := by decide +kernel
theorem dX11_init_219 : decode cX11_init 219 = .ok (.bipush 32, 2) := by decide +kernel
theorem dX11_init_221 : decode cX11_init 221 = .ok (.sipush 530, 3) := by decide +kernel
theorem dX11_init_224 : decode cX11_init 224 = .ok (.iastore, 1) := by decide +kernel
theorem dX11_init_225 : decode cX11_init 225 = .ok (.dup, 1) := by decide +kernel
theorem dX11_init_226 : decode cX11_init 226 = .ok (.bipush 33, 2) := by decide +kernel
theorem dX11_init_228 : decode cX11_init 228 = .ok (.sipush 545, 3) := by decide +kernel
theorem dX11_init_231 : decode cX11_init 231 = .ok (.iastore, 1) := by decide +kernel
theorem dX11_init_232 : decode cX11_init 232 = .ok (.dup, 1) := by decide +kernel
theorem dX11_init_233 : decode cX11_init 233 = .ok (.bipush 34, 2) := by decide +kernel
theorem dX11_init_235 : decode cX11_init 235 = .ok (.sipush 559, 3) := by decide +kernel
theorem dX11_init_238 : decode cX11_init 238 = .ok (.iastore, 1) := by decide +kernel
theorem dX11_init_239 : decode cX11_init 239 = .ok (.dup, 1) := by decide +kernel
theorem dX11_init_240 : decode cX11_init 240 = .ok (.bipush 35, 2) := by decide +kernel
theorem dX11_init_242 : decode cX11_init 242 = .ok (.sipush 574, 3) := by decide +kernel
theorem dX11_init_245 : decode cX11_init 245 = .ok (.iastore, 1) := by decide +kernel
theorem dX11_init_246 : decode cX11_init 246 = .ok (.dup, 1) := by decide +kernel
theorem dX11_init_247 : decode cX11_init 247 = .ok (.bipush 36, 2) := by decide +kernel
theorem dX11_init_249 : decode cX11_init 249 = .ok (.sipush 588, 3) := by decide +kernel
theorem dX11_init_252 : decode cX11_init 252 = .ok (.iastore, 1) := by decide +kernel
theorem dX11_init_253 : decode cX11_init 253 = .ok (.dup, 1) := by decide +kernel
theorem dX11_init_254 : decode cX11_init 254 = .ok (.bipush 37, 2) := by decide +kernel
theorem dX11_init_256 : decode cX11_init 256 = .ok (.sipush 602, 3) := by decide +kernel
theorem dX11_init_259 : decode cX11_init 259 = .ok (.iastore, 1) := by decide +kernel
theorem dX11_init_260 : decode cX11_init 260 = .ok (.dup, 1) := by decide +kernel
theorem dX11_init_261 : decode cX11_init 261 = .ok (.bipush 38, 2) := by decide +kernel
theorem dX11_init_263 : decode cX11_init 263 = .ok (.sipush 616, 3) := by decide +kernel
theorem dX11_init_266 : decode cX11_init 266 = .ok (.iastore, 1) := by decide +kernel
theorem dX11_init_267 : decode cX11_init 267 = .ok (.dup, 1) := by decide +kernel
theorem dX11_init_268 : decode cX11_init 268 = .ok (.bipush 39, 2) := by decide +kernel
theorem dX11_init_270 : decode cX11_init 270 = .ok (.sipush 629, 3) := by decide +kernel
theorem dX11_init_273 : decode cX11_init 273 = .ok (.iastore, 1) := by decide +kernel
theorem dX11_init_274 : decode cX11_init 274 = .ok (.dup, 1) := by decide +kernel
theorem dX11_init_275 : decode cX11_init 275 = .ok (.bipush 40, 2) := by decide +kernel
theorem dX11_init_277 : decode cX11_init 277 = .ok (.sipush 643, 3) := by decide +kernel
theorem dX11_init_280 : decode cX11_init 280 = .ok (.iastore, 1) := by decide +kernel
theorem dX11_init_281 : decode cX11_init 281 = .ok (.dup, 1) := by decide +kernel
theorem dX11_init_282 : decode cX11_init 282 = .ok (.bipush 41, 2) := by decide +kernel
theorem dX11_init_284 : decode cX11_init 284 = .ok (.sipush 656, 3) := by decide +kernel
theorem dX11_init_287 : decode cX11_init 287 = .ok (.iastore, 1) := by decide +kernel
theorem dX11_init_288 : decode cX11_init 288 = .ok (.dup, 1) := by decide +kernel
theorem dX11_init_289 : decode cX11_init 289 = .ok (.bipush 42, 2) := by decide +kernel
theorem dX11_init_291 : decode cX11_init 291 = .ok (.sipush 669, 3) := by decide +kernel
theorem dX11_init_294 : decode cX11_init 294 = .ok (.iastore, 1) := by decide +kernel
theorem dX11_init_295 : decode cX11_init 295 = .ok (.dup, 1) := by decide +kernel
theorem dX11_init_296 : decode cX11_init 296 = .ok (.bipush 43, 2) := by decide +kernel
theorem dX11_init_298 : decode cX11_init 298 = .ok (.sipush 682, 3) := by decide +kernel
theorem dX11_init_301 : decode cX11_init 301 = .ok (.iastore, 1) := by decide +kernel
theorem dX11_init_302 : decode cX11_init 302 = .ok (.dup, 1) := by decide +kernel
theorem dX11_init_303 : decode cX11_init 303 = .ok (.bipush 44, 2) := by decide +kernel
theorem dX11_init_305 : decode cX11_init 305 = .ok (.sipush 695, 3) := by decide +kernel
theorem dX11_init_308 : decode cX11_init 308 = .ok (.iastore, 1) := by decide +kernel
theorem dX11_init_309 : decode cX11_init 309 = .ok (.dup, 1) := by decide +kernel
theorem dX11_init_310 : decode cX11_init 310 = .ok (.bipush 45, 2) := by decide +kernel
theorem dX11_init_312 : decode cX11_init 312 = .ok (.sipush 707, 3) := by decide +kernel
theorem dX11_init_315 : decode cX11_init 315 = .ok (.iastore, 1) := by decide +kernel
theorem dX11_init_316 : decode cX11_init 316 = .ok (.dup, 1) := by decide +kernel
theorem dX11_init_317 : decode cX11_init 317 = .ok (.bipush 46, 2) := by decide +kernel
theorem dX11_init_319 : decode cX11_init 319 = .ok (.sipush 719, 3) := by decide +kernel
theorem dX11_init_322 : decode cX11_init 322 = .ok (.iastore, 1) := by decide +kernel
theorem dX11_init_323 : decode cX11_init 323 = .ok (.dup, 1) := by decide +kernel
theorem dX11_init_324 : decode cX11_init 324 = .ok (.bipush 47, 2) := by decide +kernel
theorem dX11_init_326 : decode cX11_init 326 = .ok (.sipush 731, 3) := by decide +kernel
theorem dX11_init_329 : decode cX11_init 329 = .ok (.iastore, 1) := by decide +kernel
theorem dX11_init_330 : decode cX11_init 330 = .ok (.dup, 1) := by decide +kernel
theorem dX11_init_331 : decode cX11_init 331 = .ok (.bipush 48, 2) := by decide +kernel
theorem dX11_init_333 : decode cX11_init 333 = .ok (.sipush 743, 3) := by decide +kernel
theorem dX11_init_336 : decode cX11_init 336 = .ok (.iastore, 1) := by decide +kernel
theorem dX11_init_337 : decode cX11_init 337 = .ok (.dup, 1) := by decide +kernel
theorem dX11_init_338 : decode cX11_init 338 = .ok (.bipush 49, 2) := by decide +kernel
theorem dX11_init_340 : decode cX11_init 340 = .ok (.sipush 755, 3) := by decide +kernel
theorem dX11_init_343 : decode cX11_init 343 = .ok (.iastore, 1) := by decide +kernel
theorem dX11_init_344 : decode cX11_init 344 = .ok (.dup, 1) := by decide +kernel
theorem dX11_init_345 : decode cX11_init 345 = .ok (.bipush 50, 2) := by decide +kernel
theorem dX11_init_347 : decode cX11_init 347 = .ok (.sipush 766, 3) := by decide +kernel
theorem dX11_init_350 : decode cX11_init 350 = .ok (.iastore, 1) := by decide +kernel
theorem dX11_init_351 : decode cX11_init 351 = .ok (.dup, 1) := by decide +kernel
theorem dX11_init_352 : decode cX11_init 352 = .ok (.bipush 51, 2) := by decide +kernel
theorem dX11_init_354 : decode cX11_init 354 = .ok (.sipush 777, 3) := by decide +kernel
theorem dX11_init_357 : decode cX11_init 357 = .ok (.iastore, 1) := by decide +kernel
theorem dX11_init_358 : decode cX11_init 358 = .ok (.dup, 1) := by decide +kernel
theorem dX11_init_359 : decode cX11_init 359 = .ok (.bipush 52, 2) := by decide +kernel
theorem dX11_init_361 : decode cX11_init 361 = .ok (.sipush 788, 3) := by decide +kernel
theorem dX11_init_364 : decode cX11_init 364 = .ok (.iastore, 1) := by decide +kernel
theorem dX11_init_365 : decode cX11_init 365 = .ok (.dup, 1) := by decide +kernel
theorem dX11_init_366 : decode cX11_init 366 = .ok (.bipush 53, 2) := by decide +kernel
theorem dX11_init_368 : decode cX11_init 368 = .ok (.sipush 799, 3) := by decide +kernel
theorem dX11_init_371 : decode cX11_init 371 = .ok (.iastore, 1) := by decide +kernel
theorem dX11_init_372 : decode cX11_init 372 = .ok (.dup, 1) := by decide +kernel
theorem dX11_init_373 : decode cX11_init 373 = .ok (.bipush 54, 2) := by decide +kernel
theorem dX11_init_375 : decode cX11_init 375 = .ok (.sipush 809, 3) := by decide +kernel
theorem dX11_init_378 : decode cX11_init 378 = .ok (.iastore, 1) := by decide +kernel
theorem dX11_init_379 : decode cX11_init 379 = .ok (.dup, 1) := by decide +kernel
theorem dX11_init_380 : decode cX11_init 380 = .ok (.bipush 55, 2) := by decide +kernel
theorem dX11_init_382 : decode cX11_init 382 = .ok (.sipush 819, 3) := by decide +kernel
theorem dX11_init_385 : decode cX11_init 385 = .ok (.iastore, 1) := by decide +kernel
theorem dX11_init_386 : decode cX11_init 386 = .ok (.dup, 1) := by decide +kernel
theorem dX11_init_387 : decode cX11_init 387 = .ok (.bipush 56, 2) := by decide +kernel
theorem dX11_init_389 : decode cX11_init 389 = .ok (.sipush 829, 3) := by decide +kernel
theorem dX11_init_392 : decode cX11_init 392 = .ok (.iastore, 1) := by decide +kernel
theorem dX11_init_393 : decode cX11_init 393 = .ok (.dup, 1) := by decide +kernel
theorem dX11_init_394 : decode cX11_init 394 = .ok (.bipush 57, 2) := by decide +kernel
theorem dX11_init_396 : decode cX11_init 396 = .ok (.sipush 839, 3) := by decide +kernel
theorem dX11_init_399 : decode cX11_init 399 = .ok (.iastore, 1) := by decide +kernel
theorem dX11_init_400 : decode cX11_init 400 = .ok (.dup, 1) := by decide +kernel
theorem dX11_init_401 : decode cX11_init 401 = .ok (.bipush 58, 2) := by decide +kernel
theorem dX11_init_403 : decode cX11_init 403 = .ok (.sipush 848, 3) := by decide +kernel
theorem dX11_init_406 : decode cX11_init 406 = .ok (.iastore, 1) := by decide +kernel
theorem dX11_init_407 : decode cX11_init 407 = .ok (.dup, 1) := by decide +kernel
theorem dX11_init_408 : decode cX11_init 408 = .ok (.bipush 59, 2) := by decide +kernel
theorem dX11_init_410 : decode cX11_init 410 = .ok (.sipush 857, 3) := by decide +kernel
theorem dX11_init_413 : decode cX11_init 413 = .ok (.iastore, 1) := by decide +kernel
theorem dX11_init_414 : decode cX11_init 414 = .ok (.dup, 1) := by decide +kernel
theorem dX11_init_415 : decode cX11_init 415 = .ok (.bipush 60, 2) := by decide +kernel
theorem dX11_init_417 : decode cX11_init 417 = .ok (.sipush 866, 3) := by decide +kernel
theorem dX11_init_420 : decode cX11_init 420 = .ok (.iastore, 1) := by decide +kernel
theorem dX11_init_421 : decode cX11_init 421 = .ok (.dup, 1) := by decide +kernel
theorem dX11_init_422 : decode cX11_init 422 = .ok (.bipush 61, 2) := by decide +kernel
theorem dX11_init_424 : decode cX11_init 424 = .ok (.sipush 875, 3) := by decide +kernel
theorem dX11_init_427 : decode cX11_init 427 = .ok (.iastore, 1) := by decide +kernel
theorem dX11_init_428 : decode cX11_init 428 = .ok (.dup, 1) := by decide +kernel
theorem dX11_init_429 : decode cX11_init 429 = .ok (.bipush 62, 2) := by decide +kernel
theorem dX11_init_431 : decode cX11_init 431 = .ok (.sipush 883, 3) := by decide +kernel
theorem dX11_init_434 : decode cX11_init 434 = .ok (.iastore, 1) := by decide +kernel
theorem dX11_init_435 : decode cX11_init 435 = .ok (.dup, 1) := by decide +kernel
theorem dX11_init_436 : decode cX11_init 436 = .ok (.bipush 63, 2) := by decide +kernel
theorem dX11_init_438 : decode cX11_init 438 = .ok (.sipush 891, 3) := by decide +kernel
theorem dX11_init_441 : decode cX11_init 441 = .ok (.iastore, 1) := by decide +kernel
theorem dX11_init_442 : decode cX11_init 442 = .ok (.dup, 1) := by decide +kernel
theorem dX11_init_443 : decode cX11_init 443 = .ok (.bipush 64, 2) := by decide +kernel
theorem dX11_init_445 : decode cX11_init 445 = .ok (.sipush 899, 3) := by decide +kernel
theorem dX11_init_448 : decode cX11_init 448 = .ok (.iastore, 1) := by decide +kernel
theorem dX11_init_449 : decode cX11_init 449 = .ok (.dup, 1) := by decide +kernel
theorem dX11_init_450 : decode cX11_init 450 = .ok (.bipush 65, 2) := by decide +kernel
theorem dX11_init_452 : decode cX11_init 452 = .ok (.sipush 906, 3) := by decide +kernel
theorem dX11_init_455 : decode cX11_init 455 = .ok (.iastore, 1) := by decide +kernel
theorem dX11_init_456 : decode cX11_init 456 = .ok (.dup, 1) := by decide +kernel
theorem dX11_init_457 : decode cX11_init 457 = .ok (.bipush 66, 2) := by decide +kernel
theorem dX11_init_459 : decode cX11_init 459 = .ok (.sipush 914, 3) := by decide +kernel
theorem dX11_init_462 : decode cX11_init 462 = .ok (.iastore, 1) := by decide +kernel
theorem dX11_init_463 : decode cX11_init 463 = .ok (.dup, 1) := by decide +kernel
theorem dX11_init_464 : decode cX11_init 464 = .ok (.bipush 67, 2) := by decide +kernel
theorem dX11_init_466 : decode cX11_init 466 = .ok (.sipush 921, 3) := by decide +kernel
theorem dX11_init_469 : decode cX11_init 469 = .ok (.iastore, 1) := by decide +kernel
theorem dX11_init_470 : decode cX11_init 470 = .ok (.dup, 1) := by decide +kernel
theorem dX11_init_471 : decode cX11_init 471 = .ok (.bipush 68, 2) := by decide +kernel
theorem dX11_init_473 : decode cX11_init 473 = .ok (.sipush 927, 3) := by decide +kernel
theorem dX11_init_476 : decode cX11_init 476 = .ok (.iastore, 1) := by decide +kernel
theorem dX11_init_477 : decode cX11_init 477 = .ok (.dup, 1) := by decide +kernel
theorem dX11_init_478 : decode cX11_init 478 = .ok (.bipush 69, 2) := by decide +kernel
theorem dX11_init_480 : decode cX11_init 480 = .ok (.sipush 934, 3) := by decide +kernel
theorem dX11_init_483 : decode cX11_init 483 = .ok (.iastore, 1) := by decide +kernel
theorem dX11_init_484 : decode cX11_init 484 = .ok (.dup, 1) := by decide +kernel
theorem dX11_init_485 : decode cX11_init 485 = .ok (.bipush 70, 2) := by decide +kernel
theorem dX11_init_487 : decode cX11_init 487 = .ok (.sipush 940, 3) := by decide +kernel
theorem dX11_init_490 : decode cX11_init 490 = .ok (.iastore, 1) := by decide +kernel
theorem dX11_init_491 : decode cX11_init 491 = .ok (.dup, 1) := by decide +kernel
theorem dX11_init_492 : decode cX11_init 492 = .ok (.bipush 71, 2) := by decide +kernel
theorem dX11_init_494 : decode cX11_init 494 = .ok (.sipush 946, 3) := by decide +kernel
theorem dX11_init_497 : decode cX11_init 497 = .ok (.iastore, 1) := by decide +kernel
theorem dX11_init_498 : decode cX11_init 498 = .ok (.dup, 1) := by decide +kernel
theorem dX11_init_499 : decode cX11_init 499 = .ok (.bipush 72, 2) := by decide +kernel
theorem dX11_init_501 : decode cX11_init 501 = .ok (.sipush 951, 3) := by decide +kernel
theorem dX11_init_504 : decode cX11_init 504 = .ok (.iastore, 1) := by decide +kernel
theorem dX11_init_505 : decode cX11_init 505 = .ok (.dup, 1) := by decide +kernel
theorem dX11_init_506 : decode cX11_init 506 = .ok (.bipush 73, 2) := by decide +kernel
theorem dX11_init_508 : decode cX11_init 508 = .ok (.sipush 956, 3) := by decide +kernel
theorem dX11_init_511 : decode cX11_init 511 = .ok (.iastore, 1) := by decide +kernel
theorem dX11_init_512 : decode cX11_init 512 = .ok (.dup, 1) := by decide +kernel
theorem dX11_init_513 : decode cX11_init 513 = .ok (.bipush 74, 2) := by decide +kernel
theorem dX11_init_515 : decode cX11_init 515 = .ok (.sipush 961, 3) := by decide +kernel
theorem dX11_init_518 : decode cX11_init 518 = .ok (.iastore, 1) := by decide +kernel
theorem dX11_init_519 : decode cX11_init 519 = .ok (.dup, 1) := by decide +kernel
theorem dX11_init_520 : decode cX11_init 520 = .ok (.bipush 75, 2) := by decide +kernel
theorem dX11_init_522 : decode cX11_init 522 = .ok (.sipush 966, 3) := by decide +kernel
theorem dX11_init_525 : decode cX11_init 525 = .ok (.iastore, 1) := by decide +kernel
theorem dX11_init_526 : decode cX11_init 526 = .ok (.dup, 1) := by decide +kernel
theorem dX11_init_527 : decode cX11_init 527 = .ok (.bipush 76, 2) := by decide +kernel
theorem dX11_init_529 : decode cX11_init 529 = .ok (.sipush 970, 3) := by decide +kernel
theorem dX11_init_532 : decode cX11_init 532 = .ok (.iastore, 1) := by decide +kernel
theorem dX11_init_533 : decode cX11_init 533 = .ok (.dup, 1) := by decide +kernel
theorem dX11_init_534 : decode cX11_init 534 = .ok (.bipush 77, 2) := by decide +kernel
theorem dX11_init_536 : decode cX11_init 536 = .ok (.sipush 974, 3) := by decide +kernel
theorem dX11_init_539 : decode cX11_init 539 = .ok (.iastore, 1) := by decide +kernel
theorem dX11_init_540 : decode cX11_init 540 = .ok (.dup, 1) := by decide +kernel
theorem dX11_init_541 : decode cX11_init 541 = .ok (.bipush 78, 2) := by decide +kernel
theorem dX11_init_543 : decode cX11_init 543 = .ok (.sipush 978, 3) := by decide +kernel
theorem dX11_init_546 : decode cX11_init 546 = .ok (.iastore, 1) := by decide +kernel
theorem dX11_init_547 : decode cX11_init 547 = .ok (.dup, 1) := by decide +kernel
theorem dX11_init_548 : decode cX11_init 548 = .ok (.bipush 79, 2) := by decide +kernel
theorem dX11_init_550 : decode cX11_init 550 = .ok (.sipush 982, 3) := by decide +kernel
theorem dX11_init_553 : decode cX11_init 553 = .ok (.iastore, 1) := by decide +kernel
theorem dX11_init_554 : decode cX11_init 554 = .ok (.dup, 1) := by decide +kernel
theorem dX11_init_555 : decode cX11_init 555 = .ok (.bipush 80, 2) := by decide +kernel
theorem dX11_init_557 : decode cX11_init 557 = .ok (.sipush 985, 3) := by decide +kernel
theorem dX11_init_560 : decode cX11_init 560 = .ok (.iastore, 1) := by decide +kernel
theorem dX11_init_561 : decode cX11_init 561 = .ok (.dup, 1) := by decide +kernel
theorem dX11_init_562 : decode cX11_init 562 = .ok (.bipush 81, 2) := by decide +kernel
theorem dX11_init_564 : decode cX11_init 564 = .ok (.sipush 988, 3) := by decide +kernel
theorem dX11_init_567 : decode cX11_init 567 = .ok (.iastore, 1) := by decide +kernel
theorem dX11_init_568 : decode cX11_init 568 = .ok (.dup, 1) := by decide +kernel
theorem dX11_init_569 : decode cX11_init 569 = .ok (.bipush 82, 2) := by decide +kernel
theorem dX11_init_571 : decode cX11_init 571 = .ok (.sipush 990, 3) := by decide +kernel
theorem dX11_init_574 : decode cX11_init 574 = .ok (.iastore, 1) := by decide +kernel
theorem dX11_init_575 : decode cX11_init 575 = .ok (.dup, 1) := by decide +kernel
theorem dX11_init_576 : decode cX11_init 576 = .ok (.bipush 83, 2) := by decide +kernel
theorem dX11_init_578 : decode cX11_init 578 = .ok (.sipush 993, 3) := by decide +kernel
theorem dX11_init_581 : decode cX11_init 581 = .ok (.iastore, 1) := by decide +kernel
theorem dX11_init_582 : decode cX11_init 582 = .ok (.dup, 1) := by decide +kernel
theorem dX11_init_583 : decode cX11_init 583 = .ok (.bipush 84, 2) := by decide +kernel
theorem dX11_init_585 : decode cX11_init 585 = .ok (.sipush 995, 3) := by decide +kernel
theorem dX11_init_588 : decode cX11_init 588 = .ok (.iastore, 1) := by decide +kernel
theorem dX11_init_589 : decode cX11_init 589 = .ok (.dup, 1) := by decide +kernel
theorem dX11_init_590 : decode cX11_init 590 = .ok (.bipush 85, 2) := by decide +kernel
theorem dX11_init_592 : decode cX11_init 592 = .ok (.sipush 996, 3) := by decide +kernel
theorem dX11_init_595 : decode cX11_init 595 = .ok (.iastore, 1) := by decide +kernel
theorem dX11_init_596 : decode cX11_init 596 = .ok (.dup, 1) := by decide +kernel
theorem dX11_init_597 : decode cX11_init 597 = .ok (.bipush 86, 2) := by decide +kernel
theorem dX11_init_599 : decode cX11_init 599 = .ok (.sipush 998, 3) := by decide +kernel
theorem dX11_init_602 : decode cX11_init 602 = .ok (.iastore, 1) := by decide +kernel
theorem dX11_init_603 : decode cX11_init 603 = .ok (.dup, 1) := by decide +kernel
theorem dX11_init_604 : decode cX11_init 604 = .ok (.bipush 87, 2) := by decide +kernel
theorem dX11_init_606 : decode cX11_init 606 = .ok (.sipush 999, 3) := by decide +kernel
theorem dX11_init_609 : decode cX11_init 609 = .ok (.iastore, 1) := by decide +kernel
theorem dX11_init_610 : decode cX11_init 610 = .ok (.dup, 1) := by decide +kernel
theorem dX11_init_611 : decode cX11_init 611 = .ok (.bipush 88, 2) := by decide +kernel
theorem dX11_init_613 : decode cX11_init 613 = .ok (.sipush 999, 3) := by decide +kernel
theorem dX11_init_616 : decode cX11_init 616 = .ok (.iastore, 1) := by decide +kernel
theorem dX11_init_617 : decode cX11_init 617 = .ok (.dup, 1) := by decide +kernel
theorem dX11_init_618 : decode cX11_init 618 = .ok (.bipush 89, 2) := by decide +kernel
theorem dX11_init_620 : decode cX11_init 620 = .ok (.sipush 1000, 3) := by decide +kernel
theorem dX11_init_623 : decode cX11_init 623 = .ok (.iastore, 1) := by decide +kernel
theorem dX11_init_624 : decode cX11_init 624 = .ok (.dup, 1) := by decide +kernel
theorem dX11_init_625 : decode cX11_init 625 = .ok (.bipush 90, 2) := by decide +kernel
theorem dX11_init_627 : decode cX11_init 627 = .ok (.sipush 1000, 3) := by decide +kernel
theorem dX11_init_630 : decode cX11_init 630 = .ok (.iastore, 1) := by decide +kernel
theorem dX11_init_631 : decode cX11_init 631 = .ok (.putfield 7, 3) := by decide +kernel
theorem dX11_init_634 : decode cX11_init 634 = .ok (.aload_n 0, 1) := by decide +kernel
theorem dX11_init_635 : decode cX11_init 635 = .ok (.bipush 9, 2) := by decide +kernel
theorem dX11_init_637 : decode cX11_init 637 = .ok (.newarray .int, 2) := by decide +kernel
theorem dX11_init_639 : decode cX11_init 639 = .ok (.putfield 13, 3) := by decide +kernel
theorem dX11_init_642 : decode cX11_init 642 = .ok (.aload_n 0, 1) := by decide +kernel
theorem dX11_init_643 : decode cX11_init 643 = .ok (.bipush 9, 2) := by decide +kernel
theorem dX11_init_645 : decode cX11_init 645 = .ok (.newarray .int, 2) := by decide +kernel
theorem dX11_init_647 : decode cX11_init 647 = .ok (.putfield 16, 3) := by decide +kernel
theorem dX11_init_650 : decode cX11_init 650 = .ok (.aload_n 0, 1) := by decide +kernel
theorem dX11_init_651 : decode cX11_init 651 = .ok (.bipush 9, 2) := by decide +kernel
theorem dX11_init_653 : decode cX11_init 653 = .ok (.newarray .int, 2) := by decide +kernel
theorem dX11_init_655 : decode cX11_init 655 = .ok (.putfield 19, 3) := by decide +kernel
theorem dX11_init_658 : decode cX11_init 658 = .ok (.aload_n 0, 1) := by decide +kernel
theorem dX11_init_659 : decode cX11_init 659 = .ok (.bipush 9, 2) := by decide +kernel
theorem dX11_init_661 : decode cX11_init 661 = .ok (.newarray .int, 2) := by decide +kernel
theorem dX11_init_663 : decode cX11_init 663 = .ok (.putfield 22, 3) := by decide +kernel
theorem dX11_init_666 : decode cX11_init 666 = .ok (.aload_n 0, 1) := by decide +kernel
theorem dX11_init_667 : decode cX11_init 667 = .ok (.bipush 9, 2) := by decide +kernel
theorem dX11_init_669 : decode cX11_init 669 = .ok (.newarray .int, 2) := by decide +kernel
theorem dX11_init_671 : decode cX11_init 671 = .ok (.putfield 25, 3) := by decide +kernel
theorem dX11_init_674 : decode cX11_init 674 = .ok (.aload_n 0, 1) := by decide +kernel
theorem dX11_init_675 : decode cX11_init 675 = .ok (.bipush 9, 2) := by decide +kernel
theorem dX11_init_677 : decode cX11_init 677 = .ok (.newarray .int, 2) := by decide +kernel
theorem dX11_init_679 : decode cX11_init 679 = .ok (.putfield 28, 3) := by decide +kernel
theorem dX11_init_682 : decode cX11_init 682 = .ok (.aload_n 0, 1) := by decide +kernel
theorem dX11_init_683 : decode cX11_init 683 = .ok (.bipush 36, 2) := by decide +kernel
theorem dX11_init_685 : decode cX11_init 685 = .ok (.newarray .int, 2) := by decide +kernel
theorem dX11_init_687 : decode cX11_init 687 = .ok (.putfield 31, 3) := by decide +kernel
theorem dX11_init_690 : decode cX11_init 690 = .ok (.aload_n 0, 1) := by decide +kernel
theorem dX11_init_691 : decode cX11_init 691 = .ok (.bipush 9, 2) := by decide +kernel
theorem dX11_init_693 : decode cX11_init 693 = .ok (.newarray .boolean, 2) := by decide +kernel
theorem dX11_init_695 : decode cX11_init 695 = .ok (.putfield 34, 3) := by decide +kernel
theorem dX11_init_698 : decode cX11_init 698 = .ok (.aload_n 0, 1) := by decide +kernel
theorem dX11_init_699 : decode cX11_init 699 = .ok (.bipush 32, 2) := by decide +kernel
theorem dX11_init_701 : decode cX11_init 701 = .ok (.newarray .int, 2) := by decide +kernel
theorem dX11_init_703 : decode cX11_init 703 = .ok (.putfield 38, 3) := by decide +kernel
theorem dX11_init_706 : decode cX11_init 706 = .ok (.aload_n 0, 1) := by decide +kernel
theorem dX11_init_707 : decode cX11_init 707 = .ok (.bipush 32, 2) := by decide +kernel
theorem dX11_init_709 : decode cX11_init 709 = .ok (.newarray .int, 2) := by decide +kernel
theorem dX11_init_711 : decode cX11_init 711 = .ok (.putfield 41, 3) := by decide +kernel
theorem dX11_init_714 : decode cX11_init 714 = .ok (.aload_n 0, 1) := by decide +kernel
theorem dX11_init_715 : decode cX11_init 715 = .ok (.bipush 6, 2) := by decide +kernel
theorem dX11_init_717 : decode cX11_init 717 = .ok (.newarray .int, 2) := by decide +kernel
theorem dX11_init_719 : decode cX11_init 719 = .ok (.putfield 44, 3) := by decide +kernel
theorem dX11_init_722 : decode cX11_init 722 = .ok (.aload_n 0, 1) := by decide +kernel
theorem dX11_init_723 : decode cX11_init 723 = .ok (.bipush 6, 2) := by decide +kernel
theorem dX11_init_725 : decode cX11_init 725 = .ok (.newarray .int, 2) := by decide +kernel
theorem dX11_init_727 : decode cX11_init 727 = .ok (.putfield 47, 3) := by decide +kernel
theorem dX11_init_730 : decode cX11_init 730 = .ok (.aload_n 0, 1) := by decide +kernel
theorem dX11_init_731 : decode cX11_init 731 = .ok (.bipush 6, 2) := by decide +kernel
theorem dX11_init_733 : decode cX11_init 733 = .ok (.newarray .int, 2) := by decide +kernel
theorem dX11_init_735 : decode cX11_init 735 = .ok (.putfield 50, 3) := by decide +kernel
theorem dX11_init_738 : decode cX11_init 738 = .ok (.aload_n 0, 1) := by decide +kernel
theorem dX11_init_739 : decode cX11_init 739 = .ok (.bipush 6, 2) := by decide +kernel
theorem dX11_init_741 : decode cX11_init 741 = .ok (.newarray .int, 2) := by decide +kernel
theorem dX11_init_743 : decode cX11_init 743 = .ok (.putfield 53, 3) := by decide +kernel
theorem dX11_init_746 : decode cX11_init 746 = .ok (.aload_n 0, 1) := by decide +kernel
theorem dX11_init_747 : decode cX11_init 747 = .ok (.sipush 300, 3) := by decide +kernel
theorem dX11_init_750 : decode cX11_init 750 = .ok (.putfield 56, 3) := by decide +kernel
theorem dX11_init_753 : decode cX11_init 753 = .ok (.aload_n 0, 1) := by decide +kernel
theorem dX11_init_754 : decode cX11_init 754 = .ok (.bipush 8, 2) := by decide +kernel
theorem dX11_init_756 : decode cX11_init 756 = .ok (.newarray .int, 2) := by decide +kernel
theorem dX11_init_758 : decode cX11_init 758 = .ok (.putfield 60, 3) := by decide +kernel
theorem dX11_init_761 : decode cX11_init 761 = .ok (.aload_n 0, 1) := by decide +kernel
theorem dX11_init_762 : decode cX11_init 762 = .ok (.bipush (-4), 2) := by decide +kernel
theorem dX11_init_764 : decode cX11_init 764 = .ok (.putfield 63, 3) := by decide +kernel
theorem dX11_init_767 : decode cX11_init 767 = .ok (.aload_n 0, 1) := by decide +kernel
theorem dX11_init_768 : decode cX11_init 768 = .ok (.sipush 3208, 3) := by decide +kernel
theorem dX11_init_771 : decode cX11_init 771 = .ok (.newarray .int, 2) := by decide +kernel
theorem dX11_init_773 : decode cX11_init 773 = .ok (.putfield 66, 3) := by decide +kernel
theorem dX11_init_776 : decode cX11_init 776 = .ok (.aload_n 0, 1) := by decide +kernel
theorem dX11_init_777 : decode cX11_init 777 = .ok (.iconst 4, 1) := by decide +kernel
theorem dX11_init_778 : decode cX11_init 778 = .ok (.newarray .int, 2) := by decide +kernel
theorem dX11_init_780 : decode cX11_init 780 = .ok (.putfield 69, 3) := by decide +kernel
theorem dX11_init_783 : decode cX11_init 783 = .ok (.aload_n 0, 1) := by decide +kernel
theorem dX11_init_784 : decode cX11_init 784 = .ok (.iconst 2, 1) := by decide +kernel
theorem dX11_init_785 : decode cX11_init 785 = .ok (.newarray .boolean, 2) := by decide +kernel
theorem dX11_init_787 : decode cX11_init 787 = .ok (.putfield 72, 3) := by decide +kernel
theorem dX11_init_790 : decode cX11_init 790 = .ok (.aload_n 0, 1) := by decide +kernel
theorem dX11_init_791 : decode cX11_init 791 = .ok (.bipush 12, 2) := by decide +kernel
theorem dX11_init_793 : decode cX11_init 793 = .ok (.newarray .int, 2) := by decide +kernel
theorem dX11_init_795 : decode cX11_init 795 = .ok (.putfield 75, 3) := by decide +kernel
theorem dX11_init_798 : decode cX11_init 798 = .ok (.aload_n 0, 1) := by decide +kernel
theorem dX11_init_799 : decode cX11_init 799 = .ok (.iconst 5, 1) := by decide +kernel
theorem dX11_init_800 : decode cX11_init 800 = .ok (.newarray .int, 2) := by decide +kernel
theorem dX11_init_802 : decode cX11_init 802 = .ok (.putfield 78, 3) := by decide +kernel
theorem dX11_init_805 : decode cX11_init 805 = .ok (.aload_n 0, 1) := by decide +kernel
theorem dX11_init_806 : decode cX11_init 806 = .ok (.bipush 45, 2) := by decide +kernel
theorem dX11_init_808 : decode cX11_init 808 = .ok (.putfield 81, 3) := by decide +kernel
theorem dX11_init_811 : decode cX11_init 811 = .ok (.aload_n 0, 1) := by decide +kernel
theorem dX11_init_812 : decode cX11_init 812 = .ok (.bipush 120, 2) := by decide +kernel
theorem dX11_init_814 : decode cX11_init 814 = .ok (.putfield 84, 3) := by decide +kernel
theorem dX11_init_817 : decode cX11_init 817 = .ok (.aload_n 0, 1) := by decide +kernel
theorem dX11_init_818 : decode cX11_init 818 = .ok (.sipush 800, 3) := by decide +kernel
theorem dX11_init_821 : decode cX11_init 821 = .ok (.putfield 87, 3) := by decide +kernel
theorem dX11_init_824 : decode cX11_init 824 = .ok (.aload_n 0, 1) := by decide +kernel
theorem dX11_init_825 : decode cX11_init 825 = .ok (.iconst 5, 1) := by decide +kernel
theorem dX11_init_826 : decode cX11_init 826 = .ok (.newarray .int, 2) := by decide +kernel
theorem dX11_init_828 : decode cX11_init 828 = .ok (.putfield 90, 3) := by decide +kernel
theorem dX11_init_831 : decode cX11_init 831 = .ok (.aload_n 0, 1) := by decide +kernel
theorem dX11_init_832 : decode cX11_init 832 = .ok (.bipush 45, 2) := by decide +kernel
theorem dX11_init_834 : decode cX11_init 834 = .ok (.newarray .int, 2) := by decide +kernel
theorem dX11_init_836 : decode cX11_init 836 = .ok (.putfield 93, 3) := by decide +kernel
theorem dX11_init_839 : decode cX11_init 839 = .ok (.aload_n 0, 1) := by decide +kernel
theorem dX11_init_840 : decode cX11_init 840 = .ok (.iconst 5, 1) := by decide +kernel
theorem dX11_init_841 : decode cX11_init 841 = .ok (.newarray .int, 2) := by decide +kernel
theorem dX11_init_843 : decode cX11_init 843 = .ok (.putfield 96, 3) := by decide +kernel
theorem dX11_init_846 : decode cX11_init 846 = .ok (.aload_n 0, 1) := by decide +kernel
theorem dX11_init_847 : decode cX11_init 847 = .ok (.iconst 5, 1) := by decide +kernel
theorem dX11_init_848 : decode cX11_init 848 = .ok (.newarray .int, 2) := by decide +kernel
theorem dX11_init_850 : decode cX11_init 850 = .ok (.putfield 99, 3) := by decide +kernel
theorem dX11_init_853 : decode cX11_init 853 = .ok (.aload_n 0, 1) := by decide +kernel
theorem dX11_init_854 : decode cX11_init 854 = .ok (.sipush 210, 3) := by decide +kernel
theorem dX11_init_857 : decode cX11_init 857 = .ok (.newarray .int, 2) := by decide +kernel
theorem dX11_init_859 : decode cX11_init 859 = .ok (.putfield 102, 3) := by decide +kernel
theorem dX11_init_862 : decode cX11_init 862 = .ok (.aload_n 0, 1) := by decide +kernel
theorem dX11_init_863 : decode cX11_init 863 = .ok (.bipush 25, 2) := by decide +kernel
theorem dX11_init_865 : decode cX11_init 865 = .ok (.newarray .int, 2) := by decide +kernel
theorem dX11_init_867 : decode cX11_init 867 = .ok (.putfield 105, 3) := by decide +kernel
theorem dX11_init_870 : decode cX11_init 870 = .ok (.aload_n 0, 1) := by decide +kernel
theorem dX11_init_871 : decode cX11_init 871 = .ok (.bipush 25, 2) := by decide +kernel
theorem dX11_init_873 : decode cX11_init 873 = .ok (.newarray .int, 2) := by decide +kernel
theorem dX11_init_875 : decode cX11_init 875 = .ok (.putfield 108, 3) := by decide +kernel
theorem dX11_init_878 : decode cX11_init 878 = .ok (.aload_n 0, 1) := by decide +kernel
theorem dX11_init_879 : decode cX11_init 879 = .ok (.iconst 4, 1) := by decide +kernel
theorem dX11_init_880 : decode cX11_init 880 = .ok (.newarray .int, 2) := by decide +kernel
theorem dX11_init_882 : decode cX11_init 882 = .ok (.putfield 111, 3) := by decide +kernel
theorem dX11_init_885 : decode cX11_init 885 = .ok (.aload_n 0, 1) := by decide +kernel
theorem dX11_init_886 : decode cX11_init 886 = .ok (.iconst 4, 1) := by decide +kernel
theorem dX11_init_887 : decode cX11_init 887 = .ok (.newarray .int, 2) := by decide +kernel
theorem dX11_init_889 : decode cX11_init 889 = .ok (.putfield 114, 3) := by decide +kernel
theorem dX11_init_892 : decode cX11_init 892 = .ok (.aload_n 0, 1) := by decide +kernel
theorem dX11_init_893 : decode cX11_init 893 = .ok (.sipush 240, 3) := by decide +kernel
theorem dX11_init_896 : decode cX11_init 896 = .ok (.newarray .int, 2) := by decide +kernel
theorem dX11_init_898 : decode cX11_init 898 = .ok (.putfield 117, 3) := by decide +kernel
theorem dX11_init_901 : decode cX11_init 901 = .ok (.aload_n 0, 1) := by decide +kernel
theorem dX11_init_902 : decode cX11_init 902 = .ok (.bipush 60, 2) := by decide +kernel
theorem dX11_init_904 : decode cX11_init 904 = .ok (.newarray .int, 2) := by decide +kernel
theorem dX11_init_906 : decode cX11_init 906 = .ok (.putfield 120, 3) := by decide +kernel
theorem dX11_init_909 : decode cX11_init 909 = .ok (.iconst 0, 1) := by decide +kernel
theorem dX11_init_910 : decode cX11_init 910 = .ok (.istore_n 1, 1) := by decide +kernel
theorem dX11_init_911 : decode cX11_init 911 = .ok (.iload_n 1, 1) := by decide +kernel
theorem dX11_init_912 : decode cX11_init 912 = .ok (.iconst 4, 1) := by decide +kernel
theorem dX11_init_913 : decode cX11_init 913 = .ok (.if_icmp .ge 16, 3) := by decide +kernel
theorem dX11_init_916 : decode cX11_init 916 = .ok (.aload_n 0, 1) := by decide +kernel
theorem dX11_init_917 : decode cX11_init 917 = .ok (.getfield 111, 3) := by decide +kernel
theorem dX11_init_920 : decode cX11_init 920 = .ok (.iload_n 1, 1) := by decide +kernel
theorem dX11_init_921 : decode cX11_init 921 = .ok (.iconst (-1), 1) := by decide +kernel
theorem dX11_init_922 : decode cX11_init 922 = .ok (.iastore, 1) := by decide +kernel
theorem dX11_init_923 : decode cX11_init 923 = .ok (.iinc 1 1, 3) := by decide +kernel
theorem dX11_init_926 : decode cX11_init 926 = .ok (.goto (-15), 3) := by decide +kernel
theorem dX11_init_929 : decode cX11_init 929 = .ok (.iconst 0, 1) := by decide +kernel
theorem dX11_init_930 : decode cX11_init 930 = .ok (.istore_n 1, 1) := by decide +kernel
theorem dX11_init_931 : decode cX11_init 931 = .ok (.iload_n 1, 1) := by decide +kernel
theorem dX11_init_932 : decode cX11_init 932 = .ok (.iconst 5, 1) := by decide +kernel
theorem dX11_init_933 : decode cX11_init 933 = .ok (.if_icmp .ge 17, 3) := by decide +kernel
theorem dX11_init_936 : decode cX11_init 936 = .ok (.aload_n 0, 1) := by decide +kernel
theorem dX11_init_937 : decode cX11_init 937 = .ok (.getfield 78, 3) := by decide +kernel
theorem dX11_init_940 : decode cX11_init 940 = .ok (.iload_n 1, 1) := by decide +kernel
theorem dX11_init_941 : decode cX11_init 941 = .ok (.bipush (-2), 2) := by decide +kernel
theorem dX11_init_943 : decode cX11_init 943 = .ok (.iastore, 1) := by decide +kernel
theorem dX11_init_944 : decode cX11_init 944 = .ok (.iinc 1 1, 3) := by decide +kernel
theorem dX11_init_947 : decode cX11_init 947 = .ok (.goto (-16), 3) := by decide +kernel
theorem dX11_init_950 : decode cX11_init 950 = .ok (.iconst 0, 1) := by decide +kernel
theorem dX11_init_951 : decode cX11_init 951 = .ok (.istore_n 1, 1) := by decide +kernel
theorem dX11_init_952 : decode cX11_init 952 = .ok (.iload_n 1, 1) := by decide +kernel
theorem dX11_init_953 : decode cX11_init 953 = .ok (.bipush 25, 2) := by decide +kernel
theorem dX11_init_955 : decode cX11_init 955 = .ok (.if_icmp .ge 16, 3) := by decide +kernel
theorem dX11_init_958 : decode cX11_init 958 = .ok (.aload_n 0, 1) := by decide +kernel
theorem dX11_init_959 : decode cX11_init 959 = .ok (.getfield 108, 3) := by decide +kernel
theorem dX11_init_962 : decode cX11_init 962 = .ok (.iload_n 1, 1) := by decide +kernel
theorem dX11_init_963 : decode cX11_init 963 = .ok (.iconst 5, 1) := by decide +kernel
theorem dX11_init_964 : decode cX11_init 964 = .ok (.iastore, 1) := by decide +kernel
theorem dX11_init_965 : decode cX11_init 965 = .ok (.iinc 1 1, 3) := by decide +kernel
theorem dX11_init_968 : decode cX11_init 968 = .ok (.goto (-16), 3) := by decide +kernel
theorem dX11_init_971 : decode cX11_init 971 = .ok (.return_, 1) := by decide +kernel
theorem dX11_sine_0 : decode cX11_sine 0 = .ok (.iload_n 1, 1) := by decide +kernel
theorem dX11_sine_1 : decode cX11_sine 1 = .ok (.sipush 180, 3) := by decide +kernel
theorem dX11_sine_4 : decode cX11_sine 4 = .ok (.if_icmp .gt 7, 3) := by decide +kernel
theorem dX11_sine_7 : decode cX11_sine 7 = .ok (.iload_n 1, 1) := by decide +kernel
theorem dX11_sine_8 : decode cX11_sine 8 = .ok (.goto 8, 3) := by decide +kernel
theorem dX11_sine_11 : decode cX11_sine 11 = .ok (.iload_n 1, 1) := by decide +kernel
theorem dX11_sine_12 : decode cX11_sine 12 = .ok (.sipush 180, 3) := by decide +kernel
theorem dX11_sine_15 : decode cX11_sine 15 = .ok (.isub, 1) := by decide +kernel
theorem dX11_sine_16 : decode cX11_sine 16 = .ok (.istore_n 2, 1) := by decide +kernel
theorem dX11_sine_17 : decode cX11_sine 17 = .ok (.aload_n 0, 1) := by decide +kernel
theorem dX11_sine_18 : decode cX11_sine 18 = .ok (.getfield 7, 3) := by decide +kernel
theorem dX11_sine_21 : decode cX11_sine 21 = .ok (.iload_n 2, 1) := by decide +kernel
theorem dX11_sine_22 : decode cX11_sine 22 = .ok (.bipush 90, 2) := by decide +kernel
theorem dX11_sine_24 : decode cX11_sine 24 = .ok (.if_icmp .gt 7, 3) := by decide +kernel
theorem dX11_sine_27 : decode cX11_sine 27 = .ok (.iload_n 2, 1) := by decide +kernel
theorem dX11_sine_28 : decode cX11_sine 28 = .ok (.goto 8, 3) := by decide +kernel
theorem dX11_sine_31 : decode cX11_sine 31 = .ok (.sipush 180, 3) := by decide +kernel
theorem dX11_sine_34 : decode cX11_sine 34 = .ok (.iload_n 2, 1) := by decide +kernel
theorem dX11_sine_35 : decode cX11_sine 35 = .ok (.isub, 1) := by decide +kernel
theorem dX11_sine_36 : decode cX11_sine 36 = .ok (.iaload, 1) := by decide +kernel
theorem dX11_sine_37 : decode cX11_sine 37 = .ok (.istore_n 3, 1) := by decide +kernel
theorem dX11_sine_38 : decode cX11_sine 38 = .ok (.iload_n 1, 1) := by decide +kernel
theorem dX11_sine_39 : decode cX11_sine 39 = .ok (.sipush 180, 3) := by decide +kernel
theorem dX11_sine_42 : decode cX11_sine 42 = .ok (.if_icmp .gt 7, 3) := by decide +kernel
theorem dX11_sine_45 : decode cX11_sine 45 = .ok (.iload_n 3, 1) := by decide +kernel
theorem dX11_sine_46 : decode cX11_sine 46 = .ok (.goto 5, 3) := by decide +kernel
theorem dX11_sine_49 : decode cX11_sine 49 = .ok (.iload_n 3, 1) := by decide +kernel
theorem dX11_sine_50 : decode cX11_sine 50 = .ok (.ineg, 1) := by decide +kernel
theorem dX11_sine_51 : decode cX11_sine 51 = .ok (.ireturn, 1) := by decide +kernel
theorem dX11_cosine_0 : decode cX11_cosine 0 = .ok (.aload_n 0, 1) := by decide +kernel
theorem dX11_cosine_1 : decode cX11_cosine 1 = .ok (.iload_n 1, 1) := by decide +kernel
theorem dX11_cosine_2 : decode cX11_cosine 2 = .ok (.sipush 270, 3) := by decide +kernel
theorem dX11_cosine_5 : decode cX11_cosine 5 = .ok (.if_icmp .ge 10, 3) := by decide +kernel
theorem dX11_cosine_8 : decode cX11_cosine 8 = .ok (.iload_n 1, 1) := by decide +kernel
theorem dX11_cosine_9 : decode cX11_cosine 9 = .ok (.bipush 90, 2) := by decide +kernel
theorem dX11_cosine_11 : decode cX11_cosine 11 = .ok (.iadd, 1) := by decide +kernel
theorem dX11_cosine_12 : decode cX11_cosine 12 = .ok (.goto 8, 3) := by decide +kernel
theorem dX11_cosine_15 : decode cX11_cosine 15 = .ok (.iload_n 1, 1) := by decide +kernel
theorem dX11_cosine_16 : decode cX11_cosine 16 = .ok (.sipush 270, 3) := by decide +kernel
theorem dX11_cosine_19 : decode cX11_cosine 19 = .ok (.isub, 1) := by decide +kernel
theorem dX11_cosine_20 : decode cX11_cosine 20 = .ok (.invokevirtual 123, 3) := by decide +kernel
theorem dX11_cosine_23 : decode cX11_cosine 23 = .ok (.ireturn, 1) := by decide +kernel
theorem dX11_table_0 : decode cX11_table 0 = .ok (.iload_n 1, 1) := by decide +kernel
theorem dX11_table_1 : decode cX11_table 1 = .ok (.i2l, 1) := by decide +kernel
theorem dX11_table_2 : decode cX11_table 2 = .ok (.lconst 0, 1) := by decide +kernel
theorem dX11_table_3 : decode cX11_table 3 = .ok (.lconst 1, 1) := by decide +kernel
theorem dX11_table_4 : decode cX11_table 4 = .ok (.invokestatic 127, 3) := by decide +kernel
theorem dX11_table_7 : decode cX11_table 7 = .ok (.ifCond .eq 15, 3) := by decide +kernel
theorem dX11_table_10 : decode cX11_table 10 = .ok (.iload_n 2, 1) := by decide +kernel
theorem dX11_table_11 : decode cX11_table 11 = .ok (.i2l, 1) := by decide +kernel
theorem dX11_table_12 : decode cX11_table 12 = .ok (.lconst 0, 1) := by decide +kernel
theorem dX11_table_13 : decode cX11_table 13 = .ok (.ldc2_w 131, 3) := by decide +kernel
theorem dX11_table_16 : decode cX11_table 16 = .ok (.invokestatic 127, 3) := by decide +kernel
theorem dX11_table_19 : decode cX11_table 19 = .ok (.ifCond .ne 7, 3) := by decide +kernel
theorem dX11_table_22 : decode cX11_table 22 = .ok (.sipush (-10001), 3) := by decide +kernel
theorem dX11_table_25 : decode cX11_table 25 = .ok (.ireturn, 1) := by decide +kernel
theorem dX11_table_26 : decode cX11_table 26 = .ok (.iload_n 1, 1) := by decide +kernel
theorem dX11_table_27 : decode cX11_table 27 = .ok (.ifCond .ne 11, 3) := by decide +kernel
theorem dX11_table_30 : decode cX11_table 30 = .ok (.aload_n 0, 1) := by decide +kernel
theorem dX11_table_31 : decode cX11_table 31 = .ok (.iload_n 2, 1) := by decide +kernel
theorem dX11_table_32 : decode cX11_table 32 = .ok (.invokevirtual 123, 3) := by decide +kernel
theorem dX11_table_35 : decode cX11_table 35 = .ok (.goto 8, 3) := by decide +kernel
theorem dX11_table_38 : decode cX11_table 38 = .ok (.aload_n 0, 1) := by decide +kernel
theorem dX11_table_39 : decode cX11_table 39 = .ok (.iload_n 2, 1) := by decide +kernel
theorem dX11_table_40 : decode cX11_table 40 = .ok (.invokevirtual 133, 3) := by decide +kernel
theorem dX11_table_43 : decode cX11_table 43 = .ok (.ireturn, 1) := by decide +kernel
theorem dX11_comes_0 : decode cX11_comes 0 = .ok (.iload_n 1, 1) := by decide +kernel
theorem dX11_comes_1 : decode cX11_comes 1 = .ok (.i2l, 1) := by decide +kernel
theorem dX11_comes_2 : decode cX11_comes 2 = .ok (.lconst 1, 1) := by decide +kernel
theorem dX11_comes_3 : decode cX11_comes 3 = .ok (.ldc2_w 136, 3) := by decide +kernel
theorem dX11_comes_6 : decode cX11_comes 6 = .ok (.invokestatic 127, 3) := by decide +kernel
theorem dX11_comes_9 : decode cX11_comes 9 = .ok (.ifCond .eq 40, 3) := by decide +kernel
theorem dX11_comes_12 : decode cX11_comes 12 = .ok (.iload_n 2, 1) := by decide +kernel
theorem dX11_comes_13 : decode cX11_comes 13 = .ok (.i2l, 1) := by decide +kernel
theorem dX11_comes_14 : decode cX11_comes 14 = .ok (.lconst 0, 1) := by decide +kernel
theorem dX11_comes_15 : decode cX11_comes 15 = .ok (.ldc2_w 138, 3) := by decide +kernel
theorem dX11_comes_18 : decode cX11_comes 18 = .ok (.invokestatic 127, 3) := by decide +kernel
theorem dX11_comes_21 : decode cX11_comes 21 = .ok (.ifCond .eq 28, 3) := by decide +kernel
theorem dX11_comes_24 : decode cX11_comes 24 = .ok (.iload_n 3, 1) := by decide +kernel
theorem dX11_comes_25 : decode cX11_comes 25 = .ok (.i2l, 1) := by decide +kernel
theorem dX11_comes_26 : decode cX11_comes 26 = .ok (.lconst 1, 1) := by decide +kernel
theorem dX11_comes_27 : decode cX11_comes 27 = .ok (.ldc2_w 140, 3) := by decide +kernel
theorem dX11_comes_30 : decode cX11_comes 30 = .ok (.invokestatic 127, 3) := by decide +kernel
theorem dX11_comes_33 : decode cX11_comes 33 = .ok (.ifCond .eq 16, 3) := by decide +kernel
theorem dX11_comes_36 : decode cX11_comes 36 = .ok (.iload 4, 2) := by decide +kernel
theorem dX11_comes_38 : decode cX11_comes 38 = .ok (.i2l, 1) := by decide +kernel
theorem dX11_comes_39 : decode cX11_comes 39 = .ok (.lconst 0, 1) := by decide +kernel
theorem dX11_comes_40 : decode cX11_comes 40 = .ok (.ldc2_w 142, 3) := by decide +kernel
theorem dX11_comes_43 : decode cX11_comes 43 = .ok (.invokestatic 127, 3) := by decide +kernel
theorem dX11_comes_46 : decode cX11_comes 46 = .ok (.ifCond .ne 5, 3) := by decide +kernel
theorem dX11_comes_49 : decode cX11_comes 49 = .ok (.iconst (-1), 1) := by decide +kernel
theorem dX11_comes_50 : decode cX11_comes 50 = .ok (.ireturn, 1) := by decide +kernel
theorem dX11_comes_51 : decode cX11_comes 51 = .ok (.aload_n 0, 1) := by decide +kernel
theorem dX11_comes_52 : decode cX11_comes 52 = .ok (.getfield 144, 3) := by decide +kernel
theorem dX11_comes_55 : decode cX11_comes 55 = .ok (.bipush 9, 2) := by decide +kernel
theorem dX11_comes_57 : decode cX11_comes 57 = .ok (.if_icmp .ne 6, 3) := by decide +kernel
theorem dX11_comes_60 : decode cX11_comes 60 = .ok (.bipush (-3), 2) := by decide +kernel
theorem dX11_comes_62 : decode cX11_comes 62 = .ok (.ireturn, 1) := by decide +kernel
theorem dX11_comes_63 : decode cX11_comes 63 = .ok (.aload_n 0, 1) := by decide +kernel
theorem dX11_comes_64 : decode cX11_comes 64 = .ok (.getfield 16, 3) := by decide +kernel
theorem dX11_comes_67 : decode cX11_comes 67 = .ok (.aload_n 0, 1) := by decide +kernel
theorem dX11_comes_68 : decode cX11_comes 68 = .ok (.getfield 144, 3) := by decide +kernel
theorem dX11_comes_71 : decode cX11_comes 71 = .ok (.iload_n 1, 1) := by decide +kernel
theorem dX11_comes_72 : decode cX11_comes 72 = .ok (.iastore, 1) := by decide +kernel
theorem dX11_comes_73 : decode cX11_comes 73 = .ok (.aload_n 0, 1) := by decide +kernel
theorem dX11_comes_74 : decode cX11_comes 74 = .ok (.getfield 19, 3) := by decide +kernel
theorem dX11_comes_77 : decode cX11_comes 77 = .ok (.aload_n 0, 1) := by decide +kernel
theorem dX11_comes_78 : decode cX11_comes 78 = .ok (.getfield 144, 3) := by decide +kernel
theorem dX11_comes_81 : decode cX11_comes 81 = .ok (.iload_n 2, 1) := by decide +kernel
theorem dX11_comes_82 : decode cX11_comes 82 = .ok (.iastore, 1) := by decide +kernel
theorem dX11_comes_83 : decode cX11_comes 83 = .ok (.aload_n 0, 1) := by decide +kernel
theorem dX11_comes_84 : decode cX11_comes 84 = .ok (.getfield 22, 3) := by decide +kernel
theorem dX11_comes_87 : decode cX11_comes 87 = .ok (.aload_n 0, 1) := by decide +kernel
theorem dX11_comes_88 : decode cX11_comes 88 = .ok (.getfield 144, 3) := by decide +kernel
theorem dX11_comes_91 : decode cX11_comes 91 = .ok (.iload_n 3, 1) := by decide +kernel
theorem dX11_comes_92 : decode cX11_comes 92 = .ok (.iastore, 1) := by decide +kernel
theorem dX11_comes_93 : decode cX11_comes 93 = .ok (.aload_n 0, 1) := by decide +kernel
theorem dX11_comes_94 : decode cX11_comes 94 = .ok (.getfield 25, 3) := by decide +kernel
theorem dX11_comes_97 : decode cX11_comes 97 = .ok (.aload_n 0, 1) := by decide +kernel
theorem dX11_comes_98 : decode cX11_comes 98 = .ok (.getfield 144, 3) := by decide +kernel
theorem dX11_comes_101 : decode cX11_comes 101 = .ok (.iload 4, 2) := by decide +kernel
theorem dX11_comes_103 : decode cX11_comes 103 = .ok (.iastore, 1) := by decide +kernel
theorem dX11_comes_104 : decode cX11_comes 104 = .ok (.aload_n 0, 1) := by decide +kernel
theorem dX11_comes_105 : decode cX11_comes 105 = .ok (.getfield 13, 3) := by decide +kernel
theorem dX11_comes_108 : decode cX11_comes 108 = .ok (.aload_n 0, 1) := by decide +kernel
theorem dX11_comes_109 : decode cX11_comes 109 = .ok (.getfield 144, 3) := by decide +kernel
theorem dX11_comes_112 : decode cX11_comes 112 = .ok (.iload 5, 2) := by decide +kernel
theorem dX11_comes_114 : decode cX11_comes 114 = .ok (.iastore, 1) := by decide +kernel
theorem dX11_comes_115 : decode cX11_comes 115 = .ok (.aload_n 0, 1) := by decide +kernel
theorem dX11_comes_116 : decode cX11_comes 116 = .ok (.dup, 1) := by decide +kernel
theorem dX11_comes_117 : decode cX11_comes 117 = .ok (.getfield 144, 3) := by decide +kernel
theorem dX11_comes_120 : decode cX11_comes 120 = .ok (.iconst 1, 1) := by decide +kernel
theorem dX11_comes_121 : decode cX11_comes 121 = .ok (.iadd, 1) := by decide +kernel
theorem dX11_comes_122 : decode cX11_comes 122 = .ok (.putfield 144, 3) := by decide +kernel
theorem dX11_comes_125 : decode cX11_comes 125 = .ok (.aload_n 0, 1) := by decide +kernel
theorem dX11_comes_126 : decode cX11_comes 126 = .ok (.getfield 144, 3) := by decide +kernel
theorem dX11_comes_129 : decode cX11_comes 129 = .ok (.iconst 1, 1) := by decide +kernel
theorem dX11_comes_130 : decode cX11_comes 130 = .ok (.isub, 1) := by decide +kernel
theorem dX11_comes_131 : decode cX11_comes 131 = .ok (.ireturn, 1) := by decide +kernel
theorem dX11_plain_0 : decode cX11_plain 0 = .ok (.aload_n 0, 1) := by decide +kernel
theorem dX11_plain_1 : decode cX11_plain 1 = .ok (.iload_n 1, 1) := by decide +kernel
theorem dX11_plain_2 : decode cX11_plain 2 = .ok (.iload_n 2, 1) := by decide +kernel
theorem dX11_plain_3 : decode cX11_plain 3 = .ok (.iload_n 3, 1) := by decide +kernel
theorem dX11_plain_4 : decode cX11_plain 4 = .ok (.iload 4, 2) := by decide +kernel
theorem dX11_plain_6 : decode cX11_plain 6 = .ok (.iconst 0, 1) := by decide +kernel
theorem dX11_plain_7 : decode cX11_plain 7 = .ok (.invokevirtual 147, 3) := by decide +kernel
theorem dX11_plain_10 : decode cX11_plain 10 = .ok (.ireturn, 1) := by decide +kernel
theorem dX11_winged_0 : decode cX11_winged 0 = .ok (.iload 5, 2) := by decide +kernel
theorem dX11_winged_2 : decode cX11_winged 2 = .ok (.i2l, 1) := by decide +kernel
theorem dX11_winged_3 : decode cX11_winged 3 = .ok (.lconst 1, 1) := by decide +kernel
theorem dX11_winged_4 : decode cX11_winged 4 = .ok (.ldc2_w 151, 3) := by decide +kernel
theorem dX11_winged_7 : decode cX11_winged 7 = .ok (.invokestatic 127, 3) := by decide +kernel
theorem dX11_winged_10 : decode cX11_winged 10 = .ok (.ifCond .eq 17, 3) := by decide +kernel
theorem dX11_winged_13 : decode cX11_winged 13 = .ok (.aload_n 0, 1) := by decide +kernel
theorem dX11_winged_14 : decode cX11_winged 14 = .ok (.iload_n 1, 1) := by decide +kernel
theorem dX11_winged_15 : decode cX11_winged 15 = .ok (.iload_n 2, 1) := by decide +kernel
theorem dX11_winged_16 : decode cX11_winged 16 = .ok (.iload_n 3, 1) := by decide +kernel
theorem dX11_winged_17 : decode cX11_winged 17 = .ok (.iload 4, 2) := by decide +kernel
theorem dX11_winged_19 : decode cX11_winged 19 = .ok (.iload 5, 2) := by decide +kernel
theorem dX11_winged_21 : decode cX11_winged 21 = .ok (.invokevirtual 147, 3) := by decide +kernel
theorem dX11_winged_24 : decode cX11_winged 24 = .ok (.goto 4, 3) := by decide +kernel
theorem dX11_winged_27 : decode cX11_winged 27 = .ok (.iconst (-1), 1) := by decide +kernel
theorem dX11_winged_28 : decode cX11_winged 28 = .ok (.ireturn, 1) := by decide +kernel
theorem dX11_isStick_0 : decode cX11_isStick 0 = .ok (.iload_n 1, 1) := by decide +kernel
theorem dX11_isStick_1 : decode cX11_isStick 1 = .ok (.i2l, 1) := by decide +kernel
theorem dX11_isStick_2 : decode cX11_isStick 2 = .ok (.lconst 0, 1) := by decide +kernel
theorem dX11_isStick_3 : decode cX11_isStick 3 = .ok (.aload_n 0, 1) := by decide +kernel
theorem dX11_isStick_4 : decode cX11_isStick 4 = .ok (.getfield 144, 3) := by decide +kernel
theorem dX11_isStick_7 : decode cX11_isStick 7 = .ok (.iconst 1, 1) := by decide +kernel
theorem dX11_isStick_8 : decode cX11_isStick 8 = .ok (.isub, 1) := by decide +kernel
theorem dX11_isStick_9 : decode cX11_isStick 9 = .ok (.i2l, 1) := by decide +kernel
theorem dX11_isStick_10 : decode cX11_isStick 10 = .ok (.invokestatic 127, 3) := by decide +kernel
theorem dX11_isStick_13 : decode cX11_isStick 13 = .ok (.ireturn, 1) := by decide +kernel
theorem dX11_lift_0 : decode cX11_lift 0 = .ok (.aload_n 0, 1) := by decide +kernel
theorem dX11_lift_1 : decode cX11_lift 1 = .ok (.iload_n 1, 1) := by decide +kernel
theorem dX11_lift_2 : decode cX11_lift 2 = .ok (.invokevirtual 153, 3) := by decide +kernel
theorem dX11_lift_5 : decode cX11_lift 5 = .ok (.ifCond .eq 27, 3) := by decide +kernel
theorem dX11_lift_8 : decode cX11_lift 8 = .ok (.iload_n 2, 1) := by decide +kernel
theorem dX11_lift_9 : decode cX11_lift 9 = .ok (.i2l, 1) := by decide +kernel
theorem dX11_lift_10 : decode cX11_lift 10 = .ok (.lconst 0, 1) := by decide +kernel
theorem dX11_lift_11 : decode cX11_lift 11 = .ok (.ldc2_w 157, 3) := by decide +kernel
theorem dX11_lift_14 : decode cX11_lift 14 = .ok (.invokestatic 127, 3) := by decide +kernel
theorem dX11_lift_17 : decode cX11_lift 17 = .ok (.ifCond .eq 15, 3) := by decide +kernel
theorem dX11_lift_20 : decode cX11_lift 20 = .ok (.iload_n 3, 1) := by decide +kernel
theorem dX11_lift_21 : decode cX11_lift 21 = .ok (.i2l, 1) := by decide +kernel
theorem dX11_lift_22 : decode cX11_lift 22 = .ok (.lconst 0, 1) := by decide +kernel
theorem dX11_lift_23 : decode cX11_lift 23 = .ok (.ldc2_w 159, 3) := by decide +kernel
theorem dX11_lift_26 : decode cX11_lift 26 = .ok (.invokestatic 127, 3) := by decide +kernel
theorem dX11_lift_29 : decode cX11_lift 29 = .ok (.ifCond .ne 5, 3) := by decide +kernel
theorem dX11_lift_32 : decode cX11_lift 32 = .ok (.iconst (-1), 1) := by decide +kernel
theorem dX11_lift_33 : decode cX11_lift 33 = .ok (.ireturn, 1) := by decide +kernel
theorem dX11_lift_34 : decode cX11_lift 34 = .ok (.aload_n 0, 1) := by decide +kernel
theorem dX11_lift_35 : decode cX11_lift 35 = .ok (.getfield 31, 3) := by decide +kernel
theorem dX11_lift_38 : decode cX11_lift 38 = .ok (.iconst 4, 1) := by decide +kernel
theorem dX11_lift_39 : decode cX11_lift 39 = .ok (.iload_n 1, 1) := by decide +kernel
theorem dX11_lift_40 : decode cX11_lift 40 = .ok (.imul, 1) := by decide +kernel
theorem dX11_lift_41 : decode cX11_lift 41 = .ok (.iload_n 2, 1) := by decide +kernel
theorem dX11_lift_42 : decode cX11_lift 42 = .ok (.iadd, 1) := by decide +kernel
theorem dX11_lift_43 : decode cX11_lift 43 = .ok (.iaload, 1) := by decide +kernel
theorem dX11_lift_44 : decode cX11_lift 44 = .ok (.istore 4, 2) := by decide +kernel
theorem dX11_lift_46 : decode cX11_lift 46 = .ok (.aload_n 0, 1) := by decide +kernel
theorem dX11_lift_47 : decode cX11_lift 47 = .ok (.getfield 31, 3) := by decide +kernel
theorem dX11_lift_50 : decode cX11_lift 50 = .ok (.iconst 4, 1) := by decide +kernel
theorem dX11_lift_51 : decode cX11_lift 51 = .ok (.iload_n 1, 1) := by decide +kernel
theorem dX11_lift_52 : decode cX11_lift 52 = .ok (.imul, 1) := by decide +kernel
theorem dX11_lift_53 : decode cX11_lift 53 = .ok (.iload_n 2, 1) := by decide +kernel
theorem dX11_lift_54 : decode cX11_lift 54 = .ok (.iadd, 1) := by decide +kernel
theorem dX11_lift_55 : decode cX11_lift 55 = .ok (.iload_n 3, 1) := by decide +kernel
theorem dX11_lift_56 : decode cX11_lift 56 = .ok (.iastore, 1) := by decide +kernel
theorem dX11_lift_57 : decode cX11_lift 57 = .ok (.iload 4, 2) := by decide +kernel
theorem dX11_lift_59 : decode cX11_lift 59 = .ok (.ireturn, 1) := by decide +kernel
theorem dX11_bend_0 : decode cX11_bend 0 = .ok (.aload_n 0, 1) := by decide +kernel
theorem dX11_bend_1 : decode cX11_bend 1 = .ok (.iload_n 1, 1) := by decide +kernel
theorem dX11_bend_2 : decode cX11_bend 2 = .ok (.invokevirtual 153, 3) := by decide +kernel
theorem dX11_bend_5 : decode cX11_bend 5 = .ok (.ifCond .eq 17, 3) := by decide +kernel
theorem dX11_bend_8 : decode cX11_bend 8 = .ok (.iload_n 2, 1) := by decide +kernel
theorem dX11_bend_9 : decode cX11_bend 9 = .ok (.i2l, 1) := by decide +kernel
theorem dX11_bend_10 : decode cX11_bend 10 = .ok (.ldc2_w 161, 3) := by decide +kernel
theorem dX11_bend_13 : decode cX11_bend 13 = .ok (.ldc2_w 163, 3) := by decide +kernel
theorem dX11_bend_16 : decode cX11_bend 16 = .ok (.invokestatic 127, 3) := by decide +kernel
theorem dX11_bend_19 : decode cX11_bend 19 = .ok (.ifCond .ne 6, 3) := by decide +kernel
theorem dX11_bend_22 : decode cX11_bend 22 = .ok (.bipush (-11), 2) := by decide +kernel
theorem dX11_bend_24 : decode cX11_bend 24 = .ok (.ireturn, 1) := by decide +kernel
theorem dX11_bend_25 : decode cX11_bend 25 = .ok (.aload_n 0, 1) := by decide +kernel
theorem dX11_bend_26 : decode cX11_bend 26 = .ok (.getfield 28, 3) := by decide +kernel
theorem dX11_bend_29 : decode cX11_bend 29 = .ok (.iload_n 1, 1) := by decide +kernel
theorem dX11_bend_30 : decode cX11_bend 30 = .ok (.iaload, 1) := by decide +kernel
theorem dX11_bend_31 : decode cX11_bend 31 = .ok (.istore_n 3, 1) := by decide +kernel
theorem dX11_bend_32 : decode cX11_bend 32 = .ok (.aload_n 0, 1) := by decide +kernel
theorem dX11_bend_33 : decode cX11_bend 33 = .ok (.getfield 28, 3) := by decide +kernel
theorem dX11_bend_36 : decode cX11_bend 36 = .ok (.iload_n 1, 1) := by decide +kernel
theorem dX11_bend_37 : decode cX11_bend 37 = .ok (.iload_n 2, 1) := by decide +kernel
theorem dX11_bend_38 : decode cX11_bend 38 = .ok (.iastore, 1) := by decide +kernel
theorem dX11_bend_39 : decode cX11_bend 39 = .ok (.iload_n 3, 1) := by decide +kernel
theorem dX11_bend_40 : decode cX11_bend 40 = .ok (.ireturn, 1) := by decide +kernel
theorem dX11_told_0 : decode cX11_told 0 = .ok (.aload_n 0, 1) := by decide +kernel
theorem dX11_told_1 : decode cX11_told 1 = .ok (.iload_n 1, 1) := by decide +kernel
theorem dX11_told_2 : decode cX11_told 2 = .ok (.invokevirtual 153, 3) := by decide +kernel
theorem dX11_told_5 : decode cX11_told 5 = .ok (.ifCond .ne 5, 3) := by decide +kernel
theorem dX11_told_8 : decode cX11_told 8 = .ok (.iconst (-1), 1) := by decide +kernel
theorem dX11_told_9 : decode cX11_told 9 = .ok (.ireturn, 1) := by decide +kernel
theorem dX11_told_10 : decode cX11_told 10 = .ok (.iload_n 2, 1) := by decide +kernel
theorem dX11_told_11 : decode cX11_told 11 = .ok (.tableswitch 120 0 6 #[41, 56, 63, 70, 77, 84, 105], 41) := by decide +kernel
theorem dX11_told_52 : decode cX11_told 52 = .ok (.aload_n 0, 1) := by decide +kernel
theorem dX11_told_53 : decode cX11_told 53 = .ok (.getfield 13, 3) := by decide +kernel
theorem dX11_told_56 : decode cX11_told 56 = .ok (.iload_n 1, 1) := by decide +kernel
theorem dX11_told_57 : decode cX11_told 57 = .ok (.iaload, 1) := by decide +kernel
theorem dX11_told_58 : decode cX11_told 58 = .ok (.ifCond .le 7, 3) := by decide +kernel
theorem dX11_told_61 : decode cX11_told 61 = .ok (.iconst 1, 1) := by decide +kernel
theorem dX11_told_62 : decode cX11_told 62 = .ok (.goto 4, 3) := by decide +kernel
theorem dX11_told_65 : decode cX11_told 65 = .ok (.iconst 0, 1) := by decide +kernel
theorem dX11_told_66 : decode cX11_told 66 = .ok (.ireturn, 1) := by decide +kernel
theorem dX11_told_67 : decode cX11_told 67 = .ok (.aload_n 0, 1) := by decide +kernel
theorem dX11_told_68 : decode cX11_told 68 = .ok (.getfield 16, 3) := by decide +kernel
theorem dX11_told_71 : decode cX11_told 71 = .ok (.iload_n 1, 1) := by decide +kernel
theorem dX11_told_72 : decode cX11_told 72 = .ok (.iaload, 1) := by decide +kernel
theorem dX11_told_73 : decode cX11_told 73 = .ok (.ireturn, 1) := by decide +kernel
theorem dX11_told_74 : decode cX11_told 74 = .ok (.aload_n 0, 1) := by decide +kernel
theorem dX11_told_75 : decode cX11_told 75 = .ok (.getfield 19, 3) := by decide +kernel
theorem dX11_told_78 : decode cX11_told 78 = .ok (.iload_n 1, 1) := by decide +kernel
theorem dX11_told_79 : decode cX11_told 79 = .ok (.iaload, 1) := by decide +kernel
theorem dX11_told_80 : decode cX11_told 80 = .ok (.ireturn, 1) := by decide +kernel
theorem dX11_told_81 : decode cX11_told 81 = .ok (.aload_n 0, 1) := by decide +kernel
theorem dX11_told_82 : decode cX11_told 82 = .ok (.getfield 22, 3) := by decide +kernel
theorem dX11_told_85 : decode cX11_told 85 = .ok (.iload_n 1, 1) := by decide +kernel
theorem dX11_told_86 : decode cX11_told 86 = .ok (.iaload, 1) := by decide +kernel
theorem dX11_told_87 : decode cX11_told 87 = .ok (.ireturn, 1) := by decide +kernel
theorem dX11_told_88 : decode cX11_told 88 = .ok (.aload_n 0, 1) := by decide +kernel
theorem dX11_told_89 : decode cX11_told 89 = .ok (.getfield 25, 3) := by decide +kernel
theorem dX11_told_92 : decode cX11_told 92 = .ok (.iload_n 1, 1) := by decide +kernel
theorem dX11_told_93 : decode cX11_told 93 = .ok (.iaload, 1) := by decide +kernel
theorem dX11_told_94 : decode cX11_told 94 = .ok (.ireturn, 1) := by decide +kernel
theorem dX11_told_95 : decode cX11_told 95 = .ok (.aload_n 0, 1) := by decide +kernel
theorem dX11_told_96 : decode cX11_told 96 = .ok (.getfield 13, 3) := by decide +kernel
theorem dX11_told_99 : decode cX11_told 99 = .ok (.iload_n 1, 1) := by decide +kernel
theorem dX11_told_100 : decode cX11_told 100 = .ok (.iaload, 1) := by decide +kernel
theorem dX11_told_101 : decode cX11_told 101 = .ok (.ifCond .le 12, 3) := by decide +kernel
theorem dX11_told_104 : decode cX11_told 104 = .ok (.aload_n 0, 1) := by decide +kernel
theorem dX11_told_105 : decode cX11_told 105 = .ok (.getfield 13, 3) := by decide +kernel
theorem dX11_told_108 : decode cX11_told 108 = .ok (.iload_n 1, 1) := by decide +kernel
theorem dX11_told_109 : decode cX11_told 109 = .ok (.iaload, 1) := by decide +kernel
theorem dX11_told_110 : decode cX11_told 110 = .ok (.goto 5, 3) := by decide +kernel
theorem dX11_told_113 : decode cX11_told 113 = .ok (.bipush (-4), 2) := by decide +kernel
theorem dX11_told_115 : decode cX11_told 115 = .ok (.ireturn, 1) := by decide +kernel
theorem dX11_told_116 : decode cX11_told 116 = .ok (.aload_n 0, 1) := by decide +kernel
theorem dX11_told_117 : decode cX11_told 117 = .ok (.getfield 34, 3) := by decide +kernel
theorem dX11_told_120 : decode cX11_told 120 = .ok (.iload_n 1, 1) := by decide +kernel
theorem dX11_told_121 : decode cX11_told 121 = .ok (.baload, 1) := by decide +kernel
theorem dX11_told_122 : decode cX11_told 122 = .ok (.ifCond .eq 7, 3) := by decide +kernel
theorem dX11_told_125 : decode cX11_told 125 = .ok (.iconst 0, 1) := by decide +kernel
theorem dX11_told_126 : decode cX11_told 126 = .ok (.goto 4, 3) := by decide +kernel
theorem dX11_told_129 : decode cX11_told 129 = .ok (.iconst 1, 1) := by decide +kernel
theorem dX11_told_130 : decode cX11_told 130 = .ok (.ireturn, 1) := by decide +kernel
theorem dX11_told_131 : decode cX11_told 131 = .ok (.iconst (-1), 1) := by decide +kernel
theorem dX11_told_132 : decode cX11_told 132 = .ok (.ireturn, 1) := by decide +kernel
theorem dX11_lose_0 : decode cX11_lose 0 = .ok (.aload_n 0, 1) := by decide +kernel
theorem dX11_lose_1 : decode cX11_lose 1 = .ok (.iload_n 1, 1) := by decide +kernel
theorem dX11_lose_2 : decode cX11_lose 2 = .ok (.invokevirtual 153, 3) := by decide +kernel
theorem dX11_lose_5 : decode cX11_lose 5 = .ok (.ifCond .ne 5, 3) := by decide +kernel
theorem dX11_lose_8 : decode cX11_lose 8 = .ok (.iconst (-1), 1) := by decide +kernel
theorem dX11_lose_9 : decode cX11_lose 9 = .ok (.ireturn, 1) := by decide +kernel
theorem dX11_lose_10 : decode cX11_lose 10 = .ok (.aload_n 0, 1) := by decide +kernel
theorem dX11_lose_11 : decode cX11_lose 11 = .ok (.getfield 34, 3) := by decide +kernel
theorem dX11_lose_14 : decode cX11_lose 14 = .ok (.iload_n 1, 1) := by decide +kernel
theorem dX11_lose_15 : decode cX11_lose 15 = .ok (.baload, 1) := by decide +kernel
theorem dX11_lose_16 : decode cX11_lose 16 = .ok (.istore_n 3, 1) := by decide +kernel
theorem dX11_lose_17 : decode cX11_lose 17 = .ok (.aload_n 0, 1) := by decide +kernel
theorem dX11_lose_18 : decode cX11_lose 18 = .ok (.getfield 34, 3) := by decide +kernel
theorem dX11_lose_21 : decode cX11_lose 21 = .ok (.iload_n 1, 1) := by decide +kernel
theorem dX11_lose_22 : decode cX11_lose 22 = .ok (.iload_n 2, 1) := by decide +kernel
theorem dX11_lose_23 : decode cX11_lose 23 = .ok (.bastore, 1) := by decide +kernel
theorem dX11_lose_24 : decode cX11_lose 24 = .ok (.iload_n 3, 1) := by decide +kernel
theorem dX11_lose_25 : decode cX11_lose 25 = .ok (.ifCond .eq 7, 3) := by decide +kernel
theorem dX11_lose_28 : decode cX11_lose 28 = .ok (.iconst 0, 1) := by decide +kernel
theorem dX11_lose_29 : decode cX11_lose 29 = .ok (.goto 4, 3) := by decide +kernel
theorem dX11_lose_32 : decode cX11_lose 32 = .ok (.iconst 1, 1) := by decide +kernel
theorem dX11_lose_33 : decode cX11_lose 33 = .ok (.ireturn, 1) := by decide +kernel
theorem dX11_wind_0 : decode cX11_wind 0 = .ok (.aload_n 0, 1) := by decide +kernel
theorem dX11_wind_1 : decode cX11_wind 1 = .ok (.getfield 165, 3) := by decide +kernel
theorem dX11_wind_4 : decode cX11_wind 4 = .ok (.bipush 8, 2) := by decide +kernel
theorem dX11_wind_6 : decode cX11_wind 6 = .ok (.if_icmp .ne 6, 3) := by decide +kernel
theorem dX11_wind_9 : decode cX11_wind 9 = .ok (.bipush (-3), 2) := by decide +kernel
theorem dX11_wind_11 : decode cX11_wind 11 = .ok (.ireturn, 1) := by decide +kernel
theorem dX11_wind_12 : decode cX11_wind 12 = .ok (.aload_n 0, 1) := by decide +kernel
theorem dX11_wind_13 : decode cX11_wind 13 = .ok (.dup, 1) := by decide +kernel
theorem dX11_wind_14 : decode cX11_wind 14 = .ok (.getfield 165, 3) := by decide +kernel
theorem dX11_wind_17 : decode cX11_wind 17 = .ok (.iconst 1, 1) := by decide +kernel
theorem dX11_wind_18 : decode cX11_wind 18 = .ok (.iadd, 1) := by decide +kernel
theorem dX11_wind_19 : decode cX11_wind 19 = .ok (.putfield 165, 3) := by decide +kernel
theorem dX11_wind_22 : decode cX11_wind 22 = .ok (.aload_n 0, 1) := by decide +kernel
theorem dX11_wind_23 : decode cX11_wind 23 = .ok (.getfield 165, 3) := by decide +kernel
theorem dX11_wind_26 : decode cX11_wind 26 = .ok (.iconst 1, 1) := by decide +kernel
theorem dX11_wind_27 : decode cX11_wind 27 = .ok (.isub, 1) := by decide +kernel
theorem dX11_wind_28 : decode cX11_wind 28 = .ok (.ireturn, 1) := by decide +kernel
theorem dX11_isWind_0 : decode cX11_isWind 0 = .ok (.iload_n 1, 1) := by decide +kernel
theorem dX11_isWind_1 : decode cX11_isWind 1 = .ok (.i2l, 1) := by decide +kernel
theorem dX11_isWind_2 : decode cX11_isWind 2 = .ok (.ldc2_w 168, 3) := by decide +kernel
theorem dX11_isWind_5 : decode cX11_isWind 5 = .ok (.aload_n 0, 1) := by decide +kernel
theorem dX11_isWind_6 : decode cX11_isWind 6 = .ok (.getfield 165, 3) := by decide +kernel
theorem dX11_isWind_9 : decode cX11_isWind 9 = .ok (.iconst 1, 1) := by decide +kernel
theorem dX11_isWind_10 : decode cX11_isWind 10 = .ok (.isub, 1) := by decide +kernel
theorem dX11_isWind_11 : decode cX11_isWind 11 = .ok (.i2l, 1) := by decide +kernel
theorem dX11_isWind_12 : decode cX11_isWind 12 = .ok (.invokestatic 127, 3) := by decide +kernel
theorem dX11_isWind_15 : decode cX11_isWind 15 = .ok (.ireturn, 1) := by decide +kernel
theorem dX11_blows_0 : decode cX11_blows 0 = .ok (.iload_n 1, 1) := by decide +kernel
theorem dX11_blows_1 : decode cX11_blows 1 = .ok (.i2l, 1) := by decide +kernel
theorem dX11_blows_2 : decode cX11_blows 2 = .ok (.lconst 0, 1) := by decide +kernel
theorem dX11_blows_3 : decode cX11_blows 3 = .ok (.aload_n 0, 1) := by decide +kernel
theorem dX11_blows_4 : decode cX11_blows 4 = .ok (.getfield 165, 3) := by decide +kernel
theorem dX11_blows_7 : decode cX11_blows 7 = .ok (.iconst 1, 1) := by decide +kernel
theorem dX11_blows_8 : decode cX11_blows 8 = .ok (.isub, 1) := by decide +kernel
theorem dX11_blows_9 : decode cX11_blows 9 = .ok (.i2l, 1) := by decide +kernel
theorem dX11_blows_10 : decode cX11_blows 10 = .ok (.invokestatic 127, 3) := by decide +kernel
theorem dX11_blows_13 : decode cX11_blows 13 = .ok (.ifCond .eq 40, 3) := by decide +kernel
theorem dX11_blows_16 : decode cX11_blows 16 = .ok (.iload_n 2, 1) := by decide +kernel
theorem dX11_blows_17 : decode cX11_blows 17 = .ok (.i2l, 1) := by decide +kernel
theorem dX11_blows_18 : decode cX11_blows 18 = .ok (.lconst 0, 1) := by decide +kernel
theorem dX11_blows_19 : decode cX11_blows 19 = .ok (.ldc2_w 157, 3) := by decide +kernel
theorem dX11_blows_22 : decode cX11_blows 22 = .ok (.invokestatic 127, 3) := by decide +kernel
theorem dX11_blows_25 : decode cX11_blows 25 = .ok (.ifCond .eq 28, 3) := by decide +kernel
theorem dX11_blows_28 : decode cX11_blows 28 = .ok (.iload_n 3, 1) := by decide +kernel
theorem dX11_blows_29 : decode cX11_blows 29 = .ok (.i2l, 1) := by decide +kernel
theorem dX11_blows_30 : decode cX11_blows 30 = .ok (.lconst 0, 1) := by decide +kernel
theorem dX11_blows_31 : decode cX11_blows 31 = .ok (.ldc2_w 138, 3) := by decide +kernel
theorem dX11_blows_34 : decode cX11_blows 34 = .ok (.invokestatic 127, 3) := by decide +kernel
theorem dX11_blows_37 : decode cX11_blows 37 = .ok (.ifCond .eq 16, 3) := by decide +kernel
theorem dX11_blows_40 : decode cX11_blows 40 = .ok (.iload 4, 2) := by decide +kernel
theorem dX11_blows_42 : decode cX11_blows 42 = .ok (.i2l, 1) := by decide +kernel
theorem dX11_blows_43 : decode cX11_blows 43 = .ok (.lconst 0, 1) := by decide +kernel
theorem dX11_blows_44 : decode cX11_blows 44 = .ok (.ldc2_w 131, 3) := by decide +kernel
theorem dX11_blows_47 : decode cX11_blows 47 = .ok (.invokestatic 127, 3) := by decide +kernel
theorem dX11_blows_50 : decode cX11_blows 50 = .ok (.ifCond .ne 5, 3) := by decide +kernel
theorem dX11_blows_53 : decode cX11_blows 53 = .ok (.iconst (-1), 1) := by decide +kernel
theorem dX11_blows_54 : decode cX11_blows 54 = .ok (.ireturn, 1) := by decide +kernel
theorem dX11_blows_55 : decode cX11_blows 55 = .ok (.aload_n 0, 1) := by decide +kernel
theorem dX11_blows_56 : decode cX11_blows 56 = .ok (.getfield 38, 3) := by decide +kernel
theorem dX11_blows_59 : decode cX11_blows 59 = .ok (.iconst 4, 1) := by decide +kernel
theorem dX11_blows_60 : decode cX11_blows 60 = .ok (.iload_n 1, 1) := by decide +kernel
theorem dX11_blows_61 : decode cX11_blows 61 = .ok (.imul, 1) := by decide +kernel
theorem dX11_blows_62 : decode cX11_blows 62 = .ok (.iload_n 2, 1) := by decide +kernel
theorem dX11_blows_63 : decode cX11_blows 63 = .ok (.iadd, 1) := by decide +kernel
theorem dX11_blows_64 : decode cX11_blows 64 = .ok (.iaload, 1) := by decide +kernel
theorem dX11_blows_65 : decode cX11_blows 65 = .ok (.istore 5, 2) := by decide +kernel
theorem dX11_blows_67 : decode cX11_blows 67 = .ok (.aload_n 0, 1) := by decide +kernel
theorem dX11_blows_68 : decode cX11_blows 68 = .ok (.getfield 38, 3) := by decide +kernel
theorem dX11_blows_71 : decode cX11_blows 71 = .ok (.iconst 4, 1) := by decide +kernel
theorem dX11_blows_72 : decode cX11_blows 72 = .ok (.iload_n 1, 1) := by decide +kernel
theorem dX11_blows_73 : decode cX11_blows 73 = .ok (.imul, 1) := by decide +kernel
theorem dX11_blows_74 : decode cX11_blows 74 = .ok (.iload_n 2, 1) := by decide +kernel
theorem dX11_blows_75 : decode cX11_blows 75 = .ok (.iadd, 1) := by decide +kernel
theorem dX11_blows_76 : decode cX11_blows 76 = .ok (.iload_n 3, 1) := by decide +kernel
theorem dX11_blows_77 : decode cX11_blows 77 = .ok (.iastore, 1) := by decide +kernel
theorem dX11_blows_78 : decode cX11_blows 78 = .ok (.aload_n 0, 1) := by decide +kernel
theorem dX11_blows_79 : decode cX11_blows 79 = .ok (.getfield 41, 3) := by decide +kernel
theorem dX11_blows_82 : decode cX11_blows 82 = .ok (.iconst 4, 1) := by decide +kernel
theorem dX11_blows_83 : decode cX11_blows 83 = .ok (.iload_n 1, 1) := by decide +kernel
theorem dX11_blows_84 : decode cX11_blows 84 = .ok (.imul, 1) := by decide +kernel
theorem dX11_blows_85 : decode cX11_blows 85 = .ok (.iload_n 2, 1) := by decide +kernel
theorem dX11_blows_86 : decode cX11_blows 86 = .ok (.iadd, 1) := by decide +kernel
theorem dX11_blows_87 : decode cX11_blows 87 = .ok (.iload 4, 2) := by decide +kernel
theorem dX11_blows_89 : decode cX11_blows 89 = .ok (.iastore, 1) := by decide +kernel
theorem dX11_blows_90 : decode cX11_blows 90 = .ok (.iload 5, 2) := by decide +kernel
theorem dX11_blows_92 : decode cX11_blows 92 = .ok (.ireturn, 1) := by decide +kernel
theorem dX11_swing_0 : decode cX11_swing 0 = .ok (.iload_n 1, 1) := by decide +kernel
theorem dX11_swing_1 : decode cX11_swing 1 = .ok (.i2l, 1) := by decide +kernel
theorem dX11_swing_2 : decode cX11_swing 2 = .ok (.lconst 0, 1) := by decide +kernel
theorem dX11_swing_3 : decode cX11_swing 3 = .ok (.aload_n 0, 1) := by decide +kernel
theorem dX11_swing_4 : decode cX11_swing 4 = .ok (.getfield 165, 3) := by decide +kernel
theorem dX11_swing_7 : decode cX11_swing 7 = .ok (.iconst 1, 1) := by decide +kernel
theorem dX11_swing_8 : decode cX11_swing 8 = .ok (.isub, 1) := by decide +kernel
theorem dX11_swing_9 : decode cX11_swing 9 = .ok (.i2l, 1) := by decide +kernel
theorem dX11_swing_10 : decode cX11_swing 10 = .ok (.invokestatic 127, 3) := by decide +kernel
theorem dX11_swing_13 : decode cX11_swing 13 = .ok (.ifCond .eq 17, 3) := by decide +kernel
theorem dX11_swing_16 : decode cX11_swing 16 = .ok (.iload_n 2, 1) := by decide +kernel
theorem dX11_swing_17 : decode cX11_swing 17 = .ok (.i2l, 1) := by decide +kernel
theorem dX11_swing_18 : decode cX11_swing 18 = .ok (.ldc2_w 170, 3) := by decide +kernel
theorem dX11_swing_21 : decode cX11_swing 21 = .ok (.ldc2_w 131, 3) := by decide +kernel
theorem dX11_swing_24 : decode cX11_swing 24 = .ok (.invokestatic 127, 3) := by decide +kernel
theorem dX11_swing_27 : decode cX11_swing 27 = .ok (.ifCond .ne 5, 3) := by decide +kernel
theorem dX11_swing_30 : decode cX11_swing 30 = .ok (.iconst (-1), 1) := by decide +kernel
theorem dX11_swing_31 : decode cX11_swing 31 = .ok (.ireturn, 1) := by decide +kernel
theorem dX11_swing_32 : decode cX11_swing 32 = .ok (.iconst 0, 1) := by decide +kernel
theorem dX11_swing_33 : decode cX11_swing 33 = .ok (.istore_n 3, 1) := by decide +kernel
theorem dX11_swing_34 : decode cX11_swing 34 = .ok (.iload_n 3, 1) := by decide +kernel
theorem dX11_swing_35 : decode cX11_swing 35 = .ok (.iconst 4, 1) := by decide +kernel
theorem dX11_swing_36 : decode cX11_swing 36 = .ok (.if_icmp .ge 39, 3) := by decide +kernel
theorem dX11_swing_39 : decode cX11_swing 39 = .ok (.aload_n 0, 1) := by decide +kernel
theorem dX11_swing_40 : decode cX11_swing 40 = .ok (.getfield 41, 3) := by decide +kernel
theorem dX11_swing_43 : decode cX11_swing 43 = .ok (.iconst 4, 1) := by decide +kernel
theorem dX11_swing_44 : decode cX11_swing 44 = .ok (.iload_n 1, 1) := by decide +kernel
theorem dX11_swing_45 : decode cX11_swing 45 = .ok (.imul, 1) := by decide +kernel
theorem dX11_swing_46 : decode cX11_swing 46 = .ok (.iload_n 3, 1) := by decide +kernel
theorem dX11_swing_47 : decode cX11_swing 47 = .ok (.iadd, 1) := by decide +kernel
theorem dX11_swing_48 : decode cX11_swing 48 = .ok (.aload_n 0, 1) := by decide +kernel
theorem dX11_swing_49 : decode cX11_swing 49 = .ok (.getfield 41, 3) := by decide +kernel
theorem dX11_swing_52 : decode cX11_swing 52 = .ok (.iconst 4, 1) := by decide +kernel
theorem dX11_swing_53 : decode cX11_swing 53 = .ok (.iload_n 1, 1) := by decide +kernel
theorem dX11_swing_54 : decode cX11_swing 54 = .ok (.imul, 1) := by decide +kernel
theorem dX11_swing_55 : decode cX11_swing 55 = .ok (.iload_n 3, 1) := by decide +kernel
theorem dX11_swing_56 : decode cX11_swing 56 = .ok (.iadd, 1) := by decide +kernel
theorem dX11_swing_57 : decode cX11_swing 57 = .ok (.iaload, 1) := by decide +kernel
theorem dX11_swing_58 : decode cX11_swing 58 = .ok (.iload_n 2, 1) := by decide +kernel
theorem dX11_swing_59 : decode cX11_swing 59 = .ok (.iadd, 1) := by decide +kernel
theorem dX11_swing_60 : decode cX11_swing 60 = .ok (.sipush 360, 3) := by decide +kernel
theorem dX11_swing_63 : decode cX11_swing 63 = .ok (.iadd, 1) := by decide +kernel
theorem dX11_swing_64 : decode cX11_swing 64 = .ok (.sipush 360, 3) := by decide +kernel
theorem dX11_swing_67 : decode cX11_swing 67 = .ok (.irem, 1) := by decide +kernel
theorem dX11_swing_68 : decode cX11_swing 68 = .ok (.iastore, 1) := by decide +kernel
theorem dX11_swing_69 : decode cX11_swing 69 = .ok (.iinc 3 1, 3) := by decide +kernel
theorem dX11_swing_72 : decode cX11_swing 72 = .ok (.goto (-38), 3) := by decide +kernel
theorem dX11_swing_75 : decode cX11_swing 75 = .ok (.iconst 1, 1) := by decide +kernel
theorem dX11_swing_76 : decode cX11_swing 76 = .ok (.ireturn, 1) := by decide +kernel
theorem dX11_tree_0 : decode cX11_tree 0 = .ok (.iload_n 1, 1) := by decide +kernel
theorem dX11_tree_1 : decode cX11_tree 1 = .ok (.i2l, 1) := by decide +kernel
theorem dX11_tree_2 : decode cX11_tree 2 = .ok (.ldc2_w 172, 3) := by decide +kernel
theorem dX11_tree_5 : decode cX11_tree 5 = .ok (.ldc2_w 174, 3) := by decide +kernel
theorem dX11_tree_8 : decode cX11_tree 8 = .ok (.invokestatic 127, 3) := by decide +kernel
theorem dX11_tree_11 : decode cX11_tree 11 = .ok (.ifCond .eq 42, 3) := by decide +kernel
theorem dX11_tree_14 : decode cX11_tree 14 = .ok (.iload_n 2, 1) := by decide +kernel
theorem dX11_tree_15 : decode cX11_tree 15 = .ok (.i2l, 1) := by decide +kernel
theorem dX11_tree_16 : decode cX11_tree 16 = .ok (.ldc2_w 172, 3) := by decide +kernel
theorem dX11_tree_19 : decode cX11_tree 19 = .ok (.ldc2_w 174, 3) := by decide +kernel
theorem dX11_tree_22 : decode cX11_tree 22 = .ok (.invokestatic 127, 3) := by decide +kernel
theorem dX11_tree_25 : decode cX11_tree 25 = .ok (.ifCond .eq 28, 3) := by decide +kernel
theorem dX11_tree_28 : decode cX11_tree 28 = .ok (.iload_n 3, 1) := by decide +kernel
theorem dX11_tree_29 : decode cX11_tree 29 = .ok (.i2l, 1) := by decide +kernel
theorem dX11_tree_30 : decode cX11_tree 30 = .ok (.lconst 1, 1) := by decide +kernel
theorem dX11_tree_31 : decode cX11_tree 31 = .ok (.ldc2_w 176, 3) := by decide +kernel
theorem dX11_tree_34 : decode cX11_tree 34 = .ok (.invokestatic 127, 3) := by decide +kernel
theorem dX11_tree_37 : decode cX11_tree 37 = .ok (.ifCond .eq 16, 3) := by decide +kernel
theorem dX11_tree_40 : decode cX11_tree 40 = .ok (.iload 4, 2) := by decide +kernel
theorem dX11_tree_42 : decode cX11_tree 42 = .ok (.i2l, 1) := by decide +kernel
theorem dX11_tree_43 : decode cX11_tree 43 = .ok (.lconst 1, 1) := by decide +kernel
theorem dX11_tree_44 : decode cX11_tree 44 = .ok (.ldc2_w 178, 3) := by decide +kernel
theorem dX11_tree_47 : decode cX11_tree 47 = .ok (.invokestatic 127, 3) := by decide +kernel
theorem dX11_tree_50 : decode cX11_tree 50 = .ok (.ifCond .ne 5, 3) := by decide +kernel
theorem dX11_tree_53 : decode cX11_tree 53 = .ok (.iconst (-1), 1) := by decide +kernel
theorem dX11_tree_54 : decode cX11_tree 54 = .ok (.ireturn, 1) := by decide +kernel
theorem dX11_tree_55 : decode cX11_tree 55 = .ok (.aload_n 0, 1) := by decide +kernel
theorem dX11_tree_56 : decode cX11_tree 56 = .ok (.getfield 180, 3) := by decide +kernel
theorem dX11_tree_59 : decode cX11_tree 59 = .ok (.bipush 6, 2) := by decide +kernel
theorem dX11_tree_61 : decode cX11_tree 61 = .ok (.if_icmp .ne 6, 3) := by decide +kernel
theorem dX11_tree_64 : decode cX11_tree 64 = .ok (.bipush (-3), 2) := by decide +kernel
theorem dX11_tree_66 : decode cX11_tree 66 = .ok (.ireturn, 1) := by decide +kernel
theorem dX11_tree_67 : decode cX11_tree 67 = .ok (.aload_n 0, 1) := by decide +kernel
theorem dX11_tree_68 : decode cX11_tree 68 = .ok (.getfield 44, 3) := by decide +kernel
theorem dX11_tree_71 : decode cX11_tree 71 = .ok (.aload_n 0, 1) := by decide +kernel
theorem dX11_tree_72 : decode cX11_tree 72 = .ok (.getfield 180, 3) := by decide +kernel
theorem dX11_tree_75 : decode cX11_tree 75 = .ok (.iload_n 1, 1) := by decide +kernel
theorem dX11_tree_76 : decode cX11_tree 76 = .ok (.iastore, 1) := by decide +kernel
theorem dX11_tree_77 : decode cX11_tree 77 = .ok (.aload_n 0, 1) := by decide +kernel
theorem dX11_tree_78 : decode cX11_tree 78 = .ok (.getfield 47, 3) := by decide +kernel
theorem dX11_tree_81 : decode cX11_tree 81 = .ok (.aload_n 0, 1) := by decide +kernel
theorem dX11_tree_82 : decode cX11_tree 82 = .ok (.getfield 180, 3) := by decide +kernel
theorem dX11_tree_85 : decode cX11_tree 85 = .ok (.iload_n 2, 1) := by decide +kernel
theorem dX11_tree_86 : decode cX11_tree 86 = .ok (.iastore, 1) := by decide +kernel
theorem dX11_tree_87 : decode cX11_tree 87 = .ok (.aload_n 0, 1) := by decide +kernel
theorem dX11_tree_88 : decode cX11_tree 88 = .ok (.getfield 50, 3) := by decide +kernel
theorem dX11_tree_91 : decode cX11_tree 91 = .ok (.aload_n 0, 1) := by decide +kernel
theorem dX11_tree_92 : decode cX11_tree 92 = .ok (.getfield 180, 3) := by decide +kernel
theorem dX11_tree_95 : decode cX11_tree 95 = .ok (.iload_n 3, 1) := by decide +kernel
theorem dX11_tree_96 : decode cX11_tree 96 = .ok (.iastore, 1) := by decide +kernel
theorem dX11_tree_97 : decode cX11_tree 97 = .ok (.aload_n 0, 1) := by decide +kernel
theorem dX11_tree_98 : decode cX11_tree 98 = .ok (.getfield 53, 3) := by decide +kernel
theorem dX11_tree_101 : decode cX11_tree 101 = .ok (.aload_n 0, 1) := by decide +kernel
theorem dX11_tree_102 : decode cX11_tree 102 = .ok (.getfield 180, 3) := by decide +kernel
theorem dX11_tree_105 : decode cX11_tree 105 = .ok (.iload 4, 2) := by decide +kernel
theorem dX11_tree_107 : decode cX11_tree 107 = .ok (.iastore, 1) := by decide +kernel
theorem dX11_tree_108 : decode cX11_tree 108 = .ok (.aload_n 0, 1) := by decide +kernel
theorem dX11_tree_109 : decode cX11_tree 109 = .ok (.dup, 1) := by decide +kernel
theorem dX11_tree_110 : decode cX11_tree 110 = .ok (.getfield 180, 3) := by decide +kernel
theorem dX11_tree_113 : decode cX11_tree 113 = .ok (.iconst 1, 1) := by decide +kernel
theorem dX11_tree_114 : decode cX11_tree 114 = .ok (.iadd, 1) := by decide +kernel
theorem dX11_tree_115 : decode cX11_tree 115 = .ok (.putfield 180, 3) := by decide +kernel
theorem dX11_tree_118 : decode cX11_tree 118 = .ok (.aload_n 0, 1) := by decide +kernel
theorem dX11_tree_119 : decode cX11_tree 119 = .ok (.getfield 180, 3) := by decide +kernel
theorem dX11_tree_122 : decode cX11_tree 122 = .ok (.iconst 1, 1) := by decide +kernel
theorem dX11_tree_123 : decode cX11_tree 123 = .ok (.isub, 1) := by decide +kernel
theorem dX11_tree_124 : decode cX11_tree 124 = .ok (.ireturn, 1) := by decide +kernel
theorem dX11_ring_0 : decode cX11_ring 0 = .ok (.iload_n 1, 1) := by decide +kernel
theorem dX11_ring_1 : decode cX11_ring 1 = .ok (.i2l, 1) := by decide +kernel
theorem dX11_ring_2 : decode cX11_ring 2 = .ok (.lconst 1, 1) := by decide +kernel
theorem dX11_ring_3 : decode cX11_ring 3 = .ok (.ldc2_w 183, 3) := by decide +kernel
theorem dX11_ring_6 : decode cX11_ring 6 = .ok (.invokestatic 127, 3) := by decide +kernel
theorem dX11_ring_9 : decode cX11_ring 9 = .ok (.ifCond .ne 5, 3) := by decide +kernel
theorem dX11_ring_12 : decode cX11_ring 12 = .ok (.iconst (-1), 1) := by decide +kernel
theorem dX11_ring_13 : decode cX11_ring 13 = .ok (.ireturn, 1) := by decide +kernel
theorem dX11_ring_14 : decode cX11_ring 14 = .ok (.aload_n 0, 1) := by decide +kernel
theorem dX11_ring_15 : decode cX11_ring 15 = .ok (.getfield 56, 3) := by decide +kernel
theorem dX11_ring_18 : decode cX11_ring 18 = .ok (.istore_n 2, 1) := by decide +kernel
theorem dX11_ring_19 : decode cX11_ring 19 = .ok (.aload_n 0, 1) := by decide +kernel
theorem dX11_ring_20 : decode cX11_ring 20 = .ok (.iload_n 1, 1) := by decide +kernel
theorem dX11_ring_21 : decode cX11_ring 21 = .ok (.putfield 56, 3) := by decide +kernel
theorem dX11_ring_24 : decode cX11_ring 24 = .ok (.iload_n 2, 1) := by decide +kernel
theorem dX11_ring_25 : decode cX11_ring 25 = .ok (.ireturn, 1) := by decide +kernel
theorem dX11_keepsTick_0 : decode cX11_keepsTick 0 = .ok (.iconst 0, 1) := by decide +kernel
theorem dX11_keepsTick_1 : decode cX11_keepsTick 1 = .ok (.istore_n 1, 1) := by decide +kernel
theorem dX11_keepsTick_2 : decode cX11_keepsTick 2 = .ok (.iload_n 1, 1) := by decide +kernel
theorem dX11_keepsTick_3 : decode cX11_keepsTick 3 = .ok (.bipush 8, 2) := by decide +kernel
theorem dX11_keepsTick_5 : decode cX11_keepsTick 5 = .ok (.if_icmp .ge 36, 3) := by decide +kernel
theorem dX11_keepsTick_8 : decode cX11_keepsTick 8 = .ok (.aload_n 0, 1) := by decide +kernel
theorem dX11_keepsTick_9 : decode cX11_keepsTick 9 = .ok (.getfield 185, 3) := by decide +kernel
theorem dX11_keepsTick_12 : decode cX11_keepsTick 12 = .ok (.ifCond .eq 29, 3) := by decide +kernel
theorem dX11_keepsTick_15 : decode cX11_keepsTick 15 = .ok (.aload_n 0, 1) := by decide +kernel
theorem dX11_keepsTick_16 : decode cX11_keepsTick 16 = .ok (.getfield 66, 3) := by decide +kernel
theorem dX11_keepsTick_19 : decode cX11_keepsTick 19 = .ok (.bipush 8, 2) := by decide +kernel
theorem dX11_keepsTick_21 : decode cX11_keepsTick 21 = .ok (.aload_n 0, 1) := by decide +kernel
theorem dX11_keepsTick_22 : decode cX11_keepsTick 22 = .ok (.getfield 189, 3) := by decide +kernel
theorem dX11_keepsTick_25 : decode cX11_keepsTick 25 = .ok (.imul, 1) := by decide +kernel
theorem dX11_keepsTick_26 : decode cX11_keepsTick 26 = .ok (.iload_n 1, 1) := by decide +kernel
theorem dX11_keepsTick_27 : decode cX11_keepsTick 27 = .ok (.iadd, 1) := by decide +kernel
theorem dX11_keepsTick_28 : decode cX11_keepsTick 28 = .ok (.aload_n 0, 1) := by decide +kernel
theorem dX11_keepsTick_29 : decode cX11_keepsTick 29 = .ok (.getfield 60, 3) := by decide +kernel
theorem dX11_keepsTick_32 : decode cX11_keepsTick 32 = .ok (.iload_n 1, 1) := by decide +kernel
theorem dX11_keepsTick_33 : decode cX11_keepsTick 33 = .ok (.iaload, 1) := by decide +kernel
theorem dX11_keepsTick_34 : decode cX11_keepsTick 34 = .ok (.iastore, 1) := by decide +kernel
theorem dX11_keepsTick_35 : decode cX11_keepsTick 35 = .ok (.iinc 1 1, 3) := by decide +kernel
theorem dX11_keepsTick_38 : decode cX11_keepsTick 38 = .ok (.goto (-36), 3) := by decide +kernel
theorem dX11_keepsTick_41 : decode cX11_keepsTick 41 = .ok (.return_, 1) := by decide +kernel
theorem dX11_liftOf_0 : decode cX11_liftOf 0 = .ok (.aload_n 0, 1) := by decide +kernel
theorem dX11_liftOf_1 : decode cX11_liftOf 1 = .ok (.getfield 60, 3) := by decide +kernel
theorem dX11_liftOf_4 : decode cX11_liftOf 4 = .ok (.iconst 5, 1) := by decide +kernel
theorem dX11_liftOf_5 : decode cX11_liftOf 5 = .ok (.iaload, 1) := by decide +kernel
theorem dX11_liftOf_6 : decode cX11_liftOf 6 = .ok (.bipush 60, 2) := by decide +kernel
theorem dX11_liftOf_8 : decode cX11_liftOf 8 = .ok (.if_icmp .ge 7, 3) := by decide +kernel
theorem dX11_liftOf_11 : decode cX11_liftOf 11 = .ok (.iconst 0, 1) := by decide +kernel
theorem dX11_liftOf_12 : decode cX11_liftOf 12 = .ok (.goto 35, 3) := by decide +kernel
theorem dX11_liftOf_15 : decode cX11_liftOf 15 = .ok (.aload_n 0, 1) := by decide +kernel
theorem dX11_liftOf_16 : decode cX11_liftOf 16 = .ok (.getfield 60, 3) := by decide +kernel
theorem dX11_liftOf_19 : decode cX11_liftOf 19 = .ok (.iconst 5, 1) := by decide +kernel
theorem dX11_liftOf_20 : decode cX11_liftOf 20 = .ok (.iaload, 1) := by decide +kernel
theorem dX11_liftOf_21 : decode cX11_liftOf 21 = .ok (.bipush 120, 2) := by decide +kernel
theorem dX11_liftOf_23 : decode cX11_liftOf 23 = .ok (.if_icmp .ge 7, 3) := by decide +kernel
theorem dX11_liftOf_26 : decode cX11_liftOf 26 = .ok (.iconst 1, 1) := by decide +kernel
theorem dX11_liftOf_27 : decode cX11_liftOf 27 = .ok (.goto 20, 3) := by decide +kernel
theorem dX11_liftOf_30 : decode cX11_liftOf 30 = .ok (.aload_n 0, 1) := by decide +kernel
theorem dX11_liftOf_31 : decode cX11_liftOf 31 = .ok (.getfield 60, 3) := by decide +kernel
theorem dX11_liftOf_34 : decode cX11_liftOf 34 = .ok (.iconst 5, 1) := by decide +kernel
theorem dX11_liftOf_35 : decode cX11_liftOf 35 = .ok (.iaload, 1) := by decide +kernel
theorem dX11_liftOf_36 : decode cX11_liftOf 36 = .ok (.sipush 180, 3) := by decide +kernel
theorem dX11_liftOf_39 : decode cX11_liftOf 39 = .ok (.if_icmp .ge 7, 3) := by decide +kernel
theorem dX11_liftOf_42 : decode cX11_liftOf 42 = .ok (.iconst 2, 1) := by decide +kernel
theorem dX11_liftOf_43 : decode cX11_liftOf 43 = .ok (.goto 4, 3) := by decide +kernel
theorem dX11_liftOf_46 : decode cX11_liftOf 46 = .ok (.iconst 3, 1) := by decide +kernel
theorem dX11_liftOf_47 : decode cX11_liftOf 47 = .ok (.istore_n 2, 1) := by decide +kernel
theorem dX11_liftOf_48 : decode cX11_liftOf 48 = .ok (.aload_n 0, 1) := by decide +kernel
theorem dX11_liftOf_49 : decode cX11_liftOf 49 = .ok (.getfield 31, 3) := by decide +kernel
theorem dX11_liftOf_52 : decode cX11_liftOf 52 = .ok (.iconst 4, 1) := by decide +kernel
theorem dX11_liftOf_53 : decode cX11_liftOf 53 = .ok (.iload_n 1, 1) := by decide +kernel
theorem dX11_liftOf_54 : decode cX11_liftOf 54 = .ok (.imul, 1) := by decide +kernel
theorem dX11_liftOf_55 : decode cX11_liftOf 55 = .ok (.iload_n 2, 1) := by decide +kernel
theorem dX11_liftOf_56 : decode cX11_liftOf 56 = .ok (.iadd, 1) := by decide +kernel
theorem dX11_liftOf_57 : decode cX11_liftOf 57 = .ok (.iaload, 1) := by decide +kernel
theorem dX11_liftOf_58 : decode cX11_liftOf 58 = .ok (.aload_n 0, 1) := by decide +kernel
theorem dX11_liftOf_59 : decode cX11_liftOf 59 = .ok (.getfield 60, 3) := by decide +kernel
theorem dX11_liftOf_62 : decode cX11_liftOf 62 = .ok (.bipush 6, 2) := by decide +kernel
theorem dX11_liftOf_64 : decode cX11_liftOf 64 = .ok (.iaload, 1) := by decide +kernel
theorem dX11_liftOf_65 : decode cX11_liftOf 65 = .ok (.imul, 1) := by decide +kernel
theorem dX11_liftOf_66 : decode cX11_liftOf 66 = .ok (.sipush 1000, 3) := by decide +kernel
theorem dX11_liftOf_69 : decode cX11_liftOf 69 = .ok (.idiv, 1) := by decide +kernel
theorem dX11_liftOf_70 : decode cX11_liftOf 70 = .ok (.istore_n 3, 1) := by decide +kernel
theorem dX11_liftOf_71 : decode cX11_liftOf 71 = .ok (.aload_n 0, 1) := by decide +kernel
theorem dX11_liftOf_72 : decode cX11_liftOf 72 = .ok (.getfield 13, 3) := by decide +kernel
theorem dX11_liftOf_75 : decode cX11_liftOf 75 = .ok (.iload_n 1, 1) := by decide +kernel
theorem dX11_liftOf_76 : decode cX11_liftOf 76 = .ok (.iaload, 1) := by decide +kernel
theorem dX11_liftOf_77 : decode cX11_liftOf 77 = .ok (.ifCond .le 29, 3) := by decide +kernel
theorem dX11_liftOf_80 : decode cX11_liftOf 80 = .ok (.aload_n 0, 1) := by decide +kernel
theorem dX11_liftOf_81 : decode cX11_liftOf 81 = .ok (.getfield 60, 3) := by decide +kernel
theorem dX11_liftOf_84 : decode cX11_liftOf 84 = .ok (.bipush 6, 2) := by decide +kernel
theorem dX11_liftOf_86 : decode cX11_liftOf 86 = .ok (.iaload, 1) := by decide +kernel
theorem dX11_liftOf_87 : decode cX11_liftOf 87 = .ok (.sipush 300, 3) := by decide +kernel
theorem dX11_liftOf_90 : decode cX11_liftOf 90 = .ok (.if_icmp .ge 14, 3) := by decide +kernel
theorem dX11_liftOf_93 : decode cX11_liftOf 93 = .ok (.iload_n 3, 1) := by decide +kernel
theorem dX11_liftOf_94 : decode cX11_liftOf 94 = .ok (.aload_n 0, 1) := by decide +kernel
theorem dX11_liftOf_95 : decode cX11_liftOf 95 = .ok (.getfield 13, 3) := by decide +kernel
theorem dX11_liftOf_98 : decode cX11_liftOf 98 = .ok (.iload_n 1, 1) := by decide +kernel
theorem dX11_liftOf_99 : decode cX11_liftOf 99 = .ok (.iaload, 1) := by decide +kernel
theorem dX11_liftOf_100 : decode cX11_liftOf 100 = .ok (.iadd, 1) := by decide +kernel
theorem dX11_liftOf_101 : decode cX11_liftOf 101 = .ok (.goto 4, 3) := by decide +kernel
theorem dX11_liftOf_104 : decode cX11_liftOf 104 = .ok (.iload_n 3, 1) := by decide +kernel
theorem dX11_liftOf_105 : decode cX11_liftOf 105 = .ok (.ireturn, 1) := by decide +kernel
theorem dX11_liftOf_106 : decode cX11_liftOf 106 = .ok (.aload_n 0, 1) := by decide +kernel
theorem dX11_liftOf_107 : decode cX11_liftOf 107 = .ok (.getfield 60, 3) := by decide +kernel
theorem dX11_liftOf_110 : decode cX11_liftOf 110 = .ok (.bipush 6, 2) := by decide +kernel
theorem dX11_liftOf_112 : decode cX11_liftOf 112 = .ok (.iaload, 1) := by decide +kernel
theorem dX11_liftOf_113 : decode cX11_liftOf 113 = .ok (.bipush 100, 2) := by decide +kernel
theorem dX11_liftOf_115 : decode cX11_liftOf 115 = .ok (.if_icmp .ge 7, 3) := by decide +kernel
theorem dX11_liftOf_118 : decode cX11_liftOf 118 = .ok (.iconst 0, 1) := by decide +kernel
theorem dX11_liftOf_119 : decode cX11_liftOf 119 = .ok (.goto 4, 3) := by decide +kernel
theorem dX11_liftOf_122 : decode cX11_liftOf 122 = .ok (.iload_n 3, 1) := by decide +kernel
theorem dX11_liftOf_123 : decode cX11_liftOf 123 = .ok (.ireturn, 1) := by decide +kernel
theorem dX11_held_0 : decode cX11_held 0 = .ok (.iload_n 0, 1) := by decide +kernel
theorem dX11_held_1 : decode cX11_held 1 = .ok (.iload_n 1, 1) := by decide +kernel
theorem dX11_held_2 : decode cX11_held 2 = .ok (.if_icmp .ge 7, 3) := by decide +kernel
theorem dX11_held_5 : decode cX11_held 5 = .ok (.iload_n 1, 1) := by decide +kernel
theorem dX11_held_6 : decode cX11_held 6 = .ok (.goto 13, 3) := by decide +kernel
theorem dX11_held_9 : decode cX11_held 9 = .ok (.iload_n 0, 1) := by decide +kernel
theorem dX11_held_10 : decode cX11_held 10 = .ok (.iload_n 2, 1) := by decide +kernel
theorem dX11_held_11 : decode cX11_held 11 = .ok (.if_icmp .le 7, 3) := by decide +kernel
theorem dX11_held_14 : decode cX11_held 14 = .ok (.iload_n 2, 1) := by decide +kernel
theorem dX11_held_15 : decode cX11_held 15 = .ok (.goto 4, 3) := by decide +kernel
theorem dX11_held_18 : decode cX11_held 18 = .ok (.iload_n 0, 1) := by decide +kernel
theorem dX11_held_19 : decode cX11_held 19 = .ok (.ireturn, 1) := by decide +kernel
theorem dX11_steps_0 : decode cX11_steps 0 = .ok (.aload_n 0, 1) := by decide +kernel
theorem dX11_steps_1 : decode cX11_steps 1 = .ok (.dup, 1) := by decide +kernel
theorem dX11_steps_2 : decode cX11_steps 2 = .ok (.getfield 189, 3) := by decide +kernel
theorem dX11_steps_5 : decode cX11_steps 5 = .ok (.iconst 1, 1) := by decide +kernel
theorem dX11_steps_6 : decode cX11_steps 6 = .ok (.iadd, 1) := by decide +kernel
theorem dX11_steps_7 : decode cX11_steps 7 = .ok (.putfield 189, 3) := by decide +kernel
theorem dX11_steps_10 : decode cX11_steps 10 = .ok (.aload_n 0, 1) := by decide +kernel
theorem dX11_steps_11 : decode cX11_steps 11 = .ok (.getfield 60, 3) := by decide +kernel
theorem dX11_steps_14 : decode cX11_steps 14 = .ok (.iconst 3, 1) := by decide +kernel
theorem dX11_steps_15 : decode cX11_steps 15 = .ok (.aload_n 0, 1) := by decide +kernel
theorem dX11_steps_16 : decode cX11_steps 16 = .ok (.getfield 60, 3) := by decide +kernel
theorem dX11_steps_19 : decode cX11_steps 19 = .ok (.iconst 3, 1) := by decide +kernel
theorem dX11_steps_20 : decode cX11_steps 20 = .ok (.iaload, 1) := by decide +kernel
theorem dX11_steps_21 : decode cX11_steps 21 = .ok (.aload_n 0, 1) := by decide +kernel
theorem dX11_steps_22 : decode cX11_steps 22 = .ok (.iload_n 1, 1) := by decide +kernel
theorem dX11_steps_23 : decode cX11_steps 23 = .ok (.invokevirtual 192, 3) := by decide +kernel
theorem dX11_steps_26 : decode cX11_steps 26 = .ok (.aload_n 0, 1) := by decide +kernel
theorem dX11_steps_27 : decode cX11_steps 27 = .ok (.aload_n 0, 1) := by decide +kernel
theorem dX11_steps_28 : decode cX11_steps 28 = .ok (.getfield 60, 3) := by decide +kernel
theorem dX11_steps_31 : decode cX11_steps 31 = .ok (.bipush 7, 2) := by decide +kernel
theorem dX11_steps_33 : decode cX11_steps 33 = .ok (.iaload, 1) := by decide +kernel
theorem dX11_steps_34 : decode cX11_steps 34 = .ok (.invokevirtual 133, 3) := by decide +kernel
theorem dX11_steps_37 : decode cX11_steps 37 = .ok (.imul, 1) := by decide +kernel
theorem dX11_steps_38 : decode cX11_steps 38 = .ok (.sipush 1000, 3) := by decide +kernel
theorem dX11_steps_41 : decode cX11_steps 41 = .ok (.idiv, 1) := by decide +kernel
theorem dX11_steps_42 : decode cX11_steps 42 = .ok (.aload_n 0, 1) := by decide +kernel
theorem dX11_steps_43 : decode cX11_steps 43 = .ok (.getfield 16, 3) := by decide +kernel
theorem dX11_steps_46 : decode cX11_steps 46 = .ok (.iload_n 1, 1) := by decide +kernel
theorem dX11_steps_47 : decode cX11_steps 47 = .ok (.iaload, 1) := by decide +kernel
theorem dX11_steps_48 : decode cX11_steps 48 = .ok (.isub, 1) := by decide +kernel
theorem dX11_steps_49 : decode cX11_steps 49 = .ok (.bipush 10, 2) := by decide +kernel
theorem dX11_steps_51 : decode cX11_steps 51 = .ok (.idiv, 1) := by decide +kernel
theorem dX11_steps_52 : decode cX11_steps 52 = .ok (.iadd, 1) := by decide +kernel
theorem dX11_steps_53 : decode cX11_steps 53 = .ok (.bipush (-80), 2) := by decide +kernel
theorem dX11_steps_55 : decode cX11_steps 55 = .ok (.bipush 80, 2) := by decide +kernel
theorem dX11_steps_57 : decode cX11_steps 57 = .ok (.invokestatic 195, 3) := by decide +kernel
theorem dX11_steps_60 : decode cX11_steps 60 = .ok (.iastore, 1) := by decide +kernel
theorem dX11_steps_61 : decode cX11_steps 61 = .ok (.aload_n 0, 1) := by decide +kernel
theorem dX11_steps_62 : decode cX11_steps 62 = .ok (.getfield 60, 3) := by decide +kernel
theorem dX11_steps_65 : decode cX11_steps 65 = .ok (.iconst 2, 1) := by decide +kernel
theorem dX11_steps_66 : decode cX11_steps 66 = .ok (.dup2, 1) := by decide +kernel
theorem dX11_steps_67 : decode cX11_steps 67 = .ok (.iaload, 1) := by decide +kernel
theorem dX11_steps_68 : decode cX11_steps 68 = .ok (.aload_n 0, 1) := by decide +kernel
theorem dX11_steps_69 : decode cX11_steps 69 = .ok (.getfield 60, 3) := by decide +kernel
theorem dX11_steps_72 : decode cX11_steps 72 = .ok (.iconst 3, 1) := by decide +kernel
theorem dX11_steps_73 : decode cX11_steps 73 = .ok (.iaload, 1) := by decide +kernel
theorem dX11_steps_74 : decode cX11_steps 74 = .ok (.iadd, 1) := by decide +kernel
theorem dX11_steps_75 : decode cX11_steps 75 = .ok (.iastore, 1) := by decide +kernel
theorem dX11_steps_76 : decode cX11_steps 76 = .ok (.aload_n 0, 1) := by decide +kernel
theorem dX11_steps_77 : decode cX11_steps 77 = .ok (.getfield 60, 3) := by decide +kernel
theorem dX11_steps_80 : decode cX11_steps 80 = .ok (.iconst 4, 1) := by decide +kernel
theorem dX11_steps_81 : decode cX11_steps 81 = .ok (.iaload, 1) := by decide +kernel
theorem dX11_steps_82 : decode cX11_steps 82 = .ok (.aload_n 0, 1) := by decide +kernel
theorem dX11_steps_83 : decode cX11_steps 83 = .ok (.getfield 19, 3) := by decide +kernel
theorem dX11_steps_86 : decode cX11_steps 86 = .ok (.iload_n 1, 1) := by decide +kernel
theorem dX11_steps_87 : decode cX11_steps 87 = .ok (.iaload, 1) := by decide +kernel
theorem dX11_steps_88 : decode cX11_steps 88 = .ok (.iload_n 2, 1) := by decide +kernel
theorem dX11_steps_89 : decode cX11_steps 89 = .ok (.iadd, 1) := by decide +kernel
theorem dX11_steps_90 : decode cX11_steps 90 = .ok (.aload_n 0, 1) := by decide +kernel
theorem dX11_steps_91 : decode cX11_steps 91 = .ok (.getfield 60, 3) := by decide +kernel
theorem dX11_steps_94 : decode cX11_steps 94 = .ok (.bipush 6, 2) := by decide +kernel
theorem dX11_steps_96 : decode cX11_steps 96 = .ok (.iaload, 1) := by decide +kernel
theorem dX11_steps_97 : decode cX11_steps 97 = .ok (.imul, 1) := by decide +kernel
theorem dX11_steps_98 : decode cX11_steps 98 = .ok (.aload_n 0, 1) := by decide +kernel
theorem dX11_steps_99 : decode cX11_steps 99 = .ok (.aload_n 0, 1) := by decide +kernel
theorem dX11_steps_100 : decode cX11_steps 100 = .ok (.getfield 60, 3) := by decide +kernel
theorem dX11_steps_103 : decode cX11_steps 103 = .ok (.bipush 7, 2) := by decide +kernel
theorem dX11_steps_105 : decode cX11_steps 105 = .ok (.iaload, 1) := by decide +kernel
theorem dX11_steps_106 : decode cX11_steps 106 = .ok (.invokevirtual 123, 3) := by decide +kernel
theorem dX11_steps_109 : decode cX11_steps 109 = .ok (.imul, 1) := by decide +kernel
theorem dX11_steps_110 : decode cX11_steps 110 = .ok (.ldc 199, 2) := by decide +kernel
theorem dX11_steps_112 : decode cX11_steps 112 = .ok (.idiv, 1) := by decide +kernel
theorem dX11_steps_113 : decode cX11_steps 113 = .ok (.iadd, 1) := by decide +kernel
theorem dX11_steps_114 : decode cX11_steps 114 = .ok (.istore 4, 2) := by decide +kernel
theorem dX11_steps_116 : decode cX11_steps 116 = .ok (.aload_n 0, 1) := by decide +kernel
theorem dX11_steps_117 : decode cX11_steps 117 = .ok (.getfield 60, 3) := by decide +kernel
theorem dX11_steps_120 : decode cX11_steps 120 = .ok (.iconst 4, 1) := by decide +kernel
theorem dX11_steps_121 : decode cX11_steps 121 = .ok (.iload 4, 2) := by decide +kernel
theorem dX11_steps_123 : decode cX11_steps 123 = .ok (.ldc 200, 2) := by decide +kernel
theorem dX11_steps_125 : decode cX11_steps 125 = .ok (.irem, 1) := by decide +kernel
theorem dX11_steps_126 : decode cX11_steps 126 = .ok (.ldc 200, 2) := by decide +kernel
theorem dX11_steps_128 : decode cX11_steps 128 = .ok (.iadd, 1) := by decide +kernel
theorem dX11_steps_129 : decode cX11_steps 129 = .ok (.ldc 200, 2) := by decide +kernel
theorem dX11_steps_131 : decode cX11_steps 131 = .ok (.irem, 1) := by decide +kernel
theorem dX11_steps_132 : decode cX11_steps 132 = .ok (.iastore, 1) := by decide +kernel
theorem dX11_steps_133 : decode cX11_steps 133 = .ok (.aload_n 0, 1) := by decide +kernel
theorem dX11_steps_134 : decode cX11_steps 134 = .ok (.getfield 60, 3) := by decide +kernel
theorem dX11_steps_137 : decode cX11_steps 137 = .ok (.iconst 0, 1) := by decide +kernel
theorem dX11_steps_138 : decode cX11_steps 138 = .ok (.dup2, 1) := by decide +kernel
theorem dX11_steps_139 : decode cX11_steps 139 = .ok (.iaload, 1) := by decide +kernel
theorem dX11_steps_140 : decode cX11_steps 140 = .ok (.aload_n 0, 1) := by decide +kernel
theorem dX11_steps_141 : decode cX11_steps 141 = .ok (.getfield 60, 3) := by decide +kernel
theorem dX11_steps_144 : decode cX11_steps 144 = .ok (.iconst 5, 1) := by decide +kernel
theorem dX11_steps_145 : decode cX11_steps 145 = .ok (.iaload, 1) := by decide +kernel
theorem dX11_steps_146 : decode cX11_steps 146 = .ok (.aload_n 0, 1) := by decide +kernel
theorem dX11_steps_147 : decode cX11_steps 147 = .ok (.aload_n 0, 1) := by decide +kernel
theorem dX11_steps_148 : decode cX11_steps 148 = .ok (.getfield 60, 3) := by decide +kernel
theorem dX11_steps_151 : decode cX11_steps 151 = .ok (.iconst 4, 1) := by decide +kernel
theorem dX11_steps_152 : decode cX11_steps 152 = .ok (.iaload, 1) := by decide +kernel
theorem dX11_steps_153 : decode cX11_steps 153 = .ok (.bipush 100, 2) := by decide +kernel
theorem dX11_steps_155 : decode cX11_steps 155 = .ok (.idiv, 1) := by decide +kernel
theorem dX11_steps_156 : decode cX11_steps 156 = .ok (.invokevirtual 123, 3) := by decide +kernel
theorem dX11_steps_159 : decode cX11_steps 159 = .ok (.imul, 1) := by decide +kernel
theorem dX11_steps_160 : decode cX11_steps 160 = .ok (.sipush 1000, 3) := by decide +kernel
theorem dX11_steps_163 : decode cX11_steps 163 = .ok (.idiv, 1) := by decide +kernel
theorem dX11_steps_164 : decode cX11_steps 164 = .ok (.iadd, 1) := by decide +kernel
theorem dX11_steps_165 : decode cX11_steps 165 = .ok (.iastore, 1) := by decide +kernel
theorem dX11_steps_166 : decode cX11_steps 166 = .ok (.aload_n 0, 1) := by decide +kernel
theorem dX11_steps_167 : decode cX11_steps 167 = .ok (.getfield 60, 3) := by decide +kernel
theorem dX11_steps_170 : decode cX11_steps 170 = .ok (.iconst 1, 1) := by decide +kernel
theorem dX11_steps_171 : decode cX11_steps 171 = .ok (.dup2, 1) := by decide +kernel
theorem dX11_steps_172 : decode cX11_steps 172 = .ok (.iaload, 1) := by decide +kernel
theorem dX11_steps_173 : decode cX11_steps 173 = .ok (.aload_n 0, 1) := by decide +kernel
theorem dX11_steps_174 : decode cX11_steps 174 = .ok (.getfield 60, 3) := by decide +kernel
theorem dX11_steps_177 : decode cX11_steps 177 = .ok (.iconst 5, 1) := by decide +kernel
theorem dX11_steps_178 : decode cX11_steps 178 = .ok (.iaload, 1) := by decide +kernel
theorem dX11_steps_179 : decode cX11_steps 179 = .ok (.aload_n 0, 1) := by decide +kernel
theorem dX11_steps_180 : decode cX11_steps 180 = .ok (.aload_n 0, 1) := by decide +kernel
theorem dX11_steps_181 : decode cX11_steps 181 = .ok (.getfield 60, 3) := by decide +kernel
theorem dX11_steps_184 : decode cX11_steps 184 = .ok (.iconst 4, 1) := by decide +kernel
theorem dX11_steps_185 : decode cX11_steps 185 = .ok (.iaload, 1) := by decide +kernel
