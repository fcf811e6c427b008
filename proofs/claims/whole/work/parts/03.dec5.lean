theorem dX11_rowsOf_12 : decode cX11_rowsOf 12 = .ok (.iload_n 2, 1) := by decide +kernel
theorem dX11_rowsOf_13 : decode cX11_rowsOf 13 = .ok (.aload_n 0, 1) := by decide +kernel
theorem dX11_rowsOf_14 : decode cX11_rowsOf 14 = .ok (.getfield 102, 3) := by decide +kernel
theorem dX11_rowsOf_17 : decode cX11_rowsOf 17 = .ok (.bipush 7, 2) := by decide +kernel
theorem dX11_rowsOf_19 : decode cX11_rowsOf 19 = .ok (.iload_n 3, 1) := by decide +kernel
theorem dX11_rowsOf_20 : decode cX11_rowsOf 20 = .ok (.imul, 1) := by decide +kernel
theorem dX11_rowsOf_21 : decode cX11_rowsOf 21 = .ok (.iaload, 1) := by decide +kernel
theorem dX11_rowsOf_22 : decode cX11_rowsOf 22 = .ok (.iload_n 1, 1) := by decide +kernel
theorem dX11_rowsOf_23 : decode cX11_rowsOf 23 = .ok (.if_icmp .ne 7, 3) := by decide +kernel
theorem dX11_rowsOf_26 : decode cX11_rowsOf 26 = .ok (.iconst 1, 1) := by decide +kernel
theorem dX11_rowsOf_27 : decode cX11_rowsOf 27 = .ok (.goto 4, 3) := by decide +kernel
theorem dX11_rowsOf_30 : decode cX11_rowsOf 30 = .ok (.iconst 0, 1) := by decide +kernel
theorem dX11_rowsOf_31 : decode cX11_rowsOf 31 = .ok (.iadd, 1) := by decide +kernel
theorem dX11_rowsOf_32 : decode cX11_rowsOf 32 = .ok (.istore_n 2, 1) := by decide +kernel
theorem dX11_rowsOf_33 : decode cX11_rowsOf 33 = .ok (.iinc 3 1, 3) := by decide +kernel
theorem dX11_rowsOf_36 : decode cX11_rowsOf 36 = .ok (.goto (-32), 3) := by decide +kernel
theorem dX11_rowsOf_39 : decode cX11_rowsOf 39 = .ok (.iload_n 2, 1) := by decide +kernel
theorem dX11_rowsOf_40 : decode cX11_rowsOf 40 = .ok (.ireturn, 1) := by decide +kernel
theorem dX11_missAll_0 : decode cX11_missAll 0 = .ok (.iconst 0, 1) := by decide +kernel
theorem dX11_missAll_1 : decode cX11_missAll 1 = .ok (.istore_n 3, 1) := by decide +kernel
theorem dX11_missAll_2 : decode cX11_missAll 2 = .ok (.iconst 0, 1) := by decide +kernel
theorem dX11_missAll_3 : decode cX11_missAll 3 = .ok (.istore 4, 2) := by decide +kernel
theorem dX11_missAll_5 : decode cX11_missAll 5 = .ok (.iload 4, 2) := by decide +kernel
theorem dX11_missAll_7 : decode cX11_missAll 7 = .ok (.aload_n 0, 1) := by decide +kernel
theorem dX11_missAll_8 : decode cX11_missAll 8 = .ok (.getfield 300, 3) := by decide +kernel
theorem dX11_missAll_11 : decode cX11_missAll 11 = .ok (.if_icmp .ge 37, 3) := by decide +kernel
theorem dX11_missAll_14 : decode cX11_missAll 14 = .ok (.iload_n 3, 1) := by decide +kernel
theorem dX11_missAll_15 : decode cX11_missAll 15 = .ok (.aload_n 0, 1) := by decide +kernel
theorem dX11_missAll_16 : decode cX11_missAll 16 = .ok (.getfield 102, 3) := by decide +kernel
theorem dX11_missAll_19 : decode cX11_missAll 19 = .ok (.bipush 7, 2) := by decide +kernel
theorem dX11_missAll_21 : decode cX11_missAll 21 = .ok (.iload 4, 2) := by decide +kernel
theorem dX11_missAll_23 : decode cX11_missAll 23 = .ok (.imul, 1) := by decide +kernel
theorem dX11_missAll_24 : decode cX11_missAll 24 = .ok (.iaload, 1) := by decide +kernel
theorem dX11_missAll_25 : decode cX11_missAll 25 = .ok (.iload_n 1, 1) := by decide +kernel
theorem dX11_missAll_26 : decode cX11_missAll 26 = .ok (.if_icmp .ne 13, 3) := by decide +kernel
theorem dX11_missAll_29 : decode cX11_missAll 29 = .ok (.aload_n 0, 1) := by decide +kernel
theorem dX11_missAll_30 : decode cX11_missAll 30 = .ok (.iload 4, 2) := by decide +kernel
theorem dX11_missAll_32 : decode cX11_missAll 32 = .ok (.iload_n 2, 1) := by decide +kernel
theorem dX11_missAll_33 : decode cX11_missAll 33 = .ok (.invokevirtual 314, 3) := by decide +kernel
theorem dX11_missAll_36 : decode cX11_missAll 36 = .ok (.goto 4, 3) := by decide +kernel
theorem dX11_missAll_39 : decode cX11_missAll 39 = .ok (.iconst 0, 1) := by decide +kernel
theorem dX11_missAll_40 : decode cX11_missAll 40 = .ok (.iadd, 1) := by decide +kernel
theorem dX11_missAll_41 : decode cX11_missAll 41 = .ok (.istore_n 3, 1) := by decide +kernel
theorem dX11_missAll_42 : decode cX11_missAll 42 = .ok (.iinc 4 1, 3) := by decide +kernel
theorem dX11_missAll_45 : decode cX11_missAll 45 = .ok (.goto (-40), 3) := by decide +kernel
theorem dX11_missAll_48 : decode cX11_missAll 48 = .ok (.iload_n 3, 1) := by decide +kernel
theorem dX11_missAll_49 : decode cX11_missAll 49 = .ok (.ireturn, 1) := by decide +kernel
theorem dX11_explained_0 : decode cX11_explained 0 = .ok (.iconst 0, 1) := by decide +kernel
theorem dX11_explained_1 : decode cX11_explained 1 = .ok (.istore_n 2, 1) := by decide +kernel
theorem dX11_explained_2 : decode cX11_explained 2 = .ok (.aload_n 0, 1) := by decide +kernel
theorem dX11_explained_3 : decode cX11_explained 3 = .ok (.iload_n 1, 1) := by decide +kernel
theorem dX11_explained_4 : decode cX11_explained 4 = .ok (.iconst 0, 1) := by decide +kernel
theorem dX11_explained_5 : decode cX11_explained 5 = .ok (.invokevirtual 317, 3) := by decide +kernel
theorem dX11_explained_8 : decode cX11_explained 8 = .ok (.istore_n 3, 1) := by decide +kernel
theorem dX11_explained_9 : decode cX11_explained 9 = .ok (.iconst 1, 1) := by decide +kernel
theorem dX11_explained_10 : decode cX11_explained 10 = .ok (.istore 4, 2) := by decide +kernel
theorem dX11_explained_12 : decode cX11_explained 12 = .ok (.iload 4, 2) := by decide +kernel
theorem dX11_explained_14 : decode cX11_explained 14 = .ok (.bipush 9, 2) := by decide +kernel
theorem dX11_explained_16 : decode cX11_explained 16 = .ok (.if_icmp .gt 81, 3) := by decide +kernel
theorem dX11_explained_19 : decode cX11_explained 19 = .ok (.aload_n 0, 1) := by decide +kernel
theorem dX11_explained_20 : decode cX11_explained 20 = .ok (.iload_n 1, 1) := by decide +kernel
theorem dX11_explained_21 : decode cX11_explained 21 = .ok (.iload 4, 2) := by decide +kernel
theorem dX11_explained_23 : decode cX11_explained 23 = .ok (.ineg, 1) := by decide +kernel
theorem dX11_explained_24 : decode cX11_explained 24 = .ok (.invokevirtual 317, 3) := by decide +kernel
theorem dX11_explained_27 : decode cX11_explained 27 = .ok (.istore 5, 2) := by decide +kernel
theorem dX11_explained_29 : decode cX11_explained 29 = .ok (.iload 5, 2) := by decide +kernel
theorem dX11_explained_31 : decode cX11_explained 31 = .ok (.iload_n 3, 1) := by decide +kernel
theorem dX11_explained_32 : decode cX11_explained 32 = .ok (.if_icmp .ge 9, 3) := by decide +kernel
theorem dX11_explained_35 : decode cX11_explained 35 = .ok (.iload 4, 2) := by decide +kernel
theorem dX11_explained_37 : decode cX11_explained 37 = .ok (.ineg, 1) := by decide +kernel
theorem dX11_explained_38 : decode cX11_explained 38 = .ok (.goto 4, 3) := by decide +kernel
theorem dX11_explained_41 : decode cX11_explained 41 = .ok (.iload_n 2, 1) := by decide +kernel
theorem dX11_explained_42 : decode cX11_explained 42 = .ok (.istore_n 2, 1) := by decide +kernel
theorem dX11_explained_43 : decode cX11_explained 43 = .ok (.iload 5, 2) := by decide +kernel
theorem dX11_explained_45 : decode cX11_explained 45 = .ok (.iload_n 3, 1) := by decide +kernel
theorem dX11_explained_46 : decode cX11_explained 46 = .ok (.if_icmp .ge 8, 3) := by decide +kernel
theorem dX11_explained_49 : decode cX11_explained 49 = .ok (.iload 5, 2) := by decide +kernel
theorem dX11_explained_51 : decode cX11_explained 51 = .ok (.goto 4, 3) := by decide +kernel
theorem dX11_explained_54 : decode cX11_explained 54 = .ok (.iload_n 3, 1) := by decide +kernel
theorem dX11_explained_55 : decode cX11_explained 55 = .ok (.istore_n 3, 1) := by decide +kernel
theorem dX11_explained_56 : decode cX11_explained 56 = .ok (.aload_n 0, 1) := by decide +kernel
theorem dX11_explained_57 : decode cX11_explained 57 = .ok (.iload_n 1, 1) := by decide +kernel
theorem dX11_explained_58 : decode cX11_explained 58 = .ok (.iload 4, 2) := by decide +kernel
theorem dX11_explained_60 : decode cX11_explained 60 = .ok (.invokevirtual 317, 3) := by decide +kernel
theorem dX11_explained_63 : decode cX11_explained 63 = .ok (.istore 6, 2) := by decide +kernel
theorem dX11_explained_65 : decode cX11_explained 65 = .ok (.iload 6, 2) := by decide +kernel
theorem dX11_explained_67 : decode cX11_explained 67 = .ok (.iload_n 3, 1) := by decide +kernel
theorem dX11_explained_68 : decode cX11_explained 68 = .ok (.if_icmp .ge 8, 3) := by decide +kernel
theorem dX11_explained_71 : decode cX11_explained 71 = .ok (.iload 4, 2) := by decide +kernel
theorem dX11_explained_73 : decode cX11_explained 73 = .ok (.goto 4, 3) := by decide +kernel
theorem dX11_explained_76 : decode cX11_explained 76 = .ok (.iload_n 2, 1) := by decide +kernel
theorem dX11_explained_77 : decode cX11_explained 77 = .ok (.istore_n 2, 1) := by decide +kernel
theorem dX11_explained_78 : decode cX11_explained 78 = .ok (.iload 6, 2) := by decide +kernel
theorem dX11_explained_80 : decode cX11_explained 80 = .ok (.iload_n 3, 1) := by decide +kernel
theorem dX11_explained_81 : decode cX11_explained 81 = .ok (.if_icmp .ge 8, 3) := by decide +kernel
theorem dX11_explained_84 : decode cX11_explained 84 = .ok (.iload 6, 2) := by decide +kernel
theorem dX11_explained_86 : decode cX11_explained 86 = .ok (.goto 4, 3) := by decide +kernel
theorem dX11_explained_89 : decode cX11_explained 89 = .ok (.iload_n 3, 1) := by decide +kernel
theorem dX11_explained_90 : decode cX11_explained 90 = .ok (.istore_n 3, 1) := by decide +kernel
theorem dX11_explained_91 : decode cX11_explained 91 = .ok (.iinc 4 1, 3) := by decide +kernel
theorem dX11_explained_94 : decode cX11_explained 94 = .ok (.goto (-82), 3) := by decide +kernel
theorem dX11_explained_97 : decode cX11_explained 97 = .ok (.iload_n 2, 1) := by decide +kernel
theorem dX11_explained_98 : decode cX11_explained 98 = .ok (.ireturn, 1) := by decide +kernel
theorem dX11_explain_0 : decode cX11_explain 0 = .ok (.aload_n 0, 1) := by decide +kernel
theorem dX11_explain_1 : decode cX11_explain 1 = .ok (.iload_n 1, 1) := by decide +kernel
theorem dX11_explain_2 : decode cX11_explain 2 = .ok (.invokevirtual 153, 3) := by decide +kernel
theorem dX11_explain_5 : decode cX11_explain 5 = .ok (.ifCond .ne 6, 3) := by decide +kernel
theorem dX11_explain_8 : decode cX11_explain 8 = .ok (.bipush (-11), 2) := by decide +kernel
theorem dX11_explain_10 : decode cX11_explain 10 = .ok (.ireturn, 1) := by decide +kernel
theorem dX11_explain_11 : decode cX11_explain 11 = .ok (.aload_n 0, 1) := by decide +kernel
theorem dX11_explain_12 : decode cX11_explain 12 = .ok (.iload_n 1, 1) := by decide +kernel
theorem dX11_explain_13 : decode cX11_explain 13 = .ok (.invokevirtual 320, 3) := by decide +kernel
theorem dX11_explain_16 : decode cX11_explain 16 = .ok (.ifCond .ne 8, 3) := by decide +kernel
theorem dX11_explain_19 : decode cX11_explain 19 = .ok (.bipush (-14), 2) := by decide +kernel
theorem dX11_explain_21 : decode cX11_explain 21 = .ok (.goto 8, 3) := by decide +kernel
theorem dX11_explain_24 : decode cX11_explain 24 = .ok (.aload_n 0, 1) := by decide +kernel
theorem dX11_explain_25 : decode cX11_explain 25 = .ok (.iload_n 1, 1) := by decide +kernel
theorem dX11_explain_26 : decode cX11_explain 26 = .ok (.invokevirtual 323, 3) := by decide +kernel
theorem dX11_explain_29 : decode cX11_explain 29 = .ok (.ireturn, 1) := by decide +kernel
theorem dX11_sure_0 : decode cX11_sure 0 = .ok (.aload_n 0, 1) := by decide +kernel
theorem dX11_sure_1 : decode cX11_sure 1 = .ok (.iload_n 1, 1) := by decide +kernel
theorem dX11_sure_2 : decode cX11_sure 2 = .ok (.invokevirtual 153, 3) := by decide +kernel
theorem dX11_sure_5 : decode cX11_sure 5 = .ok (.ifCond .ne 5, 3) := by decide +kernel
theorem dX11_sure_8 : decode cX11_sure 8 = .ok (.iconst (-1), 1) := by decide +kernel
theorem dX11_sure_9 : decode cX11_sure 9 = .ok (.ireturn, 1) := by decide +kernel
theorem dX11_sure_10 : decode cX11_sure 10 = .ok (.aload_n 0, 1) := by decide +kernel
theorem dX11_sure_11 : decode cX11_sure 11 = .ok (.iload_n 1, 1) := by decide +kernel
theorem dX11_sure_12 : decode cX11_sure 12 = .ok (.invokevirtual 320, 3) := by decide +kernel
theorem dX11_sure_15 : decode cX11_sure 15 = .ok (.istore_n 2, 1) := by decide +kernel
theorem dX11_sure_16 : decode cX11_sure 16 = .ok (.iload_n 2, 1) := by decide +kernel
theorem dX11_sure_17 : decode cX11_sure 17 = .ok (.ifCond .ne 6, 3) := by decide +kernel
theorem dX11_sure_20 : decode cX11_sure 20 = .ok (.bipush (-4), 2) := by decide +kernel
theorem dX11_sure_22 : decode cX11_sure 22 = .ok (.ireturn, 1) := by decide +kernel
theorem dX11_sure_23 : decode cX11_sure 23 = .ok (.iload_n 2, 1) := by decide +kernel
theorem dX11_sure_24 : decode cX11_sure 24 = .ok (.iconst 3, 1) := by decide +kernel
theorem dX11_sure_25 : decode cX11_sure 25 = .ok (.if_icmp .lt 28, 3) := by decide +kernel
theorem dX11_sure_28 : decode cX11_sure 28 = .ok (.aload_n 0, 1) := by decide +kernel
theorem dX11_sure_29 : decode cX11_sure 29 = .ok (.iload_n 1, 1) := by decide +kernel
theorem dX11_sure_30 : decode cX11_sure 30 = .ok (.iconst 0, 1) := by decide +kernel
theorem dX11_sure_31 : decode cX11_sure 31 = .ok (.invokevirtual 317, 3) := by decide +kernel
theorem dX11_sure_34 : decode cX11_sure 34 = .ok (.iconst 2, 1) := by decide +kernel
theorem dX11_sure_35 : decode cX11_sure 35 = .ok (.aload_n 0, 1) := by decide +kernel
theorem dX11_sure_36 : decode cX11_sure 36 = .ok (.iload_n 1, 1) := by decide +kernel
theorem dX11_sure_37 : decode cX11_sure 37 = .ok (.aload_n 0, 1) := by decide +kernel
theorem dX11_sure_38 : decode cX11_sure 38 = .ok (.iload_n 1, 1) := by decide +kernel
theorem dX11_sure_39 : decode cX11_sure 39 = .ok (.invokevirtual 323, 3) := by decide +kernel
theorem dX11_sure_42 : decode cX11_sure 42 = .ok (.invokevirtual 317, 3) := by decide +kernel
theorem dX11_sure_45 : decode cX11_sure 45 = .ok (.imul, 1) := by decide +kernel
theorem dX11_sure_46 : decode cX11_sure 46 = .ok (.if_icmp .le 7, 3) := by decide +kernel
theorem dX11_sure_49 : decode cX11_sure 49 = .ok (.iconst 1, 1) := by decide +kernel
theorem dX11_sure_50 : decode cX11_sure 50 = .ok (.goto 4, 3) := by decide +kernel
theorem dX11_sure_53 : decode cX11_sure 53 = .ok (.iconst 0, 1) := by decide +kernel
theorem dX11_sure_54 : decode cX11_sure 54 = .ok (.ireturn, 1) := by decide +kernel
theorem dX11_unrow_0 : decode cX11_unrow 0 = .ok (.aload_n 0, 1) := by decide +kernel
theorem dX11_unrow_1 : decode cX11_unrow 1 = .ok (.getfield 300, 3) := by decide +kernel
theorem dX11_unrow_4 : decode cX11_unrow 4 = .ok (.ifCond .ne 6, 3) := by decide +kernel
theorem dX11_unrow_7 : decode cX11_unrow 7 = .ok (.bipush (-2), 2) := by decide +kernel
theorem dX11_unrow_9 : decode cX11_unrow 9 = .ok (.ireturn, 1) := by decide +kernel
theorem dX11_unrow_10 : decode cX11_unrow 10 = .ok (.aload_n 0, 1) := by decide +kernel
theorem dX11_unrow_11 : decode cX11_unrow 11 = .ok (.dup, 1) := by decide +kernel
theorem dX11_unrow_12 : decode cX11_unrow 12 = .ok (.getfield 300, 3) := by decide +kernel
theorem dX11_unrow_15 : decode cX11_unrow 15 = .ok (.iconst 1, 1) := by decide +kernel
theorem dX11_unrow_16 : decode cX11_unrow 16 = .ok (.isub, 1) := by decide +kernel
theorem dX11_unrow_17 : decode cX11_unrow 17 = .ok (.putfield 300, 3) := by decide +kernel
theorem dX11_unrow_20 : decode cX11_unrow 20 = .ok (.aload_n 0, 1) := by decide +kernel
theorem dX11_unrow_21 : decode cX11_unrow 21 = .ok (.getfield 300, 3) := by decide +kernel
theorem dX11_unrow_24 : decode cX11_unrow 24 = .ok (.ireturn, 1) := by decide +kernel
theorem dX11_column_0 : decode cX11_column 0 = .ok (.iload_n 0, 1) := by decide +kernel
theorem dX11_column_1 : decode cX11_column 1 = .ok (.sipush 1000, 3) := by decide +kernel
theorem dX11_column_4 : decode cX11_column 4 = .ok (.iadd, 1) := by decide +kernel
theorem dX11_column_5 : decode cX11_column 5 = .ok (.istore_n 1, 1) := by decide +kernel
theorem dX11_column_6 : decode cX11_column 6 = .ok (.iload_n 1, 1) := by decide +kernel
theorem dX11_column_7 : decode cX11_column 7 = .ok (.ifCond .ge 7, 3) := by decide +kernel
theorem dX11_column_10 : decode cX11_column 10 = .ok (.iconst 0, 1) := by decide +kernel
theorem dX11_column_11 : decode cX11_column 11 = .ok (.goto 19, 3) := by decide +kernel
theorem dX11_column_14 : decode cX11_column 14 = .ok (.iload_n 1, 1) := by decide +kernel
theorem dX11_column_15 : decode cX11_column 15 = .ok (.sipush 2000, 3) := by decide +kernel
theorem dX11_column_18 : decode cX11_column 18 = .ok (.if_icmp .lt 7, 3) := by decide +kernel
theorem dX11_column_21 : decode cX11_column 21 = .ok (.iconst 4, 1) := by decide +kernel
theorem dX11_column_22 : decode cX11_column 22 = .ok (.goto 8, 3) := by decide +kernel
theorem dX11_column_25 : decode cX11_column 25 = .ok (.iload_n 1, 1) := by decide +kernel
theorem dX11_column_26 : decode cX11_column 26 = .ok (.sipush 400, 3) := by decide +kernel
theorem dX11_column_29 : decode cX11_column 29 = .ok (.idiv, 1) := by decide +kernel
theorem dX11_column_30 : decode cX11_column 30 = .ok (.ireturn, 1) := by decide +kernel
theorem dX11_seen_0 : decode cX11_seen 0 = .ok (.aload_n 0, 1) := by decide +kernel
theorem dX11_seen_1 : decode cX11_seen 1 = .ok (.getfield 240, 3) := by decide +kernel
theorem dX11_seen_4 : decode cX11_seen 4 = .ok (.ifCond .eq 17, 3) := by decide +kernel
theorem dX11_seen_7 : decode cX11_seen 7 = .ok (.iload_n 1, 1) := by decide +kernel
theorem dX11_seen_8 : decode cX11_seen 8 = .ok (.i2l, 1) := by decide +kernel
theorem dX11_seen_9 : decode cX11_seen 9 = .ok (.lconst 0, 1) := by decide +kernel
theorem dX11_seen_10 : decode cX11_seen 10 = .ok (.aload_n 0, 1) := by decide +kernel
theorem dX11_seen_11 : decode cX11_seen 11 = .ok (.getfield 243, 3) := by decide +kernel
theorem dX11_seen_14 : decode cX11_seen 14 = .ok (.i2l, 1) := by decide +kernel
theorem dX11_seen_15 : decode cX11_seen 15 = .ok (.invokestatic 127, 3) := by decide +kernel
theorem dX11_seen_18 : decode cX11_seen 18 = .ok (.ifCond .ne 5, 3) := by decide +kernel
theorem dX11_seen_21 : decode cX11_seen 21 = .ok (.iconst (-1), 1) := by decide +kernel
theorem dX11_seen_22 : decode cX11_seen 22 = .ok (.ireturn, 1) := by decide +kernel
theorem dX11_seen_23 : decode cX11_seen 23 = .ok (.aload_n 0, 1) := by decide +kernel
theorem dX11_seen_24 : decode cX11_seen 24 = .ok (.getfield 66, 3) := by decide +kernel
theorem dX11_seen_27 : decode cX11_seen 27 = .ok (.bipush 8, 2) := by decide +kernel
theorem dX11_seen_29 : decode cX11_seen 29 = .ok (.aload_n 0, 1) := by decide +kernel
theorem dX11_seen_30 : decode cX11_seen 30 = .ok (.getfield 243, 3) := by decide +kernel
theorem dX11_seen_33 : decode cX11_seen 33 = .ok (.imul, 1) := by decide +kernel
theorem dX11_seen_34 : decode cX11_seen 34 = .ok (.iaload, 1) := by decide +kernel
theorem dX11_seen_35 : decode cX11_seen 35 = .ok (.aload_n 0, 1) := by decide +kernel
theorem dX11_seen_36 : decode cX11_seen 36 = .ok (.getfield 66, 3) := by decide +kernel
theorem dX11_seen_39 : decode cX11_seen 39 = .ok (.bipush 8, 2) := by decide +kernel
theorem dX11_seen_41 : decode cX11_seen 41 = .ok (.iload_n 1, 1) := by decide +kernel
theorem dX11_seen_42 : decode cX11_seen 42 = .ok (.imul, 1) := by decide +kernel
theorem dX11_seen_43 : decode cX11_seen 43 = .ok (.iaload, 1) := by decide +kernel
theorem dX11_seen_44 : decode cX11_seen 44 = .ok (.isub, 1) := by decide +kernel
theorem dX11_seen_45 : decode cX11_seen 45 = .ok (.invokestatic 326, 3) := by decide +kernel
theorem dX11_seen_48 : decode cX11_seen 48 = .ok (.istore_n 2, 1) := by decide +kernel
theorem dX11_seen_49 : decode cX11_seen 49 = .ok (.aload_n 0, 1) := by decide +kernel
theorem dX11_seen_50 : decode cX11_seen 50 = .ok (.getfield 66, 3) := by decide +kernel
theorem dX11_seen_53 : decode cX11_seen 53 = .ok (.bipush 8, 2) := by decide +kernel
theorem dX11_seen_55 : decode cX11_seen 55 = .ok (.aload_n 0, 1) := by decide +kernel
theorem dX11_seen_56 : decode cX11_seen 56 = .ok (.getfield 243, 3) := by decide +kernel
theorem dX11_seen_59 : decode cX11_seen 59 = .ok (.imul, 1) := by decide +kernel
theorem dX11_seen_60 : decode cX11_seen 60 = .ok (.iconst 1, 1) := by decide +kernel
theorem dX11_seen_61 : decode cX11_seen 61 = .ok (.iadd, 1) := by decide +kernel
theorem dX11_seen_62 : decode cX11_seen 62 = .ok (.iaload, 1) := by decide +kernel
theorem dX11_seen_63 : decode cX11_seen 63 = .ok (.aload_n 0, 1) := by decide +kernel
theorem dX11_seen_64 : decode cX11_seen 64 = .ok (.getfield 66, 3) := by decide +kernel
theorem dX11_seen_67 : decode cX11_seen 67 = .ok (.bipush 8, 2) := by decide +kernel
theorem dX11_seen_69 : decode cX11_seen 69 = .ok (.iload_n 1, 1) := by decide +kernel
theorem dX11_seen_70 : decode cX11_seen 70 = .ok (.imul, 1) := by decide +kernel
theorem dX11_seen_71 : decode cX11_seen 71 = .ok (.iconst 1, 1) := by decide +kernel
theorem dX11_seen_72 : decode cX11_seen 72 = .ok (.iadd, 1) := by decide +kernel
theorem dX11_seen_73 : decode cX11_seen 73 = .ok (.iaload, 1) := by decide +kernel
theorem dX11_seen_74 : decode cX11_seen 74 = .ok (.isub, 1) := by decide +kernel
theorem dX11_seen_75 : decode cX11_seen 75 = .ok (.invokestatic 326, 3) := by decide +kernel
theorem dX11_seen_78 : decode cX11_seen 78 = .ok (.istore_n 3, 1) := by decide +kernel
theorem dX11_seen_79 : decode cX11_seen 79 = .ok (.iconst 0, 1) := by decide +kernel
theorem dX11_seen_80 : decode cX11_seen 80 = .ok (.istore 4, 2) := by decide +kernel
theorem dX11_seen_82 : decode cX11_seen 82 = .ok (.iload 4, 2) := by decide +kernel
theorem dX11_seen_84 : decode cX11_seen 84 = .ok (.bipush 25, 2) := by decide +kernel
theorem dX11_seen_86 : decode cX11_seen 86 = .ok (.if_icmp .ge 41, 3) := by decide +kernel
theorem dX11_seen_89 : decode cX11_seen 89 = .ok (.aload_n 0, 1) := by decide +kernel
theorem dX11_seen_90 : decode cX11_seen 90 = .ok (.getfield 105, 3) := by decide +kernel
theorem dX11_seen_93 : decode cX11_seen 93 = .ok (.iload 4, 2) := by decide +kernel
theorem dX11_seen_95 : decode cX11_seen 95 = .ok (.sipush 1000, 3) := by decide +kernel
theorem dX11_seen_98 : decode cX11_seen 98 = .ok (.iconst 1, 1) := by decide +kernel
theorem dX11_seen_99 : decode cX11_seen 99 = .ok (.iload 4, 2) := by decide +kernel
theorem dX11_seen_101 : decode cX11_seen 101 = .ok (.iconst 5, 1) := by decide +kernel
theorem dX11_seen_102 : decode cX11_seen 102 = .ok (.irem, 1) := by decide +kernel
theorem dX11_seen_103 : decode cX11_seen 103 = .ok (.iload_n 2, 1) := by decide +kernel
theorem dX11_seen_104 : decode cX11_seen 104 = .ok (.isub, 1) := by decide +kernel
theorem dX11_seen_105 : decode cX11_seen 105 = .ok (.invokestatic 311, 3) := by decide +kernel
theorem dX11_seen_108 : decode cX11_seen 108 = .ok (.iadd, 1) := by decide +kernel
theorem dX11_seen_109 : decode cX11_seen 109 = .ok (.iload 4, 2) := by decide +kernel
theorem dX11_seen_111 : decode cX11_seen 111 = .ok (.iconst 5, 1) := by decide +kernel
theorem dX11_seen_112 : decode cX11_seen 112 = .ok (.idiv, 1) := by decide +kernel
theorem dX11_seen_113 : decode cX11_seen 113 = .ok (.iload_n 3, 1) := by decide +kernel
theorem dX11_seen_114 : decode cX11_seen 114 = .ok (.isub, 1) := by decide +kernel
theorem dX11_seen_115 : decode cX11_seen 115 = .ok (.invokestatic 311, 3) := by decide +kernel
theorem dX11_seen_118 : decode cX11_seen 118 = .ok (.iadd, 1) := by decide +kernel
theorem dX11_seen_119 : decode cX11_seen 119 = .ok (.idiv, 1) := by decide +kernel
theorem dX11_seen_120 : decode cX11_seen 120 = .ok (.iastore, 1) := by decide +kernel
theorem dX11_seen_121 : decode cX11_seen 121 = .ok (.iinc 4 1, 3) := by decide +kernel
theorem dX11_seen_124 : decode cX11_seen 124 = .ok (.goto (-42), 3) := by decide +kernel
theorem dX11_seen_127 : decode cX11_seen 127 = .ok (.iconst 5, 1) := by decide +kernel
theorem dX11_seen_128 : decode cX11_seen 128 = .ok (.iload_n 3, 1) := by decide +kernel
theorem dX11_seen_129 : decode cX11_seen 129 = .ok (.imul, 1) := by decide +kernel
theorem dX11_seen_130 : decode cX11_seen 130 = .ok (.iload_n 2, 1) := by decide +kernel
theorem dX11_seen_131 : decode cX11_seen 131 = .ok (.iadd, 1) := by decide +kernel
theorem dX11_seen_132 : decode cX11_seen 132 = .ok (.ireturn, 1) := by decide +kernel
theorem dX11_isPatch_0 : decode cX11_isPatch 0 = .ok (.iload_n 0, 1) := by decide +kernel
theorem dX11_isPatch_1 : decode cX11_isPatch 1 = .ok (.i2l, 1) := by decide +kernel
theorem dX11_isPatch_2 : decode cX11_isPatch 2 = .ok (.lconst 0, 1) := by decide +kernel
theorem dX11_isPatch_3 : decode cX11_isPatch 3 = .ok (.ldc2_w 329, 3) := by decide +kernel
theorem dX11_isPatch_6 : decode cX11_isPatch 6 = .ok (.invokestatic 127, 3) := by decide +kernel
theorem dX11_isPatch_9 : decode cX11_isPatch 9 = .ok (.ireturn, 1) := by decide +kernel
theorem dX11_patch_0 : decode cX11_patch 0 = .ok (.iload_n 1, 1) := by decide +kernel
theorem dX11_patch_1 : decode cX11_patch 1 = .ok (.invokestatic 331, 3) := by decide +kernel
theorem dX11_patch_4 : decode cX11_patch 4 = .ok (.ifCond .eq 27, 3) := by decide +kernel
theorem dX11_patch_7 : decode cX11_patch 7 = .ok (.iload_n 2, 1) := by decide +kernel
theorem dX11_patch_8 : decode cX11_patch 8 = .ok (.i2l, 1) := by decide +kernel
theorem dX11_patch_9 : decode cX11_patch 9 = .ok (.lconst 0, 1) := by decide +kernel
theorem dX11_patch_10 : decode cX11_patch 10 = .ok (.ldc2_w 227, 3) := by decide +kernel
theorem dX11_patch_13 : decode cX11_patch 13 = .ok (.invokestatic 127, 3) := by decide +kernel
theorem dX11_patch_16 : decode cX11_patch 16 = .ok (.ifCond .eq 15, 3) := by decide +kernel
theorem dX11_patch_19 : decode cX11_patch 19 = .ok (.iload_n 3, 1) := by decide +kernel
theorem dX11_patch_20 : decode cX11_patch 20 = .ok (.i2l, 1) := by decide +kernel
theorem dX11_patch_21 : decode cX11_patch 21 = .ok (.lconst 1, 1) := by decide +kernel
theorem dX11_patch_22 : decode cX11_patch 22 = .ok (.ldc2_w 163, 3) := by decide +kernel
theorem dX11_patch_25 : decode cX11_patch 25 = .ok (.invokestatic 127, 3) := by decide +kernel
theorem dX11_patch_28 : decode cX11_patch 28 = .ok (.ifCond .ne 5, 3) := by decide +kernel
theorem dX11_patch_31 : decode cX11_patch 31 = .ok (.iconst (-1), 1) := by decide +kernel
theorem dX11_patch_32 : decode cX11_patch 32 = .ok (.ireturn, 1) := by decide +kernel
theorem dX11_patch_33 : decode cX11_patch 33 = .ok (.aload_n 0, 1) := by decide +kernel
theorem dX11_patch_34 : decode cX11_patch 34 = .ok (.getfield 105, 3) := by decide +kernel
theorem dX11_patch_37 : decode cX11_patch 37 = .ok (.iload_n 1, 1) := by decide +kernel
theorem dX11_patch_38 : decode cX11_patch 38 = .ok (.iaload, 1) := by decide +kernel
theorem dX11_patch_39 : decode cX11_patch 39 = .ok (.istore 4, 2) := by decide +kernel
theorem dX11_patch_41 : decode cX11_patch 41 = .ok (.aload_n 0, 1) := by decide +kernel
theorem dX11_patch_42 : decode cX11_patch 42 = .ok (.getfield 105, 3) := by decide +kernel
theorem dX11_patch_45 : decode cX11_patch 45 = .ok (.iload_n 1, 1) := by decide +kernel
theorem dX11_patch_46 : decode cX11_patch 46 = .ok (.iload_n 2, 1) := by decide +kernel
theorem dX11_patch_47 : decode cX11_patch 47 = .ok (.iastore, 1) := by decide +kernel
theorem dX11_patch_48 : decode cX11_patch 48 = .ok (.aload_n 0, 1) := by decide +kernel
theorem dX11_patch_49 : decode cX11_patch 49 = .ok (.getfield 108, 3) := by decide +kernel
theorem dX11_patch_52 : decode cX11_patch 52 = .ok (.iload_n 1, 1) := by decide +kernel
theorem dX11_patch_53 : decode cX11_patch 53 = .ok (.iload_n 3, 1) := by decide +kernel
theorem dX11_patch_54 : decode cX11_patch 54 = .ok (.iastore, 1) := by decide +kernel
theorem dX11_patch_55 : decode cX11_patch 55 = .ok (.iload 4, 2) := by decide +kernel
theorem dX11_patch_57 : decode cX11_patch 57 = .ok (.ireturn, 1) := by decide +kernel
theorem dX11_grass_0 : decode cX11_grass 0 = .ok (.iload_n 1, 1) := by decide +kernel
theorem dX11_grass_1 : decode cX11_grass 1 = .ok (.invokestatic 331, 3) := by decide +kernel
theorem dX11_grass_4 : decode cX11_grass 4 = .ok (.ifCond .eq 13, 3) := by decide +kernel
theorem dX11_grass_7 : decode cX11_grass 7 = .ok (.iload_n 2, 1) := by decide +kernel
theorem dX11_grass_8 : decode cX11_grass 8 = .ok (.i2l, 1) := by decide +kernel
theorem dX11_grass_9 : decode cX11_grass 9 = .ok (.lconst 0, 1) := by decide +kernel
theorem dX11_grass_10 : decode cX11_grass 10 = .ok (.lconst 1, 1) := by decide +kernel
theorem dX11_grass_11 : decode cX11_grass 11 = .ok (.invokestatic 127, 3) := by decide +kernel
theorem dX11_grass_14 : decode cX11_grass 14 = .ok (.ifCond .ne 5, 3) := by decide +kernel
theorem dX11_grass_17 : decode cX11_grass 17 = .ok (.iconst (-1), 1) := by decide +kernel
theorem dX11_grass_18 : decode cX11_grass 18 = .ok (.ireturn, 1) := by decide +kernel
theorem dX11_grass_19 : decode cX11_grass 19 = .ok (.iload_n 2, 1) := by decide +kernel
theorem dX11_grass_20 : decode cX11_grass 20 = .ok (.ifCond .ne 12, 3) := by decide +kernel
theorem dX11_grass_23 : decode cX11_grass 23 = .ok (.aload_n 0, 1) := by decide +kernel
theorem dX11_grass_24 : decode cX11_grass 24 = .ok (.getfield 105, 3) := by decide +kernel
theorem dX11_grass_27 : decode cX11_grass 27 = .ok (.iload_n 1, 1) := by decide +kernel
theorem dX11_grass_28 : decode cX11_grass 28 = .ok (.iaload, 1) := by decide +kernel
theorem dX11_grass_29 : decode cX11_grass 29 = .ok (.goto 9, 3) := by decide +kernel
theorem dX11_grass_32 : decode cX11_grass 32 = .ok (.aload_n 0, 1) := by decide +kernel
theorem dX11_grass_33 : decode cX11_grass 33 = .ok (.getfield 108, 3) := by decide +kernel
theorem dX11_grass_36 : decode cX11_grass 36 = .ok (.iload_n 1, 1) := by decide +kernel
theorem dX11_grass_37 : decode cX11_grass 37 = .ok (.iaload, 1) := by decide +kernel
theorem dX11_grass_38 : decode cX11_grass 38 = .ok (.ireturn, 1) := by decide +kernel
theorem dX11_next_0 : decode cX11_next 0 = .ok (.bipush (-4), 2) := by decide +kernel
theorem dX11_next_2 : decode cX11_next 2 = .ok (.istore_n 1, 1) := by decide +kernel
theorem dX11_next_3 : decode cX11_next 3 = .ok (.iconst 0, 1) := by decide +kernel
theorem dX11_next_4 : decode cX11_next 4 = .ok (.istore_n 2, 1) := by decide +kernel
theorem dX11_next_5 : decode cX11_next 5 = .ok (.iconst 0, 1) := by decide +kernel
theorem dX11_next_6 : decode cX11_next 6 = .ok (.istore_n 3, 1) := by decide +kernel
theorem dX11_next_7 : decode cX11_next 7 = .ok (.iload_n 3, 1) := by decide +kernel
theorem dX11_next_8 : decode cX11_next 8 = .ok (.bipush 25, 2) := by decide +kernel
theorem dX11_next_10 : decode cX11_next 10 = .ok (.if_icmp .ge 49, 3) := by decide +kernel
theorem dX11_next_13 : decode cX11_next 13 = .ok (.aload_n 0, 1) := by decide +kernel
theorem dX11_next_14 : decode cX11_next 14 = .ok (.getfield 105, 3) := by decide +kernel
theorem dX11_next_17 : decode cX11_next 17 = .ok (.iload_n 3, 1) := by decide +kernel
theorem dX11_next_18 : decode cX11_next 18 = .ok (.iaload, 1) := by decide +kernel
theorem dX11_next_19 : decode cX11_next 19 = .ok (.aload_n 0, 1) := by decide +kernel
theorem dX11_next_20 : decode cX11_next 20 = .ok (.getfield 108, 3) := by decide +kernel
theorem dX11_next_23 : decode cX11_next 23 = .ok (.iload_n 3, 1) := by decide +kernel
theorem dX11_next_24 : decode cX11_next 24 = .ok (.iaload, 1) := by decide +kernel
theorem dX11_next_25 : decode cX11_next 25 = .ok (.imul, 1) := by decide +kernel
theorem dX11_next_26 : decode cX11_next 26 = .ok (.istore 4, 2) := by decide +kernel
theorem dX11_next_28 : decode cX11_next 28 = .ok (.iload 4, 2) := by decide +kernel
theorem dX11_next_30 : decode cX11_next 30 = .ok (.iload_n 2, 1) := by decide +kernel
theorem dX11_next_31 : decode cX11_next 31 = .ok (.if_icmp .le 7, 3) := by decide +kernel
theorem dX11_next_34 : decode cX11_next 34 = .ok (.iload_n 3, 1) := by decide +kernel
theorem dX11_next_35 : decode cX11_next 35 = .ok (.goto 4, 3) := by decide +kernel
theorem dX11_next_38 : decode cX11_next 38 = .ok (.iload_n 1, 1) := by decide +kernel
theorem dX11_next_39 : decode cX11_next 39 = .ok (.istore_n 1, 1) := by decide +kernel
theorem dX11_next_40 : decode cX11_next 40 = .ok (.iload 4, 2) := by decide +kernel
theorem dX11_next_42 : decode cX11_next 42 = .ok (.iload_n 2, 1) := by decide +kernel
theorem dX11_next_43 : decode cX11_next 43 = .ok (.if_icmp .le 8, 3) := by decide +kernel
theorem dX11_next_46 : decode cX11_next 46 = .ok (.iload 4, 2) := by decide +kernel
theorem dX11_next_48 : decode cX11_next 48 = .ok (.goto 4, 3) := by decide +kernel
theorem dX11_next_51 : decode cX11_next 51 = .ok (.iload_n 2, 1) := by decide +kernel
theorem dX11_next_52 : decode cX11_next 52 = .ok (.istore_n 2, 1) := by decide +kernel
theorem dX11_next_53 : decode cX11_next 53 = .ok (.iinc 3 1, 3) := by decide +kernel
theorem dX11_next_56 : decode cX11_next 56 = .ok (.goto (-49), 3) := by decide +kernel
theorem dX11_next_59 : decode cX11_next 59 = .ok (.iload_n 1, 1) := by decide +kernel
theorem dX11_next_60 : decode cX11_next 60 = .ok (.ireturn, 1) := by decide +kernel
theorem dX11_search_0 : decode cX11_search 0 = .ok (.iload_n 1, 1) := by decide +kernel
theorem dX11_search_1 : decode cX11_search 1 = .ok (.invokestatic 331, 3) := by decide +kernel
theorem dX11_search_4 : decode cX11_search 4 = .ok (.ifCond .ne 5, 3) := by decide +kernel
theorem dX11_search_7 : decode cX11_search 7 = .ok (.iconst (-1), 1) := by decide +kernel
theorem dX11_search_8 : decode cX11_search 8 = .ok (.ireturn, 1) := by decide +kernel
theorem dX11_search_9 : decode cX11_search 9 = .ok (.aload_n 0, 1) := by decide +kernel
theorem dX11_search_10 : decode cX11_search 10 = .ok (.getfield 105, 3) := by decide +kernel
theorem dX11_search_13 : decode cX11_search 13 = .ok (.iload_n 1, 1) := by decide +kernel
theorem dX11_search_14 : decode cX11_search 14 = .ok (.bipush 10, 2) := by decide +kernel
theorem dX11_search_16 : decode cX11_search 16 = .ok (.aload_n 0, 1) := by decide +kernel
theorem dX11_search_17 : decode cX11_search 17 = .ok (.getfield 108, 3) := by decide +kernel
theorem dX11_search_20 : decode cX11_search 20 = .ok (.iload_n 1, 1) := by decide +kernel
theorem dX11_search_21 : decode cX11_search 21 = .ok (.iaload, 1) := by decide +kernel
theorem dX11_search_22 : decode cX11_search 22 = .ok (.isub, 1) := by decide +kernel
theorem dX11_search_23 : decode cX11_search 23 = .ok (.aload_n 0, 1) := by decide +kernel
theorem dX11_search_24 : decode cX11_search 24 = .ok (.getfield 105, 3) := by decide +kernel
theorem dX11_search_27 : decode cX11_search 27 = .ok (.iload_n 1, 1) := by decide +kernel
theorem dX11_search_28 : decode cX11_search 28 = .ok (.iaload, 1) := by decide +kernel
theorem dX11_search_29 : decode cX11_search 29 = .ok (.imul, 1) := by decide +kernel
theorem dX11_search_30 : decode cX11_search 30 = .ok (.bipush 10, 2) := by decide +kernel
theorem dX11_search_32 : decode cX11_search 32 = .ok (.idiv, 1) := by decide +kernel
theorem dX11_search_33 : decode cX11_search 33 = .ok (.iastore, 1) := by decide +kernel
theorem dX11_search_34 : decode cX11_search 34 = .ok (.aload_n 0, 1) := by decide +kernel
theorem dX11_search_35 : decode cX11_search 35 = .ok (.getfield 105, 3) := by decide +kernel
theorem dX11_search_38 : decode cX11_search 38 = .ok (.iload_n 1, 1) := by decide +kernel
theorem dX11_search_39 : decode cX11_search 39 = .ok (.iaload, 1) := by decide +kernel
theorem dX11_search_40 : decode cX11_search 40 = .ok (.ireturn, 1) := by decide +kernel
theorem dX11_count_0 : decode cX11_count 0 = .ok (.iconst 0, 1) := by decide +kernel
theorem dX11_count_1 : decode cX11_count 1 = .ok (.istore_n 2, 1) := by decide +kernel
theorem dX11_count_2 : decode cX11_count 2 = .ok (.iconst 0, 1) := by decide +kernel
theorem dX11_count_3 : decode cX11_count 3 = .ok (.istore_n 3, 1) := by decide +kernel
theorem dX11_count_4 : decode cX11_count 4 = .ok (.iload_n 3, 1) := by decide +kernel
theorem dX11_count_5 : decode cX11_count 5 = .ok (.iconst 5, 1) := by decide +kernel
theorem dX11_count_6 : decode cX11_count 6 = .ok (.if_icmp .ge 27, 3) := by decide +kernel
theorem dX11_count_9 : decode cX11_count 9 = .ok (.iload_n 2, 1) := by decide +kernel
theorem dX11_count_10 : decode cX11_count 10 = .ok (.aload_n 0, 1) := by decide +kernel
theorem dX11_count_11 : decode cX11_count 11 = .ok (.getfield 78, 3) := by decide +kernel
theorem dX11_count_14 : decode cX11_count 14 = .ok (.iload_n 3, 1) := by decide +kernel
theorem dX11_count_15 : decode cX11_count 15 = .ok (.iaload, 1) := by decide +kernel
theorem dX11_count_16 : decode cX11_count 16 = .ok (.iconst (-1), 1) := by decide +kernel
theorem dX11_count_17 : decode cX11_count 17 = .ok (.if_icmp .lt 7, 3) := by decide +kernel
theorem dX11_count_20 : decode cX11_count 20 = .ok (.iconst 1, 1) := by decide +kernel
theorem dX11_count_21 : decode cX11_count 21 = .ok (.goto 4, 3) := by decide +kernel
theorem dX11_count_24 : decode cX11_count 24 = .ok (.iconst 0, 1) := by decide +kernel
theorem dX11_count_25 : decode cX11_count 25 = .ok (.iadd, 1) := by decide +kernel
theorem dX11_count_26 : decode cX11_count 26 = .ok (.istore_n 2, 1) := by decide +kernel
theorem dX11_count_27 : decode cX11_count 27 = .ok (.iinc 3 1, 3) := by decide +kernel
theorem dX11_count_30 : decode cX11_count 30 = .ok (.goto (-26), 3) := by decide +kernel
theorem dX11_count_33 : decode cX11_count 33 = .ok (.iload_n 1, 1) := by decide +kernel
theorem dX11_count_34 : decode cX11_count 34 = .ok (.tableswitch 65 0 5 #[38, 43, 48, 53, 58, 63], 38) := by decide +kernel
theorem dX11_count_72 : decode cX11_count 72 = .ok (.aload_n 0, 1) := by decide +kernel
theorem dX11_count_73 : decode cX11_count 73 = .ok (.getfield 144, 3) := by decide +kernel
theorem dX11_count_76 : decode cX11_count 76 = .ok (.ireturn, 1) := by decide +kernel
theorem dX11_count_77 : decode cX11_count 77 = .ok (.aload_n 0, 1) := by decide +kernel
theorem dX11_count_78 : decode cX11_count 78 = .ok (.invokevirtual 283, 3) := by decide +kernel
theorem dX11_count_81 : decode cX11_count 81 = .ok (.ireturn, 1) := by decide +kernel
theorem dX11_count_82 : decode cX11_count 82 = .ok (.aload_n 0, 1) := by decide +kernel
theorem dX11_count_83 : decode cX11_count 83 = .ok (.getfield 165, 3) := by decide +kernel
theorem dX11_count_86 : decode cX11_count 86 = .ok (.ireturn, 1) := by decide +kernel
theorem dX11_count_87 : decode cX11_count 87 = .ok (.aload_n 0, 1) := by decide +kernel
theorem dX11_count_88 : decode cX11_count 88 = .ok (.getfield 180, 3) := by decide +kernel
theorem dX11_count_91 : decode cX11_count 91 = .ok (.ireturn, 1) := by decide +kernel
theorem dX11_count_92 : decode cX11_count 92 = .ok (.aload_n 0, 1) := by decide +kernel
theorem dX11_count_93 : decode cX11_count 93 = .ok (.getfield 300, 3) := by decide +kernel
theorem dX11_count_96 : decode cX11_count 96 = .ok (.ireturn, 1) := by decide +kernel
theorem dX11_count_97 : decode cX11_count 97 = .ok (.iload_n 2, 1) := by decide +kernel
theorem dX11_count_98 : decode cX11_count 98 = .ok (.ireturn, 1) := by decide +kernel
theorem dX11_count_99 : decode cX11_count 99 = .ok (.iconst (-1), 1) := by decide +kernel
theorem dX11_count_100 : decode cX11_count 100 = .ok (.ireturn, 1) := by decide +kernel
theorem dX11_isSheet_0 : decode cX11_isSheet 0 = .ok (.iload_n 0, 1) := by decide +kernel
theorem dX11_isSheet_1 : decode cX11_isSheet 1 = .ok (.i2l, 1) := by decide +kernel
theorem dX11_isSheet_2 : decode cX11_isSheet 2 = .ok (.lconst 0, 1) := by decide +kernel
theorem dX11_isSheet_3 : decode cX11_isSheet 3 = .ok (.ldc2_w 157, 3) := by decide +kernel
theorem dX11_isSheet_6 : decode cX11_isSheet 6 = .ok (.invokestatic 127, 3) := by decide +kernel
theorem dX11_isSheet_9 : decode cX11_isSheet 9 = .ok (.ireturn, 1) := by decide +kernel
theorem dX11_isLane_0 : decode cX11_isLane 0 = .ok (.iload_n 0, 1) := by decide +kernel
theorem dX11_isLane_1 : decode cX11_isLane 1 = .ok (.i2l, 1) := by decide +kernel
theorem dX11_isLane_2 : decode cX11_isLane 2 = .ok (.lconst 0, 1) := by decide +kernel
theorem dX11_isLane_3 : decode cX11_isLane 3 = .ok (.ldc2_w 267, 3) := by decide +kernel
theorem dX11_isLane_6 : decode cX11_isLane 6 = .ok (.invokestatic 127, 3) := by decide +kernel
theorem dX11_isLane_9 : decode cX11_isLane 9 = .ok (.ireturn, 1) := by decide +kernel
theorem dX11_sheet_0 : decode cX11_sheet 0 = .ok (.iload_n 1, 1) := by decide +kernel
theorem dX11_sheet_1 : decode cX11_sheet 1 = .ok (.invokestatic 334, 3) := by decide +kernel
theorem dX11_sheet_4 : decode cX11_sheet 4 = .ok (.ifCond .eq 16, 3) := by decide +kernel
theorem dX11_sheet_7 : decode cX11_sheet 7 = .ok (.iload_n 2, 1) := by decide +kernel
theorem dX11_sheet_8 : decode cX11_sheet 8 = .ok (.invokestatic 337, 3) := by decide +kernel
theorem dX11_sheet_11 : decode cX11_sheet 11 = .ok (.ifCond .eq 9, 3) := by decide +kernel
theorem dX11_sheet_14 : decode cX11_sheet 14 = .ok (.iload_n 3, 1) := by decide +kernel
theorem dX11_sheet_15 : decode cX11_sheet 15 = .ok (.bipush 60, 2) := by decide +kernel
theorem dX11_sheet_17 : decode cX11_sheet 17 = .ok (.if_icmp .le 5, 3) := by decide +kernel
theorem dX11_sheet_20 : decode cX11_sheet 20 = .ok (.iconst (-1), 1) := by decide +kernel
theorem dX11_sheet_21 : decode cX11_sheet 21 = .ok (.ireturn, 1) := by decide +kernel
theorem dX11_sheet_22 : decode cX11_sheet 22 = .ok (.iload_n 3, 1) := by decide +kernel
theorem dX11_sheet_23 : decode cX11_sheet 23 = .ok (.ifCond .ge 6, 3) := by decide +kernel
theorem dX11_sheet_26 : decode cX11_sheet 26 = .ok (.bipush (-14), 2) := by decide +kernel
theorem dX11_sheet_28 : decode cX11_sheet 28 = .ok (.ireturn, 1) := by decide +kernel
theorem dX11_sheet_29 : decode cX11_sheet 29 = .ok (.aload_n 0, 1) := by decide +kernel
theorem dX11_sheet_30 : decode cX11_sheet 30 = .ok (.getfield 111, 3) := by decide +kernel
theorem dX11_sheet_33 : decode cX11_sheet 33 = .ok (.iload_n 1, 1) := by decide +kernel
theorem dX11_sheet_34 : decode cX11_sheet 34 = .ok (.iload_n 2, 1) := by decide +kernel
theorem dX11_sheet_35 : decode cX11_sheet 35 = .ok (.iastore, 1) := by decide +kernel
theorem dX11_sheet_36 : decode cX11_sheet 36 = .ok (.aload_n 0, 1) := by decide +kernel
theorem dX11_sheet_37 : decode cX11_sheet 37 = .ok (.getfield 114, 3) := by decide +kernel
theorem dX11_sheet_40 : decode cX11_sheet 40 = .ok (.iload_n 1, 1) := by decide +kernel
theorem dX11_sheet_41 : decode cX11_sheet 41 = .ok (.iload_n 3, 1) := by decide +kernel
theorem dX11_sheet_42 : decode cX11_sheet 42 = .ok (.iastore, 1) := by decide +kernel
theorem dX11_sheet_43 : decode cX11_sheet 43 = .ok (.iconst 0, 1) := by decide +kernel
theorem dX11_sheet_44 : decode cX11_sheet 44 = .ok (.istore 4, 2) := by decide +kernel
theorem dX11_sheet_46 : decode cX11_sheet 46 = .ok (.iload 4, 2) := by decide +kernel
theorem dX11_sheet_48 : decode cX11_sheet 48 = .ok (.bipush 60, 2) := by decide +kernel
theorem dX11_sheet_50 : decode cX11_sheet 50 = .ok (.if_icmp .ge 22, 3) := by decide +kernel
theorem dX11_sheet_53 : decode cX11_sheet 53 = .ok (.aload_n 0, 1) := by decide +kernel
theorem dX11_sheet_54 : decode cX11_sheet 54 = .ok (.getfield 117, 3) := by decide +kernel
theorem dX11_sheet_57 : decode cX11_sheet 57 = .ok (.bipush 60, 2) := by decide +kernel
theorem dX11_sheet_59 : decode cX11_sheet 59 = .ok (.iload_n 1, 1) := by decide +kernel
theorem dX11_sheet_60 : decode cX11_sheet 60 = .ok (.imul, 1) := by decide +kernel
theorem dX11_sheet_61 : decode cX11_sheet 61 = .ok (.iload 4, 2) := by decide +kernel
theorem dX11_sheet_63 : decode cX11_sheet 63 = .ok (.iadd, 1) := by decide +kernel
theorem dX11_sheet_64 : decode cX11_sheet 64 = .ok (.iconst 0, 1) := by decide +kernel
theorem dX11_sheet_65 : decode cX11_sheet 65 = .ok (.iastore, 1) := by decide +kernel
theorem dX11_sheet_66 : decode cX11_sheet 66 = .ok (.iinc 4 1, 3) := by decide +kernel
theorem dX11_sheet_69 : decode cX11_sheet 69 = .ok (.goto (-23), 3) := by decide +kernel
theorem dX11_sheet_72 : decode cX11_sheet 72 = .ok (.iload_n 3, 1) := by decide +kernel
theorem dX11_sheet_73 : decode cX11_sheet 73 = .ok (.ireturn, 1) := by decide +kernel
theorem dX11_drop_0 : decode cX11_drop 0 = .ok (.iload_n 1, 1) := by decide +kernel
theorem dX11_drop_1 : decode cX11_drop 1 = .ok (.invokestatic 334, 3) := by decide +kernel
theorem dX11_drop_4 : decode cX11_drop 4 = .ok (.ifCond .ne 5, 3) := by decide +kernel
theorem dX11_drop_7 : decode cX11_drop 7 = .ok (.iconst (-1), 1) := by decide +kernel
theorem dX11_drop_8 : decode cX11_drop 8 = .ok (.ireturn, 1) := by decide +kernel
theorem dX11_drop_9 : decode cX11_drop 9 = .ok (.aload_n 0, 1) := by decide +kernel
theorem dX11_drop_10 : decode cX11_drop 10 = .ok (.getfield 111, 3) := by decide +kernel
theorem dX11_drop_13 : decode cX11_drop 13 = .ok (.iload_n 1, 1) := by decide +kernel
theorem dX11_drop_14 : decode cX11_drop 14 = .ok (.iaload, 1) := by decide +kernel
theorem dX11_drop_15 : decode cX11_drop 15 = .ok (.ifCond .ge 6, 3) := by decide +kernel
theorem dX11_drop_18 : decode cX11_drop 18 = .ok (.bipush (-11), 2) := by decide +kernel
theorem dX11_drop_20 : decode cX11_drop 20 = .ok (.ireturn, 1) := by decide +kernel
theorem dX11_drop_21 : decode cX11_drop 21 = .ok (.aload_n 0, 1) := by decide +kernel
theorem dX11_drop_22 : decode cX11_drop 22 = .ok (.getfield 111, 3) := by decide +kernel
theorem dX11_drop_25 : decode cX11_drop 25 = .ok (.iload_n 1, 1) := by decide +kernel
theorem dX11_drop_26 : decode cX11_drop 26 = .ok (.iconst (-1), 1) := by decide +kernel
theorem dX11_drop_27 : decode cX11_drop 27 = .ok (.iastore, 1) := by decide +kernel
theorem dX11_drop_28 : decode cX11_drop 28 = .ok (.aload_n 0, 1) := by decide +kernel
theorem dX11_drop_29 : decode cX11_drop 29 = .ok (.getfield 114, 3) := by decide +kernel
theorem dX11_drop_32 : decode cX11_drop 32 = .ok (.iload_n 1, 1) := by decide +kernel
theorem dX11_drop_33 : decode cX11_drop 33 = .ok (.iaload, 1) := by decide +kernel
theorem dX11_drop_34 : decode cX11_drop 34 = .ok (.ireturn, 1) := by decide +kernel
theorem dX11_finds_0 : decode cX11_finds 0 = .ok (.aload_n 0, 1) := by decide +kernel
theorem dX11_finds_1 : decode cX11_finds 1 = .ok (.getfield 111, 3) := by decide +kernel
theorem dX11_finds_4 : decode cX11_finds 4 = .ok (.iload_n 1, 1) := by decide +kernel
theorem dX11_finds_5 : decode cX11_finds 5 = .ok (.iaload, 1) := by decide +kernel
theorem dX11_finds_6 : decode cX11_finds 6 = .ok (.ifCond .ge 6, 3) := by decide +kernel
theorem dX11_finds_9 : decode cX11_finds 9 = .ok (.bipush (-11), 2) := by decide +kernel
theorem dX11_finds_11 : decode cX11_finds 11 = .ok (.ireturn, 1) := by decide +kernel
theorem dX11_finds_12 : decode cX11_finds 12 = .ok (.aload_n 0, 1) := by decide +kernel
theorem dX11_finds_13 : decode cX11_finds 13 = .ok (.getfield 111, 3) := by decide +kernel
theorem dX11_finds_16 : decode cX11_finds 16 = .ok (.iload_n 1, 1) := by decide +kernel
theorem dX11_finds_17 : decode cX11_finds 17 = .ok (.iaload, 1) := by decide +kernel
theorem dX11_finds_18 : decode cX11_finds 18 = .ok (.iload_n 2, 1) := by decide +kernel
theorem dX11_finds_19 : decode cX11_finds 19 = .ok (.if_icmp .eq 6, 3) := by decide +kernel
theorem dX11_finds_22 : decode cX11_finds 22 = .ok (.bipush (-12), 2) := by decide +kernel
theorem dX11_finds_24 : decode cX11_finds 24 = .ok (.ireturn, 1) := by decide +kernel
theorem dX11_finds_25 : decode cX11_finds 25 = .ok (.iload_n 3, 1) := by decide +kernel
theorem dX11_finds_26 : decode cX11_finds 26 = .ok (.ifCond .lt 20, 3) := by decide +kernel
theorem dX11_finds_29 : decode cX11_finds 29 = .ok (.iload_n 3, 1) := by decide +kernel
theorem dX11_finds_30 : decode cX11_finds 30 = .ok (.i2l, 1) := by decide +kernel
theorem dX11_finds_31 : decode cX11_finds 31 = .ok (.iload 4, 2) := by decide +kernel
theorem dX11_finds_33 : decode cX11_finds 33 = .ok (.i2l, 1) := by decide +kernel
theorem dX11_finds_34 : decode cX11_finds 34 = .ok (.ladd, 1) := by decide +kernel
theorem dX11_finds_35 : decode cX11_finds 35 = .ok (.aload_n 0, 1) := by decide +kernel
theorem dX11_finds_36 : decode cX11_finds 36 = .ok (.getfield 114, 3) := by decide +kernel
theorem dX11_finds_39 : decode cX11_finds 39 = .ok (.iload_n 1, 1) := by decide +kernel
theorem dX11_finds_40 : decode cX11_finds 40 = .ok (.iaload, 1) := by decide +kernel
theorem dX11_finds_41 : decode cX11_finds 41 = .ok (.i2l, 1) := by decide +kernel
theorem dX11_finds_42 : decode cX11_finds 42 = .ok (.lcmp, 1) := by decide +kernel
theorem dX11_finds_43 : decode cX11_finds 43 = .ok (.ifCond .le 8, 3) := by decide +kernel
theorem dX11_finds_46 : decode cX11_finds 46 = .ok (.bipush (-13), 2) := by decide +kernel
theorem dX11_finds_48 : decode cX11_finds 48 = .ok (.goto 4, 3) := by decide +kernel
theorem dX11_finds_51 : decode cX11_finds 51 = .ok (.iconst 0, 1) := by decide +kernel
theorem dX11_finds_52 : decode cX11_finds 52 = .ok (.ireturn, 1) := by decide +kernel
theorem dX11_item_0 : decode cX11_item 0 = .ok (.iload_n 1, 1) := by decide +kernel
theorem dX11_item_1 : decode cX11_item 1 = .ok (.invokestatic 334, 3) := by decide +kernel
theorem dX11_item_4 : decode cX11_item 4 = .ok (.ifCond .eq 10, 3) := by decide +kernel
theorem dX11_item_7 : decode cX11_item 7 = .ok (.iload_n 2, 1) := by decide +kernel
theorem dX11_item_8 : decode cX11_item 8 = .ok (.invokestatic 337, 3) := by decide +kernel
theorem dX11_item_11 : decode cX11_item 11 = .ok (.ifCond .ne 5, 3) := by decide +kernel
theorem dX11_item_14 : decode cX11_item 14 = .ok (.iconst (-1), 1) := by decide +kernel
theorem dX11_item_15 : decode cX11_item 15 = .ok (.ireturn, 1) := by decide +kernel
theorem dX11_item_16 : decode cX11_item 16 = .ok (.aload_n 0, 1) := by decide +kernel
theorem dX11_item_17 : decode cX11_item 17 = .ok (.iload_n 1, 1) := by decide +kernel
theorem dX11_item_18 : decode cX11_item 18 = .ok (.iload_n 2, 1) := by decide +kernel
theorem dX11_item_19 : decode cX11_item 19 = .ok (.iload_n 3, 1) := by decide +kernel
theorem dX11_item_20 : decode cX11_item 20 = .ok (.iconst 1, 1) := by decide +kernel
theorem dX11_item_21 : decode cX11_item 21 = .ok (.invokevirtual 340, 3) := by decide +kernel
theorem dX11_item_24 : decode cX11_item 24 = .ok (.istore 5, 2) := by decide +kernel
theorem dX11_item_26 : decode cX11_item 26 = .ok (.iload 5, 2) := by decide +kernel
theorem dX11_item_28 : decode cX11_item 28 = .ok (.ifCond .ge 6, 3) := by decide +kernel
theorem dX11_item_31 : decode cX11_item 31 = .ok (.iload 5, 2) := by decide +kernel
theorem dX11_item_33 : decode cX11_item 33 = .ok (.ireturn, 1) := by decide +kernel
theorem dX11_item_34 : decode cX11_item 34 = .ok (.aload_n 0, 1) := by decide +kernel
theorem dX11_item_35 : decode cX11_item 35 = .ok (.getfield 117, 3) := by decide +kernel
theorem dX11_item_38 : decode cX11_item 38 = .ok (.bipush 60, 2) := by decide +kernel
theorem dX11_item_40 : decode cX11_item 40 = .ok (.iload_n 1, 1) := by decide +kernel
theorem dX11_item_41 : decode cX11_item 41 = .ok (.imul, 1) := by decide +kernel
theorem dX11_item_42 : decode cX11_item 42 = .ok (.iload_n 3, 1) := by decide +kernel
theorem dX11_item_43 : decode cX11_item 43 = .ok (.iadd, 1) := by decide +kernel
theorem dX11_item_44 : decode cX11_item 44 = .ok (.iload_n 2, 1) := by decide +kernel
theorem dX11_item_45 : decode cX11_item 45 = .ok (.ifCond .ne 9, 3) := by decide +kernel
theorem dX11_item_48 : decode cX11_item 48 = .ok (.iload 4, 2) := by decide +kernel
theorem dX11_item_50 : decode cX11_item 50 = .ok (.i2b, 1) := by decide +kernel
theorem dX11_item_51 : decode cX11_item 51 = .ok (.goto 16, 3) := by decide +kernel
theorem dX11_item_54 : decode cX11_item 54 = .ok (.iload_n 2, 1) := by decide +kernel
theorem dX11_item_55 : decode cX11_item 55 = .ok (.iconst 1, 1) := by decide +kernel
theorem dX11_item_56 : decode cX11_item 56 = .ok (.if_icmp .ne 9, 3) := by decide +kernel
theorem dX11_item_59 : decode cX11_item 59 = .ok (.iload 4, 2) := by decide +kernel
theorem dX11_item_61 : decode cX11_item 61 = .ok (.i2s, 1) := by decide +kernel
theorem dX11_item_62 : decode cX11_item 62 = .ok (.goto 5, 3) := by decide +kernel
theorem dX11_item_65 : decode cX11_item 65 = .ok (.iload 4, 2) := by decide +kernel
theorem dX11_item_67 : decode cX11_item 67 = .ok (.iastore, 1) := by decide +kernel
theorem dX11_item_68 : decode cX11_item 68 = .ok (.iconst 1, 1) := by decide +kernel
theorem dX11_item_69 : decode cX11_item 69 = .ok (.ireturn, 1) := by decide +kernel
theorem dX11_rows_0 : decode cX11_rows 0 = .ok (.iload_n 1, 1) := by decide +kernel
theorem dX11_rows_1 : decode cX11_rows 1 = .ok (.invokestatic 334, 3) := by decide +kernel
theorem dX11_rows_4 : decode cX11_rows 4 = .ok (.ifCond .eq 23, 3) := by decide +kernel
theorem dX11_rows_7 : decode cX11_rows 7 = .ok (.iload_n 2, 1) := by decide +kernel
theorem dX11_rows_8 : decode cX11_rows 8 = .ok (.invokestatic 337, 3) := by decide +kernel
theorem dX11_rows_11 : decode cX11_rows 11 = .ok (.ifCond .eq 16, 3) := by decide +kernel
theorem dX11_rows_14 : decode cX11_rows 14 = .ok (.iload 4, 2) := by decide +kernel
theorem dX11_rows_16 : decode cX11_rows 16 = .ok (.i2l, 1) := by decide +kernel
theorem dX11_rows_17 : decode cX11_rows 17 = .ok (.lconst 0, 1) := by decide +kernel
theorem dX11_rows_18 : decode cX11_rows 18 = .ok (.ldc2_w 344, 3) := by decide +kernel
theorem dX11_rows_21 : decode cX11_rows 21 = .ok (.invokestatic 127, 3) := by decide +kernel
theorem dX11_rows_24 : decode cX11_rows 24 = .ok (.ifCond .ne 5, 3) := by decide +kernel
theorem dX11_rows_27 : decode cX11_rows 27 = .ok (.iconst (-1), 1) := by decide +kernel
theorem dX11_rows_28 : decode cX11_rows 28 = .ok (.ireturn, 1) := by decide +kernel
theorem dX11_rows_29 : decode cX11_rows 29 = .ok (.aload_n 0, 1) := by decide +kernel
theorem dX11_rows_30 : decode cX11_rows 30 = .ok (.iload_n 1, 1) := by decide +kernel
theorem dX11_rows_31 : decode cX11_rows 31 = .ok (.iload_n 2, 1) := by decide +kernel
theorem dX11_rows_32 : decode cX11_rows 32 = .ok (.iload_n 3, 1) := by decide +kernel
theorem dX11_rows_33 : decode cX11_rows 33 = .ok (.bipush 7, 2) := by decide +kernel
theorem dX11_rows_35 : decode cX11_rows 35 = .ok (.iload 4, 2) := by decide +kernel
theorem dX11_rows_37 : decode cX11_rows 37 = .ok (.imul, 1) := by decide +kernel
theorem dX11_rows_38 : decode cX11_rows 38 = .ok (.invokevirtual 340, 3) := by decide +kernel
theorem dX11_rows_41 : decode cX11_rows 41 = .ok (.istore 5, 2) := by decide +kernel
theorem dX11_rows_43 : decode cX11_rows 43 = .ok (.iload 5, 2) := by decide +kernel
theorem dX11_rows_45 : decode cX11_rows 45 = .ok (.ifCond .ge 6, 3) := by decide +kernel
theorem dX11_rows_48 : decode cX11_rows 48 = .ok (.iload 5, 2) := by decide +kernel
theorem dX11_rows_50 : decode cX11_rows 50 = .ok (.ireturn, 1) := by decide +kernel
theorem dX11_rows_51 : decode cX11_rows 51 = .ok (.bipush 60, 2) := by decide +kernel
theorem dX11_rows_53 : decode cX11_rows 53 = .ok (.iload_n 1, 1) := by decide +kernel
theorem dX11_rows_54 : decode cX11_rows 54 = .ok (.imul, 1) := by decide +kernel
theorem dX11_rows_55 : decode cX11_rows 55 = .ok (.iload_n 3, 1) := by decide +kernel
theorem dX11_rows_56 : decode cX11_rows 56 = .ok (.iadd, 1) := by decide +kernel
theorem dX11_rows_57 : decode cX11_rows 57 = .ok (.istore 6, 2) := by decide +kernel
theorem dX11_rows_59 : decode cX11_rows 59 = .ok (.iconst 0, 1) := by decide +kernel
theorem dX11_rows_60 : decode cX11_rows 60 = .ok (.istore 7, 2) := by decide +kernel
theorem dX11_rows_62 : decode cX11_rows 62 = .ok (.iload 7, 2) := by decide +kernel
theorem dX11_rows_64 : decode cX11_rows 64 = .ok (.iload 4, 2) := by decide +kernel
theorem dX11_rows_66 : decode cX11_rows 66 = .ok (.if_icmp .ge 98, 3) := by decide +kernel
theorem dX11_rows_69 : decode cX11_rows 69 = .ok (.iload 6, 2) := by decide +kernel
theorem dX11_rows_71 : decode cX11_rows 71 = .ok (.bipush 7, 2) := by decide +kernel
theorem dX11_rows_73 : decode cX11_rows 73 = .ok (.iload 7, 2) := by decide +kernel
theorem dX11_rows_75 : decode cX11_rows 75 = .ok (.imul, 1) := by decide +kernel
theorem dX11_rows_76 : decode cX11_rows 76 = .ok (.iadd, 1) := by decide +kernel
theorem dX11_rows_77 : decode cX11_rows 77 = .ok (.istore 8, 2) := by decide +kernel
theorem dX11_rows_79 : decode cX11_rows 79 = .ok (.aload_n 0, 1) := by decide +kernel
theorem dX11_rows_80 : decode cX11_rows 80 = .ok (.aload_n 0, 1) := by decide +kernel
theorem dX11_rows_81 : decode cX11_rows 81 = .ok (.getfield 117, 3) := by decide +kernel
theorem dX11_rows_84 : decode cX11_rows 84 = .ok (.iload 8, 2) := by decide +kernel
theorem dX11_rows_86 : decode cX11_rows 86 = .ok (.iaload, 1) := by decide +kernel
theorem dX11_rows_87 : decode cX11_rows 87 = .ok (.i2l, 1) := by decide +kernel
theorem dX11_rows_88 : decode cX11_rows 88 = .ok (.aload_n 0, 1) := by decide +kernel
theorem dX11_rows_89 : decode cX11_rows 89 = .ok (.getfield 117, 3) := by decide +kernel
theorem dX11_rows_92 : decode cX11_rows 92 = .ok (.iload 8, 2) := by decide +kernel
theorem dX11_rows_94 : decode cX11_rows 94 = .ok (.iconst 1, 1) := by decide +kernel
theorem dX11_rows_95 : decode cX11_rows 95 = .ok (.iadd, 1) := by decide +kernel
theorem dX11_rows_96 : decode cX11_rows 96 = .ok (.iaload, 1) := by decide +kernel
theorem dX11_rows_97 : decode cX11_rows 97 = .ok (.i2l, 1) := by decide +kernel
theorem dX11_rows_98 : decode cX11_rows 98 = .ok (.aload_n 0, 1) := by decide +kernel
theorem dX11_rows_99 : decode cX11_rows 99 = .ok (.getfield 117, 3) := by decide +kernel
theorem dX11_rows_102 : decode cX11_rows 102 = .ok (.iload 8, 2) := by decide +kernel
theorem dX11_rows_104 : decode cX11_rows 104 = .ok (.iconst 2, 1) := by decide +kernel
theorem dX11_rows_105 : decode cX11_rows 105 = .ok (.iadd, 1) := by decide +kernel
theorem dX11_rows_106 : decode cX11_rows 106 = .ok (.iaload, 1) := by decide +kernel
theorem dX11_rows_107 : decode cX11_rows 107 = .ok (.i2l, 1) := by decide +kernel
theorem dX11_rows_108 : decode cX11_rows 108 = .ok (.aload_n 0, 1) := by decide +kernel
theorem dX11_rows_109 : decode cX11_rows 109 = .ok (.getfield 117, 3) := by decide +kernel
theorem dX11_rows_112 : decode cX11_rows 112 = .ok (.iload 8, 2) := by decide +kernel
theorem dX11_rows_114 : decode cX11_rows 114 = .ok (.iconst 3, 1) := by decide +kernel
theorem dX11_rows_115 : decode cX11_rows 115 = .ok (.iadd, 1) := by decide +kernel
theorem dX11_rows_116 : decode cX11_rows 116 = .ok (.iaload, 1) := by decide +kernel
theorem dX11_rows_117 : decode cX11_rows 117 = .ok (.i2l, 1) := by decide +kernel
theorem dX11_rows_118 : decode cX11_rows 118 = .ok (.aload_n 0, 1) := by decide +kernel
theorem dX11_rows_119 : decode cX11_rows 119 = .ok (.getfield 117, 3) := by decide +kernel
theorem dX11_rows_122 : decode cX11_rows 122 = .ok (.iload 8, 2) := by decide +kernel
theorem dX11_rows_124 : decode cX11_rows 124 = .ok (.iconst 4, 1) := by decide +kernel
theorem dX11_rows_125 : decode cX11_rows 125 = .ok (.iadd, 1) := by decide +kernel
theorem dX11_rows_126 : decode cX11_rows 126 = .ok (.iaload, 1) := by decide +kernel
theorem dX11_rows_127 : decode cX11_rows 127 = .ok (.i2l, 1) := by decide +kernel
theorem dX11_rows_128 : decode cX11_rows 128 = .ok (.aload_n 0, 1) := by decide +kernel
theorem dX11_rows_129 : decode cX11_rows 129 = .ok (.getfield 117, 3) := by decide +kernel
theorem dX11_rows_132 : decode cX11_rows 132 = .ok (.iload 8, 2) := by decide +kernel
theorem dX11_rows_134 : decode cX11_rows 134 = .ok (.iconst 5, 1) := by decide +kernel
theorem dX11_rows_135 : decode cX11_rows 135 = .ok (.iadd, 1) := by decide +kernel
theorem dX11_rows_136 : decode cX11_rows 136 = .ok (.iaload, 1) := by decide +kernel
theorem dX11_rows_137 : decode cX11_rows 137 = .ok (.i2l, 1) := by decide +kernel
theorem dX11_rows_138 : decode cX11_rows 138 = .ok (.aload_n 0, 1) := by decide +kernel
theorem dX11_rows_139 : decode cX11_rows 139 = .ok (.getfield 117, 3) := by decide +kernel
theorem dX11_rows_142 : decode cX11_rows 142 = .ok (.iload 8, 2) := by decide +kernel
theorem dX11_rows_144 : decode cX11_rows 144 = .ok (.bipush 6, 2) := by decide +kernel
theorem dX11_rows_146 : decode cX11_rows 146 = .ok (.iadd, 1) := by decide +kernel
theorem dX11_rows_147 : decode cX11_rows 147 = .ok (.iaload, 1) := by decide +kernel
theorem dX11_rows_148 : decode cX11_rows 148 = .ok (.i2l, 1) := by decide +kernel
theorem dX11_rows_149 : decode cX11_rows 149 = .ok (.invokevirtual 303, 3) := by decide +kernel
theorem dX11_rows_152 : decode cX11_rows 152 = .ok (.ifCond .ne 6, 3) := by decide +kernel
theorem dX11_rows_155 : decode cX11_rows 155 = .ok (.bipush (-2), 2) := by decide +kernel
theorem dX11_rows_157 : decode cX11_rows 157 = .ok (.ireturn, 1) := by decide +kernel
theorem dX11_rows_158 : decode cX11_rows 158 = .ok (.iinc 7 1, 3) := by decide +kernel
theorem dX11_rows_161 : decode cX11_rows 161 = .ok (.goto (-99), 3) := by decide +kernel
theorem dX11_rows_164 : decode cX11_rows 164 = .ok (.aload_n 0, 1) := by decide +kernel
theorem dX11_rows_165 : decode cX11_rows 165 = .ok (.getfield 300, 3) := by decide +kernel
theorem dX11_rows_168 : decode cX11_rows 168 = .ok (.iload 4, 2) := by decide +kernel
theorem dX11_rows_170 : decode cX11_rows 170 = .ok (.iadd, 1) := by decide +kernel
theorem dX11_rows_171 : decode cX11_rows 171 = .ok (.bipush 30, 2) := by decide +kernel
theorem dX11_rows_173 : decode cX11_rows 173 = .ok (.if_icmp .le 6, 3) := by decide +kernel
theorem dX11_rows_176 : decode cX11_rows 176 = .ok (.bipush (-3), 2) := by decide +kernel
theorem dX11_rows_178 : decode cX11_rows 178 = .ok (.ireturn, 1) := by decide +kernel
theorem dX11_rows_179 : decode cX11_rows 179 = .ok (.iconst 0, 1) := by decide +kernel
theorem dX11_rows_180 : decode cX11_rows 180 = .ok (.istore 7, 2) := by decide +kernel
theorem dX11_rows_182 : decode cX11_rows 182 = .ok (.iload 7, 2) := by decide +kernel
theorem dX11_rows_184 : decode cX11_rows 184 = .ok (.iload 4, 2) := by decide +kernel
theorem dX11_rows_186 : decode cX11_rows 186 = .ok (.if_icmp .ge 85, 3) := by decide +kernel
theorem dX11_rows_189 : decode cX11_rows 189 = .ok (.iload 6, 2) := by decide +kernel
theorem dX11_rows_191 : decode cX11_rows 191 = .ok (.bipush 7, 2) := by decide +kernel
theorem dX11_rows_193 : decode cX11_rows 193 = .ok (.iload 7, 2) := by decide +kernel
theorem dX11_rows_195 : decode cX11_rows 195 = .ok (.imul, 1) := by decide +kernel
theorem dX11_rows_196 : decode cX11_rows 196 = .ok (.iadd, 1) := by decide +kernel
theorem dX11_rows_197 : decode cX11_rows 197 = .ok (.istore 8, 2) := by decide +kernel
theorem dX11_rows_199 : decode cX11_rows 199 = .ok (.aload_n 0, 1) := by decide +kernel
theorem dX11_rows_200 : decode cX11_rows 200 = .ok (.aload_n 0, 1) := by decide +kernel
theorem dX11_rows_201 : decode cX11_rows 201 = .ok (.getfield 117, 3) := by decide +kernel
theorem dX11_rows_204 : decode cX11_rows 204 = .ok (.iload 8, 2) := by decide +kernel
theorem dX11_rows_206 : decode cX11_rows 206 = .ok (.iaload, 1) := by decide +kernel
theorem dX11_rows_207 : decode cX11_rows 207 = .ok (.aload_n 0, 1) := by decide +kernel
theorem dX11_rows_208 : decode cX11_rows 208 = .ok (.getfield 117, 3) := by decide +kernel
theorem dX11_rows_211 : decode cX11_rows 211 = .ok (.iload 8, 2) := by decide +kernel
theorem dX11_rows_213 : decode cX11_rows 213 = .ok (.iconst 1, 1) := by decide +kernel
theorem dX11_rows_214 : decode cX11_rows 214 = .ok (.iadd, 1) := by decide +kernel
theorem dX11_rows_215 : decode cX11_rows 215 = .ok (.iaload, 1) := by decide +kernel
theorem dX11_rows_216 : decode cX11_rows 216 = .ok (.aload_n 0, 1) := by decide +kernel
theorem dX11_rows_217 : decode cX11_rows 217 = .ok (.getfield 117, 3) := by decide +kernel
theorem dX11_rows_220 : decode cX11_rows 220 = .ok (.iload 8, 2) := by decide +kernel
theorem dX11_rows_222 : decode cX11_rows 222 = .ok (.iconst 2, 1) := by decide +kernel
theorem dX11_rows_223 : decode cX11_rows 223 = .ok (.iadd, 1) := by decide +kernel
theorem dX11_rows_224 : decode cX11_rows 224 = .ok (.iaload, 1) := by decide +kernel
theorem dX11_rows_225 : decode cX11_rows 225 = .ok (.aload_n 0, 1) := by decide +kernel
theorem dX11_rows_226 : decode cX11_rows 226 = .ok (.getfield 117, 3) := by decide +kernel
theorem dX11_rows_229 : decode cX11_rows 229 = .ok (.iload 8, 2) := by decide +kernel
theorem dX11_rows_231 : decode cX11_rows 231 = .ok (.iconst 3, 1) := by decide +kernel
theorem dX11_rows_232 : decode cX11_rows 232 = .ok (.iadd, 1) := by decide +kernel
theorem dX11_rows_233 : decode cX11_rows 233 = .ok (.iaload, 1) := by decide +kernel
theorem dX11_rows_234 : decode cX11_rows 234 = .ok (.aload_n 0, 1) := by decide +kernel
theorem dX11_rows_235 : decode cX11_rows 235 = .ok (.getfield 117, 3) := by decide +kernel
theorem dX11_rows_238 : decode cX11_rows 238 = .ok (.iload 8, 2) := by decide +kernel
theorem dX11_rows_240 : decode cX11_rows 240 = .ok (.iconst 4, 1) := by decide +kernel
theorem dX11_rows_241 : decode cX11_rows 241 = .ok (.iadd, 1) := by decide +kernel
theorem dX11_rows_242 : decode cX11_rows 242 = .ok (.iaload, 1) := by decide +kernel
theorem dX11_rows_243 : decode cX11_rows 243 = .ok (.aload_n 0, 1) := by decide +kernel
theorem dX11_rows_244 : decode cX11_rows 244 = .ok (.getfield 117, 3) := by decide +kernel
theorem dX11_rows_247 : decode cX11_rows 247 = .ok (.iload 8, 2) := by decide +kernel
theorem dX11_rows_249 : decode cX11_rows 249 = .ok (.iconst 5, 1) := by decide +kernel
theorem dX11_rows_250 : decode cX11_rows 250 = .ok (.iadd, 1) := by decide +kernel
theorem dX11_rows_251 : decode cX11_rows 251 = .ok (.iaload, 1) := by decide +kernel
theorem dX11_rows_252 : decode cX11_rows 252 = .ok (.aload_n 0, 1) := by decide +kernel
theorem dX11_rows_253 : decode cX11_rows 253 = .ok (.getfield 117, 3) := by decide +kernel
theorem dX11_rows_256 : decode cX11_rows 256 = .ok (.iload 8, 2) := by decide +kernel
theorem dX11_rows_258 : decode cX11_rows 258 = .ok (.bipush 6, 2) := by decide +kernel
theorem dX11_rows_260 : decode cX11_rows 260 = .ok (.iadd, 1) := by decide +kernel
theorem dX11_rows_261 : decode cX11_rows 261 = .ok (.iaload, 1) := by decide +kernel
theorem dX11_rows_262 : decode cX11_rows 262 = .ok (.invokevirtual 307, 3) := by decide +kernel
theorem dX11_rows_265 : decode cX11_rows 265 = .ok (.iinc 7 1, 3) := by decide +kernel
theorem dX11_rows_268 : decode cX11_rows 268 = .ok (.goto (-86), 3) := by decide +kernel
theorem dX11_rows_271 : decode cX11_rows 271 = .ok (.aload_n 0, 1) := by decide +kernel
theorem dX11_rows_272 : decode cX11_rows 272 = .ok (.getfield 300, 3) := by decide +kernel
theorem dX11_rows_275 : decode cX11_rows 275 = .ok (.ireturn, 1) := by decide +kernel
theorem dX11_copy_0 : decode cX11_copy 0 = .ok (.iload_n 1, 1) := by decide +kernel
theorem dX11_copy_1 : decode cX11_copy 1 = .ok (.invokestatic 334, 3) := by decide +kernel
theorem dX11_copy_4 : decode cX11_copy 4 = .ok (.ifCond .eq 10, 3) := by decide +kernel
theorem dX11_copy_7 : decode cX11_copy 7 = .ok (.iload_n 3, 1) := by decide +kernel
theorem dX11_copy_8 : decode cX11_copy 8 = .ok (.invokestatic 334, 3) := by decide +kernel
theorem dX11_copy_11 : decode cX11_copy 11 = .ok (.ifCond .ne 5, 3) := by decide +kernel
theorem dX11_copy_14 : decode cX11_copy 14 = .ok (.iconst (-1), 1) := by decide +kernel
theorem dX11_copy_15 : decode cX11_copy 15 = .ok (.ireturn, 1) := by decide +kernel
theorem dX11_copy_16 : decode cX11_copy 16 = .ok (.aload_n 0, 1) := by decide +kernel
theorem dX11_copy_17 : decode cX11_copy 17 = .ok (.getfield 111, 3) := by decide +kernel
theorem dX11_copy_20 : decode cX11_copy 20 = .ok (.iload_n 1, 1) := by decide +kernel
theorem dX11_copy_21 : decode cX11_copy 21 = .ok (.iaload, 1) := by decide +kernel
theorem dX11_copy_22 : decode cX11_copy 22 = .ok (.ifCond .lt 12, 3) := by decide +kernel
theorem dX11_copy_25 : decode cX11_copy 25 = .ok (.aload_n 0, 1) := by decide +kernel
theorem dX11_copy_26 : decode cX11_copy 26 = .ok (.getfield 111, 3) := by decide +kernel
theorem dX11_copy_29 : decode cX11_copy 29 = .ok (.iload_n 3, 1) := by decide +kernel
theorem dX11_copy_30 : decode cX11_copy 30 = .ok (.iaload, 1) := by decide +kernel
theorem dX11_copy_31 : decode cX11_copy 31 = .ok (.ifCond .ge 6, 3) := by decide +kernel
theorem dX11_copy_34 : decode cX11_copy 34 = .ok (.bipush (-11), 2) := by decide +kernel
theorem dX11_copy_36 : decode cX11_copy 36 = .ok (.ireturn, 1) := by decide +kernel
theorem dX11_copy_37 : decode cX11_copy 37 = .ok (.aload_n 0, 1) := by decide +kernel
theorem dX11_copy_38 : decode cX11_copy 38 = .ok (.getfield 111, 3) := by decide +kernel
theorem dX11_copy_41 : decode cX11_copy 41 = .ok (.iload_n 1, 1) := by decide +kernel
theorem dX11_copy_42 : decode cX11_copy 42 = .ok (.iaload, 1) := by decide +kernel
theorem dX11_copy_43 : decode cX11_copy 43 = .ok (.aload_n 0, 1) := by decide +kernel
theorem dX11_copy_44 : decode cX11_copy 44 = .ok (.getfield 111, 3) := by decide +kernel
theorem dX11_copy_47 : decode cX11_copy 47 = .ok (.iload_n 3, 1) := by decide +kernel
theorem dX11_copy_48 : decode cX11_copy 48 = .ok (.iaload, 1) := by decide +kernel
theorem dX11_copy_49 : decode cX11_copy 49 = .ok (.if_icmp .eq 6, 3) := by decide +kernel
theorem dX11_copy_52 : decode cX11_copy 52 = .ok (.bipush (-12), 2) := by decide +kernel
theorem dX11_copy_54 : decode cX11_copy 54 = .ok (.ireturn, 1) := by decide +kernel
theorem dX11_copy_55 : decode cX11_copy 55 = .ok (.iload 5, 2) := by decide +kernel
theorem dX11_copy_57 : decode cX11_copy 57 = .ok (.ifCond .lt 38, 3) := by decide +kernel
theorem dX11_copy_60 : decode cX11_copy 60 = .ok (.aload_n 0, 1) := by decide +kernel
theorem dX11_copy_61 : decode cX11_copy 61 = .ok (.iload_n 1, 1) := by decide +kernel
theorem dX11_copy_62 : decode cX11_copy 62 = .ok (.aload_n 0, 1) := by decide +kernel
theorem dX11_copy_63 : decode cX11_copy 63 = .ok (.getfield 111, 3) := by decide +kernel
theorem dX11_copy_66 : decode cX11_copy 66 = .ok (.iload_n 1, 1) := by decide +kernel
theorem dX11_copy_67 : decode cX11_copy 67 = .ok (.iaload, 1) := by decide +kernel
theorem dX11_copy_68 : decode cX11_copy 68 = .ok (.iload_n 2, 1) := by decide +kernel
theorem dX11_copy_69 : decode cX11_copy 69 = .ok (.iload 5, 2) := by decide +kernel
theorem dX11_copy_71 : decode cX11_copy 71 = .ok (.invokevirtual 340, 3) := by decide +kernel
theorem dX11_copy_74 : decode cX11_copy 74 = .ok (.ifCond .lt 21, 3) := by decide +kernel
theorem dX11_copy_77 : decode cX11_copy 77 = .ok (.aload_n 0, 1) := by decide +kernel
theorem dX11_copy_78 : decode cX11_copy 78 = .ok (.iload_n 3, 1) := by decide +kernel
theorem dX11_copy_79 : decode cX11_copy 79 = .ok (.aload_n 0, 1) := by decide +kernel
theorem dX11_copy_80 : decode cX11_copy 80 = .ok (.getfield 111, 3) := by decide +kernel
theorem dX11_copy_83 : decode cX11_copy 83 = .ok (.iload_n 3, 1) := by decide +kernel
theorem dX11_copy_84 : decode cX11_copy 84 = .ok (.iaload, 1) := by decide +kernel
theorem dX11_copy_85 : decode cX11_copy 85 = .ok (.iload 4, 2) := by decide +kernel
theorem dX11_copy_87 : decode cX11_copy 87 = .ok (.iload 5, 2) := by decide +kernel
theorem dX11_copy_89 : decode cX11_copy 89 = .ok (.invokevirtual 340, 3) := by decide +kernel
theorem dX11_copy_92 : decode cX11_copy 92 = .ok (.ifCond .ge 6, 3) := by decide +kernel
theorem dX11_copy_95 : decode cX11_copy 95 = .ok (.bipush (-13), 2) := by decide +kernel
theorem dX11_copy_97 : decode cX11_copy 97 = .ok (.ireturn, 1) := by decide +kernel
theorem dX11_copy_98 : decode cX11_copy 98 = .ok (.iconst 0, 1) := by decide +kernel
theorem dX11_copy_99 : decode cX11_copy 99 = .ok (.istore 6, 2) := by decide +kernel
theorem dX11_copy_101 : decode cX11_copy 101 = .ok (.iload 6, 2) := by decide +kernel
theorem dX11_copy_103 : decode cX11_copy 103 = .ok (.iload 5, 2) := by decide +kernel
theorem dX11_copy_105 : decode cX11_copy 105 = .ok (.if_icmp .ge 30, 3) := by decide +kernel
theorem dX11_copy_108 : decode cX11_copy 108 = .ok (.aload_n 0, 1) := by decide +kernel
theorem dX11_copy_109 : decode cX11_copy 109 = .ok (.getfield 120, 3) := by decide +kernel
theorem dX11_copy_112 : decode cX11_copy 112 = .ok (.iload 6, 2) := by decide +kernel
theorem dX11_copy_114 : decode cX11_copy 114 = .ok (.aload_n 0, 1) := by decide +kernel
theorem dX11_copy_115 : decode cX11_copy 115 = .ok (.getfield 117, 3) := by decide +kernel
theorem dX11_copy_118 : decode cX11_copy 118 = .ok (.bipush 60, 2) := by decide +kernel
theorem dX11_copy_120 : decode cX11_copy 120 = .ok (.iload_n 1, 1) := by decide +kernel
theorem dX11_copy_121 : decode cX11_copy 121 = .ok (.imul, 1) := by decide +kernel
theorem dX11_copy_122 : decode cX11_copy 122 = .ok (.iload_n 2, 1) := by decide +kernel
theorem dX11_copy_123 : decode cX11_copy 123 = .ok (.iadd, 1) := by decide +kernel
theorem dX11_copy_124 : decode cX11_copy 124 = .ok (.iload 6, 2) := by decide +kernel
theorem dX11_copy_126 : decode cX11_copy 126 = .ok (.iadd, 1) := by decide +kernel
theorem dX11_copy_127 : decode cX11_copy 127 = .ok (.iaload, 1) := by decide +kernel
theorem dX11_copy_128 : decode cX11_copy 128 = .ok (.iastore, 1) := by decide +kernel
theorem dX11_copy_129 : decode cX11_copy 129 = .ok (.iinc 6 1, 3) := by decide +kernel
theorem dX11_copy_132 : decode cX11_copy 132 = .ok (.goto (-31), 3) := by decide +kernel
theorem dX11_copy_135 : decode cX11_copy 135 = .ok (.iconst 0, 1) := by decide +kernel
theorem dX11_copy_136 : decode cX11_copy 136 = .ok (.istore 6, 2) := by decide +kernel
theorem dX11_copy_138 : decode cX11_copy 138 = .ok (.iload 6, 2) := by decide +kernel
theorem dX11_copy_140 : decode cX11_copy 140 = .ok (.iload 5, 2) := by decide +kernel
theorem dX11_copy_142 : decode cX11_copy 142 = .ok (.if_icmp .ge 31, 3) := by decide +kernel
theorem dX11_copy_145 : decode cX11_copy 145 = .ok (.aload_n 0, 1) := by decide +kernel
theorem dX11_copy_146 : decode cX11_copy 146 = .ok (.getfield 117, 3) := by decide +kernel
theorem dX11_copy_149 : decode cX11_copy 149 = .ok (.bipush 60, 2) := by decide +kernel
theorem dX11_copy_151 : decode cX11_copy 151 = .ok (.iload_n 3, 1) := by decide +kernel
theorem dX11_copy_152 : decode cX11_copy 152 = .ok (.imul, 1) := by decide +kernel
theorem dX11_copy_153 : decode cX11_copy 153 = .ok (.iload 4, 2) := by decide +kernel
theorem dX11_copy_155 : decode cX11_copy 155 = .ok (.iadd, 1) := by decide +kernel
theorem dX11_copy_156 : decode cX11_copy 156 = .ok (.iload 6, 2) := by decide +kernel
theorem dX11_copy_158 : decode cX11_copy 158 = .ok (.iadd, 1) := by decide +kernel
theorem dX11_copy_159 : decode cX11_copy 159 = .ok (.aload_n 0, 1) := by decide +kernel
theorem dX11_copy_160 : decode cX11_copy 160 = .ok (.getfield 120, 3) := by decide +kernel
theorem dX11_copy_163 : decode cX11_copy 163 = .ok (.iload 6, 2) := by decide +kernel
theorem dX11_copy_165 : decode cX11_copy 165 = .ok (.iaload, 1) := by decide +kernel
theorem dX11_copy_166 : decode cX11_copy 166 = .ok (.iastore, 1) := by decide +kernel
theorem dX11_copy_167 : decode cX11_copy 167 = .ok (.iinc 6 1, 3) := by decide +kernel
theorem dX11_copy_170 : decode cX11_copy 170 = .ok (.goto (-32), 3) := by decide +kernel
theorem dX11_copy_173 : decode cX11_copy 173 = .ok (.iload 5, 2) := by decide +kernel
theorem dX11_copy_175 : decode cX11_copy 175 = .ok (.ireturn, 1) := by decide +kernel
theorem dJ6_bitCount_0f7a4_0 : decode cJ6_bitCount_0f7a4 0 = .ok (.iload_n 0, 1) := by decide +kernel
theorem dJ6_bitCount_0f7a4_1 : decode cJ6_bitCount_0f7a4 1 = .ok (.iload_n 0, 1) := by decide +kernel
theorem dJ6_bitCount_0f7a4_2 : decode cJ6_bitCount_0f7a4 2 = .ok (.iconst 1, 1) := by decide +kernel
theorem dJ6_bitCount_0f7a4_3 : decode cJ6_bitCount_0f7a4 3 = .ok (.iushr, 1) := by decide +kernel
theorem dJ6_bitCount_0f7a4_4 : decode cJ6_bitCount_0f7a4 4 = .ok (.ldc_w 265, 3) := by decide +kernel
theorem dJ6_bitCount_0f7a4_7 : decode cJ6_bitCount_0f7a4 7 = .ok (.iand, 1) := by decide +kernel
theorem dJ6_bitCount_0f7a4_8 : decode cJ6_bitCount_0f7a4 8 = .ok (.isub, 1) := by decide +kernel
theorem dJ6_bitCount_0f7a4_9 : decode cJ6_bitCount_0f7a4 9 = .ok (.istore_n 0, 1) := by decide +kernel
theorem dJ6_bitCount_0f7a4_10 : decode cJ6_bitCount_0f7a4 10 = .ok (.iload_n 0, 1) := by decide +kernel
theorem dJ6_bitCount_0f7a4_11 : decode cJ6_bitCount_0f7a4 11 = .ok (.ldc_w 266, 3) := by decide +kernel
theorem dJ6_bitCount_0f7a4_14 : decode cJ6_bitCount_0f7a4 14 = .ok (.iand, 1) := by decide +kernel
theorem dJ6_bitCount_0f7a4_15 : decode cJ6_bitCount_0f7a4 15 = .ok (.iload_n 0, 1) := by decide +kernel
theorem dJ6_bitCount_0f7a4_16 : decode cJ6_bitCount_0f7a4 16 = .ok (.iconst 2, 1) := by decide +kernel
theorem dJ6_bitCount_0f7a4_17 : decode cJ6_bitCount_0f7a4 17 = .ok (.iushr, 1) := by decide +kernel
theorem dJ6_bitCount_0f7a4_18 : decode cJ6_bitCount_0f7a4 18 = .ok (.ldc_w 266, 3) := by decide +kernel
theorem dJ6_bitCount_0f7a4_21 : decode cJ6_bitCount_0f7a4 21 = .ok (.iand, 1) := by decide +kernel
theorem dJ6_bitCount_0f7a4_22 : decode cJ6_bitCount_0f7a4 22 = .ok (.iadd, 1) := by decide +kernel
theorem dJ6_bitCount_0f7a4_23 : decode cJ6_bitCount_0f7a4 23 = .ok (.istore_n 0, 1) := by decide +kernel
theorem dJ6_bitCount_0f7a4_24 : decode cJ6_bitCount_0f7a4 24 = .ok (.iload_n 0, 1) := by decide +kernel
theorem dJ6_bitCount_0f7a4_25 : decode cJ6_bitCount_0f7a4 25 = .ok (.iload_n 0, 1) := by decide +kernel
theorem dJ6_bitCount_0f7a4_26 : decode cJ6_bitCount_0f7a4 26 = .ok (.iconst 4, 1) := by decide +kernel
theorem dJ6_bitCount_0f7a4_27 : decode cJ6_bitCount_0f7a4 27 = .ok (.iushr, 1) := by decide +kernel
theorem dJ6_bitCount_0f7a4_28 : decode cJ6_bitCount_0f7a4 28 = .ok (.iadd, 1) := by decide +kernel
theorem dJ6_bitCount_0f7a4_29 : decode cJ6_bitCount_0f7a4 29 = .ok (.ldc_w 267, 3) := by decide +kernel
theorem dJ6_bitCount_0f7a4_32 : decode cJ6_bitCount_0f7a4 32 = .ok (.iand, 1) := by decide +kernel
theorem dJ6_bitCount_0f7a4_33 : decode cJ6_bitCount_0f7a4 33 = .ok (.istore_n 0, 1) := by decide +kernel
theorem dJ6_bitCount_0f7a4_34 : decode cJ6_bitCount_0f7a4 34 = .ok (.iload_n 0, 1) := by decide +kernel
theorem dJ6_bitCount_0f7a4_35 : decode cJ6_bitCount_0f7a4 35 = .ok (.iload_n 0, 1) := by decide +kernel
theorem dJ6_bitCount_0f7a4_36 : decode cJ6_bitCount_0f7a4 36 = .ok (.bipush 8, 2) := by decide +kernel
theorem dJ6_bitCount_0f7a4_38 : decode cJ6_bitCount_0f7a4 38 = .ok (.iushr, 1) := by decide +kernel
theorem dJ6_bitCount_0f7a4_39 : decode cJ6_bitCount_0f7a4 39 = .ok (.iadd, 1) := by decide +kernel
theorem dJ6_bitCount_0f7a4_40 : decode cJ6_bitCount_0f7a4 40 = .ok (.istore_n 0, 1) := by decide +kernel
theorem dJ6_bitCount_0f7a4_41 : decode cJ6_bitCount_0f7a4 41 = .ok (.iload_n 0, 1) := by decide +kernel
theorem dJ6_bitCount_0f7a4_42 : decode cJ6_bitCount_0f7a4 42 = .ok (.iload_n 0, 1) := by decide +kernel
theorem dJ6_bitCount_0f7a4_43 : decode cJ6_bitCount_0f7a4 43 = .ok (.bipush 16, 2) := by decide +kernel
theorem dJ6_bitCount_0f7a4_45 : decode cJ6_bitCount_0f7a4 45 = .ok (.iushr, 1) := by decide +kernel
theorem dJ6_bitCount_0f7a4_46 : decode cJ6_bitCount_0f7a4 46 = .ok (.iadd, 1) := by decide +kernel
theorem dJ6_bitCount_0f7a4_47 : decode cJ6_bitCount_0f7a4 47 = .ok (.istore_n 0, 1) := by decide +kernel
theorem dJ6_bitCount_0f7a4_48 : decode cJ6_bitCount_0f7a4 48 = .ok (.iload_n 0, 1) := by decide +kernel
theorem dJ6_bitCount_0f7a4_49 : decode cJ6_bitCount_0f7a4 49 = .ok (.bipush 63, 2) := by decide +kernel
theorem dJ6_bitCount_0f7a4_51 : decode cJ6_bitCount_0f7a4 51 = .ok (.iand, 1) := by decide +kernel
theorem dJ6_bitCount_0f7a4_52 : decode cJ6_bitCount_0f7a4 52 = .ok (.ireturn, 1) := by decide +kernel
theorem dJ9_floorDiv_7cf53_0 : decode cJ9_floorDiv_7cf53 0 = .ok (.iload_n 0, 1) := by decide +kernel
theorem dJ9_floorDiv_7cf53_1 : decode cJ9_floorDiv_7cf53 1 = .ok (.iload_n 1, 1) := by decide +kernel
theorem dJ9_floorDiv_7cf53_2 : decode cJ9_floorDiv_7cf53 2 = .ok (.idiv, 1) := by decide +kernel
theorem dJ9_floorDiv_7cf53_3 : decode cJ9_floorDiv_7cf53 3 = .ok (.istore_n 2, 1) := by decide +kernel
theorem dJ9_floorDiv_7cf53_4 : decode cJ9_floorDiv_7cf53 4 = .ok (.iload_n 0, 1) := by decide +kernel
theorem dJ9_floorDiv_7cf53_5 : decode cJ9_floorDiv_7cf53 5 = .ok (.iload_n 1, 1) := by decide +kernel
theorem dJ9_floorDiv_7cf53_6 : decode cJ9_floorDiv_7cf53 6 = .ok (.ixor, 1) := by decide +kernel
theorem dJ9_floorDiv_7cf53_7 : decode cJ9_floorDiv_7cf53 7 = .ok (.ifCond .ge 14, 3) := by decide +kernel
theorem dJ9_floorDiv_7cf53_10 : decode cJ9_floorDiv_7cf53 10 = .ok (.iload_n 2, 1) := by decide +kernel
theorem dJ9_floorDiv_7cf53_11 : decode cJ9_floorDiv_7cf53 11 = .ok (.iload_n 1, 1) := by decide +kernel
theorem dJ9_floorDiv_7cf53_12 : decode cJ9_floorDiv_7cf53 12 = .ok (.imul, 1) := by decide +kernel
theorem dJ9_floorDiv_7cf53_13 : decode cJ9_floorDiv_7cf53 13 = .ok (.iload_n 0, 1) := by decide +kernel
theorem dJ9_floorDiv_7cf53_14 : decode cJ9_floorDiv_7cf53 14 = .ok (.if_icmp .eq 7, 3) := by decide +kernel
theorem dJ9_floorDiv_7cf53_17 : decode cJ9_floorDiv_7cf53 17 = .ok (.iload_n 2, 1) := by decide +kernel
theorem dJ9_floorDiv_7cf53_18 : decode cJ9_floorDiv_7cf53 18 = .ok (.iconst 1, 1) := by decide +kernel
theorem dJ9_floorDiv_7cf53_19 : decode cJ9_floorDiv_7cf53 19 = .ok (.isub, 1) := by decide +kernel
theorem dJ9_floorDiv_7cf53_20 : decode cJ9_floorDiv_7cf53 20 = .ok (.ireturn, 1) := by decide +kernel
theorem dJ9_floorDiv_7cf53_21 : decode cJ9_floorDiv_7cf53 21 = .ok (.iload_n 2, 1) := by decide +kernel
theorem dJ9_floorDiv_7cf53_22 : decode cJ9_floorDiv_7cf53 22 = .ok (.ireturn, 1) := by decide +kernel
theorem dJ9_floorMod_7cf53_0 : decode cJ9_floorMod_7cf53 0 = .ok (.iload_n 0, 1) := by decide +kernel
theorem dJ9_floorMod_7cf53_1 : decode cJ9_floorMod_7cf53 1 = .ok (.iload_n 1, 1) := by decide +kernel
theorem dJ9_floorMod_7cf53_2 : decode cJ9_floorMod_7cf53 2 = .ok (.irem, 1) := by decide +kernel
theorem dJ9_floorMod_7cf53_3 : decode cJ9_floorMod_7cf53 3 = .ok (.istore_n 2, 1) := by decide +kernel
theorem dJ9_floorMod_7cf53_4 : decode cJ9_floorMod_7cf53 4 = .ok (.iload_n 0, 1) := by decide +kernel
theorem dJ9_floorMod_7cf53_5 : decode cJ9_floorMod_7cf53 5 = .ok (.iload_n 1, 1) := by decide +kernel
theorem dJ9_floorMod_7cf53_6 : decode cJ9_floorMod_7cf53 6 = .ok (.ixor, 1) := by decide +kernel
theorem dJ9_floorMod_7cf53_7 : decode cJ9_floorMod_7cf53 7 = .ok (.ifCond .ge 11, 3) := by decide +kernel
theorem dJ9_floorMod_7cf53_10 : decode cJ9_floorMod_7cf53 10 = .ok (.iload_n 2, 1) := by decide +kernel
theorem dJ9_floorMod_7cf53_11 : decode cJ9_floorMod_7cf53 11 = .ok (.ifCond .eq 7, 3) := by decide +kernel
theorem dJ9_floorMod_7cf53_14 : decode cJ9_floorMod_7cf53 14 = .ok (.iload_n 2, 1) := by decide +kernel
theorem dJ9_floorMod_7cf53_15 : decode cJ9_floorMod_7cf53 15 = .ok (.iload_n 1, 1) := by decide +kernel
theorem dJ9_floorMod_7cf53_16 : decode cJ9_floorMod_7cf53 16 = .ok (.iadd, 1) := by decide +kernel
theorem dJ9_floorMod_7cf53_17 : decode cJ9_floorMod_7cf53 17 = .ok (.ireturn, 1) := by decide +kernel
theorem dJ9_floorMod_7cf53_18 : decode cJ9_floorMod_7cf53 18 = .ok (.iload_n 2, 1) := by decide +kernel
theorem dJ9_floorMod_7cf53_19 : decode cJ9_floorMod_7cf53 19 = .ok (.ireturn, 1) := by decide +kernel
theorem dJ9_abs_0f7a4_0 : decode cJ9_abs_0f7a4 0 = .ok (.iload_n 0, 1) := by decide +kernel
theorem dJ9_abs_0f7a4_1 : decode cJ9_abs_0f7a4 1 = .ok (.ifCond .ge 8, 3) := by decide +kernel
theorem dJ9_abs_0f7a4_4 : decode cJ9_abs_0f7a4 4 = .ok (.iload_n 0, 1) := by decide +kernel
theorem dJ9_abs_0f7a4_5 : decode cJ9_abs_0f7a4 5 = .ok (.ineg, 1) := by decide +kernel
theorem dJ9_abs_0f7a4_6 : decode cJ9_abs_0f7a4 6 = .ok (.goto 4, 3) := by decide +kernel
theorem dJ9_abs_0f7a4_9 : decode cJ9_abs_0f7a4 9 = .ok (.iload_n 0, 1) := by decide +kernel
theorem dJ9_abs_0f7a4_10 : decode cJ9_abs_0f7a4 10 = .ok (.ireturn, 1) := by decide +kernel
theorem dJ9_max_7cf53_0 : decode cJ9_max_7cf53 0 = .ok (.iload_n 0, 1) := by decide +kernel
theorem dJ9_max_7cf53_1 : decode cJ9_max_7cf53 1 = .ok (.iload_n 1, 1) := by decide +kernel
theorem dJ9_max_7cf53_2 : decode cJ9_max_7cf53 2 = .ok (.if_icmp .lt 7, 3) := by decide +kernel
theorem dJ9_max_7cf53_5 : decode cJ9_max_7cf53 5 = .ok (.iload_n 0, 1) := by decide +kernel
theorem dJ9_max_7cf53_6 : decode cJ9_max_7cf53 6 = .ok (.goto 4, 3) := by decide +kernel
theorem dJ9_max_7cf53_9 : decode cJ9_max_7cf53 9 = .ok (.iload_n 1, 1) := by decide +kernel
theorem dJ9_max_7cf53_10 : decode cJ9_max_7cf53 10 = .ok (.ireturn, 1) := by decide +kernel
theorem dJ9_min_7cf53_0 : decode cJ9_min_7cf53 0 = .ok (.iload_n 0, 1) := by decide +kernel
theorem dJ9_min_7cf53_1 : decode cJ9_min_7cf53 1 = .ok (.iload_n 1, 1) := by decide +kernel
theorem dJ9_min_7cf53_2 : decode cJ9_min_7cf53 2 = .ok (.if_icmp .gt 7, 3) := by decide +kernel
theorem dJ9_min_7cf53_5 : decode cJ9_min_7cf53 5 = .ok (.iload_n 0, 1) := by decide +kernel
theorem dJ9_min_7cf53_6 : decode cJ9_min_7cf53 6 = .ok (.goto 4, 3) := by decide +kernel
theorem dJ9_min_7cf53_9 : decode cJ9_min_7cf53 9 = .ok (.iload_n 1, 1) := by decide +kernel
theorem dJ9_min_7cf53_10 : decode cJ9_min_7cf53 10 = .ok (.ireturn, 1) := by decide +kernel
theorem dJ7_fill_53178_0 : decode cJ7_fill_53178 0 = .ok (.iconst 0, 1) := by decide +kernel
theorem dJ7_fill_53178_1 : decode cJ7_fill_53178 1 = .ok (.istore_n 2, 1) := by decide +kernel
theorem dJ7_fill_53178_2 : decode cJ7_fill_53178 2 = .ok (.aload_n 0, 1) := by decide +kernel
theorem dJ7_fill_53178_3 : decode cJ7_fill_53178 3 = .ok (.arraylength, 1) := by decide +kernel
theorem dJ7_fill_53178_4 : decode cJ7_fill_53178 4 = .ok (.istore_n 3, 1) := by decide +kernel
theorem dJ7_fill_53178_5 : decode cJ7_fill_53178 5 = .ok (.iload_n 2, 1) := by decide +kernel
theorem dJ7_fill_53178_6 : decode cJ7_fill_53178 6 = .ok (.iload_n 3, 1) := by decide +kernel
theorem dJ7_fill_53178_7 : decode cJ7_fill_53178 7 = .ok (.if_icmp .ge 13, 3) := by decide +kernel
theorem dJ7_fill_53178_10 : decode cJ7_fill_53178 10 = .ok (.aload_n 0, 1) := by decide +kernel
theorem dJ7_fill_53178_11 : decode cJ7_fill_53178 11 = .ok (.iload_n 2, 1) := by decide +kernel
theorem dJ7_fill_53178_12 : decode cJ7_fill_53178 12 = .ok (.iload_n 1, 1) := by decide +kernel
theorem dJ7_fill_53178_13 : decode cJ7_fill_53178 13 = .ok (.iastore, 1) := by decide +kernel
theorem dJ7_fill_53178_14 : decode cJ7_fill_53178 14 = .ok (.iinc 2 1, 3) := by decide +kernel
theorem dJ7_fill_53178_17 : decode cJ7_fill_53178 17 = .ok (.goto (-12), 3) := by decide +kernel
theorem dJ7_fill_53178_20 : decode cJ7_fill_53178 20 = .ok (.return_, 1) := by decide +kernel
theorem dL_law_0 : decode cL_law 0 = .ok (.new 7, 3) := by decide +kernel
theorem dL_law_3 : decode cL_law 3 = .ok (.dup, 1) := by decide +kernel
theorem dL_law_4 : decode cL_law 4 = .ok (.invokespecial 9, 3) := by decide +kernel
theorem dL_law_7 : decode cL_law 7 = .ok (.astore_n 1, 1) := by decide +kernel
theorem dL_law_8 : decode cL_law 8 = .ok (.new 10, 3) := by decide +kernel
theorem dL_law_11 : decode cL_law 11 = .ok (.dup, 1) := by decide +kernel
theorem dL_law_12 : decode cL_law 12 = .ok (.invokespecial 12, 3) := by decide +kernel
theorem dL_law_15 : decode cL_law 15 = .ok (.astore_n 2, 1) := by decide +kernel
theorem dL_law_16 : decode cL_law 16 = .ok (.iconst 0, 1) := by decide +kernel
theorem dL_law_17 : decode cL_law 17 = .ok (.istore_n 3, 1) := by decide +kernel
theorem dL_law_18 : decode cL_law 18 = .ok (.iload_n 3, 1) := by decide +kernel
theorem dL_law_19 : decode cL_law 19 = .ok (.aload_n 0, 1) := by decide +kernel
theorem dL_law_20 : decode cL_law 20 = .ok (.arraylength, 1) := by decide +kernel
theorem dL_law_21 : decode cL_law 21 = .ok (.bipush 8, 2) := by decide +kernel
theorem dL_law_23 : decode cL_law 23 = .ok (.isub, 1) := by decide +kernel
theorem dL_law_24 : decode cL_law 24 = .ok (.if_icmp .gt 1703, 3) := by decide +kernel
theorem dL_law_27 : decode cL_law 27 = .ok (.aload_n 0, 1) := by decide +kernel
theorem dL_law_28 : decode cL_law 28 = .ok (.iload_n 3, 1) := by decide +kernel
theorem dL_law_29 : decode cL_law 29 = .ok (.iaload, 1) := by decide +kernel
theorem dL_law_30 : decode cL_law 30 = .ok (.bipush 63, 2) := by decide +kernel
theorem dL_law_32 : decode cL_law 32 = .ok (.iand, 1) := by decide +kernel
theorem dL_law_33 : decode cL_law 33 = .ok (.tableswitch 1688 0 40 #[179, 232, 295, 338, 371, 404, 453, 466, 519, 552, 605, 628, 661, 736, 769, 782, 795, 828, 851, 938, 961, 994, 1047, 1080, 1093, 1116, 1203, 1236, 1259, 1282, 1295, 1348, 1371, 1414, 1447, 1460, 1483, 1506, 1549, 1572, 1625], 179) := by decide +kernel
theorem dL_law_212 : decode cL_law 212 = .ok (.aload_n 1, 1) := by decide +kernel
theorem dL_law_213 : decode cL_law 213 = .ok (.aload_n 0, 1) := by decide +kernel
theorem dL_law_214 : decode cL_law 214 = .ok (.iload_n 3, 1) := by decide +kernel
theorem dL_law_215 : decode cL_law 215 = .ok (.iconst 1, 1) := by decide +kernel
theorem dL_law_216 : decode cL_law 216 = .ok (.iadd, 1) := by decide +kernel
theorem dL_law_217 : decode cL_law 217 = .ok (.iaload, 1) := by decide +kernel
theorem dL_law_218 : decode cL_law 218 = .ok (.aload_n 0, 1) := by decide +kernel
theorem dL_law_219 : decode cL_law 219 = .ok (.iload_n 3, 1) := by decide +kernel
theorem dL_law_220 : decode cL_law 220 = .ok (.iconst 2, 1) := by decide +kernel
theorem dL_law_221 : decode cL_law 221 = .ok (.iadd, 1) := by decide +kernel
theorem dL_law_222 : decode cL_law 222 = .ok (.iaload, 1) := by decide +kernel
theorem dL_law_223 : decode cL_law 223 = .ok (.aload_n 0, 1) := by decide +kernel
theorem dL_law_224 : decode cL_law 224 = .ok (.iload_n 3, 1) := by decide +kernel
theorem dL_law_225 : decode cL_law 225 = .ok (.iconst 3, 1) := by decide +kernel
theorem dL_law_226 : decode cL_law 226 = .ok (.iadd, 1) := by decide +kernel
theorem dL_law_227 : decode cL_law 227 = .ok (.iaload, 1) := by decide +kernel
theorem dL_law_228 : decode cL_law 228 = .ok (.aload_n 0, 1) := by decide +kernel
theorem dL_law_229 : decode cL_law 229 = .ok (.iload_n 3, 1) := by decide +kernel
theorem dL_law_230 : decode cL_law 230 = .ok (.iconst 4, 1) := by decide +kernel
theorem dL_law_231 : decode cL_law 231 = .ok (.iadd, 1) := by decide +kernel
theorem dL_law_232 : decode cL_law 232 = .ok (.iaload, 1) := by decide +kernel
theorem dL_law_233 : decode cL_law 233 = .ok (.invokevirtual 13, 3) := by decide +kernel
theorem dL_law_236 : decode cL_law 236 = .ok (.aload_n 2, 1) := by decide +kernel
theorem dL_law_237 : decode cL_law 237 = .ok (.aload_n 0, 1) := by decide +kernel
theorem dL_law_238 : decode cL_law 238 = .ok (.iload_n 3, 1) := by decide +kernel
theorem dL_law_239 : decode cL_law 239 = .ok (.iconst 1, 1) := by decide +kernel
theorem dL_law_240 : decode cL_law 240 = .ok (.iadd, 1) := by decide +kernel
theorem dL_law_241 : decode cL_law 241 = .ok (.iaload, 1) := by decide +kernel
theorem dL_law_242 : decode cL_law 242 = .ok (.aload_n 0, 1) := by decide +kernel
theorem dL_law_243 : decode cL_law 243 = .ok (.iload_n 3, 1) := by decide +kernel
theorem dL_law_244 : decode cL_law 244 = .ok (.iconst 2, 1) := by decide +kernel
theorem dL_law_245 : decode cL_law 245 = .ok (.iadd, 1) := by decide +kernel
theorem dL_law_246 : decode cL_law 246 = .ok (.iaload, 1) := by decide +kernel
theorem dL_law_247 : decode cL_law 247 = .ok (.aload_n 0, 1) := by decide +kernel
theorem dL_law_248 : decode cL_law 248 = .ok (.iload_n 3, 1) := by decide +kernel
theorem dL_law_249 : decode cL_law 249 = .ok (.iconst 3, 1) := by decide +kernel
theorem dL_law_250 : decode cL_law 250 = .ok (.iadd, 1) := by decide +kernel
theorem dL_law_251 : decode cL_law 251 = .ok (.iaload, 1) := by decide +kernel
theorem dL_law_252 : decode cL_law 252 = .ok (.aload_n 0, 1) := by decide +kernel
theorem dL_law_253 : decode cL_law 253 = .ok (.iload_n 3, 1) := by decide +kernel
theorem dL_law_254 : decode cL_law 254 = .ok (.iconst 4, 1) := by decide +kernel
theorem dL_law_255 : decode cL_law 255 = .ok (.iadd, 1) := by decide +kernel
theorem dL_law_256 : decode cL_law 256 = .ok (.iaload, 1) := by decide +kernel
theorem dL_law_257 : decode cL_law 257 = .ok (.invokevirtual 17, 3) := by decide +kernel
theorem dL_law_260 : decode cL_law 260 = .ok (.if_icmp .eq 1461, 3) := by decide +kernel
theorem dL_law_263 : decode cL_law 263 = .ok (.iconst 0, 1) := by decide +kernel
theorem dL_law_264 : decode cL_law 264 = .ok (.ireturn, 1) := by decide +kernel
theorem dL_law_265 : decode cL_law 265 = .ok (.aload_n 1, 1) := by decide +kernel
theorem dL_law_266 : decode cL_law 266 = .ok (.aload_n 0, 1) := by decide +kernel
theorem dL_law_267 : decode cL_law 267 = .ok (.iload_n 3, 1) := by decide +kernel
theorem dL_law_268 : decode cL_law 268 = .ok (.iconst 1, 1) := by decide +kernel
theorem dL_law_269 : decode cL_law 269 = .ok (.iadd, 1) := by decide +kernel
theorem dL_law_270 : decode cL_law 270 = .ok (.iaload, 1) := by decide +kernel
theorem dL_law_271 : decode cL_law 271 = .ok (.aload_n 0, 1) := by decide +kernel
theorem dL_law_272 : decode cL_law 272 = .ok (.iload_n 3, 1) := by decide +kernel
theorem dL_law_273 : decode cL_law 273 = .ok (.iconst 2, 1) := by decide +kernel
theorem dL_law_274 : decode cL_law 274 = .ok (.iadd, 1) := by decide +kernel
theorem dL_law_275 : decode cL_law 275 = .ok (.iaload, 1) := by decide +kernel
theorem dL_law_276 : decode cL_law 276 = .ok (.aload_n 0, 1) := by decide +kernel
theorem dL_law_277 : decode cL_law 277 = .ok (.iload_n 3, 1) := by decide +kernel
theorem dL_law_278 : decode cL_law 278 = .ok (.iconst 3, 1) := by decide +kernel
theorem dL_law_279 : decode cL_law 279 = .ok (.iadd, 1) := by decide +kernel
theorem dL_law_280 : decode cL_law 280 = .ok (.iaload, 1) := by decide +kernel
theorem dL_law_281 : decode cL_law 281 = .ok (.aload_n 0, 1) := by decide +kernel
theorem dL_law_282 : decode cL_law 282 = .ok (.iload_n 3, 1) := by decide +kernel
theorem dL_law_283 : decode cL_law 283 = .ok (.iconst 4, 1) := by decide +kernel
theorem dL_law_284 : decode cL_law 284 = .ok (.iadd, 1) := by decide +kernel
theorem dL_law_285 : decode cL_law 285 = .ok (.iaload, 1) := by decide +kernel
theorem dL_law_286 : decode cL_law 286 = .ok (.aload_n 0, 1) := by decide +kernel
theorem dL_law_287 : decode cL_law 287 = .ok (.iload_n 3, 1) := by decide +kernel
theorem dL_law_288 : decode cL_law 288 = .ok (.iconst 5, 1) := by decide +kernel
theorem dL_law_289 : decode cL_law 289 = .ok (.iadd, 1) := by decide +kernel
theorem dL_law_290 : decode cL_law 290 = .ok (.iaload, 1) := by decide +kernel
theorem dL_law_291 : decode cL_law 291 = .ok (.invokevirtual 18, 3) := by decide +kernel
theorem dL_law_294 : decode cL_law 294 = .ok (.aload_n 2, 1) := by decide +kernel
theorem dL_law_295 : decode cL_law 295 = .ok (.aload_n 0, 1) := by decide +kernel
theorem dL_law_296 : decode cL_law 296 = .ok (.iload_n 3, 1) := by decide +kernel
theorem dL_law_297 : decode cL_law 297 = .ok (.iconst 1, 1) := by decide +kernel
theorem dL_law_298 : decode cL_law 298 = .ok (.iadd, 1) := by decide +kernel
theorem dL_law_299 : decode cL_law 299 = .ok (.iaload, 1) := by decide +kernel
theorem dL_law_300 : decode cL_law 300 = .ok (.aload_n 0, 1) := by decide +kernel
theorem dL_law_301 : decode cL_law 301 = .ok (.iload_n 3, 1) := by decide +kernel
theorem dL_law_302 : decode cL_law 302 = .ok (.iconst 2, 1) := by decide +kernel
theorem dL_law_303 : decode cL_law 303 = .ok (.iadd, 1) := by decide +kernel
theorem dL_law_304 : decode cL_law 304 = .ok (.iaload, 1) := by decide +kernel
theorem dL_law_305 : decode cL_law 305 = .ok (.aload_n 0, 1) := by decide +kernel
theorem dL_law_306 : decode cL_law 306 = .ok (.iload_n 3, 1) := by decide +kernel
theorem dL_law_307 : decode cL_law 307 = .ok (.iconst 3, 1) := by decide +kernel
theorem dL_law_308 : decode cL_law 308 = .ok (.iadd, 1) := by decide +kernel
theorem dL_law_309 : decode cL_law 309 = .ok (.iaload, 1) := by decide +kernel
theorem dL_law_310 : decode cL_law 310 = .ok (.aload_n 0, 1) := by decide +kernel
theorem dL_law_311 : decode cL_law 311 = .ok (.iload_n 3, 1) := by decide +kernel
theorem dL_law_312 : decode cL_law 312 = .ok (.iconst 4, 1) := by decide +kernel
theorem dL_law_313 : decode cL_law 313 = .ok (.iadd, 1) := by decide +kernel
theorem dL_law_314 : decode cL_law 314 = .ok (.iaload, 1) := by decide +kernel
theorem dL_law_315 : decode cL_law 315 = .ok (.aload_n 0, 1) := by decide +kernel
theorem dL_law_316 : decode cL_law 316 = .ok (.iload_n 3, 1) := by decide +kernel
theorem dL_law_317 : decode cL_law 317 = .ok (.iconst 5, 1) := by decide +kernel
theorem dL_law_318 : decode cL_law 318 = .ok (.iadd, 1) := by decide +kernel
theorem dL_law_319 : decode cL_law 319 = .ok (.iaload, 1) := by decide +kernel
theorem dL_law_320 : decode cL_law 320 = .ok (.invokevirtual 22, 3) := by decide +kernel
theorem dL_law_323 : decode cL_law 323 = .ok (.if_icmp .eq 1398, 3) := by decide +kernel
theorem dL_law_326 : decode cL_law 326 = .ok (.iconst 0, 1) := by decide +kernel
theorem dL_law_327 : decode cL_law 327 = .ok (.ireturn, 1) := by decide +kernel
theorem dL_law_328 : decode cL_law 328 = .ok (.aload_n 1, 1) := by decide +kernel
theorem dL_law_329 : decode cL_law 329 = .ok (.aload_n 0, 1) := by decide +kernel
theorem dL_law_330 : decode cL_law 330 = .ok (.iload_n 3, 1) := by decide +kernel
theorem dL_law_331 : decode cL_law 331 = .ok (.iconst 1, 1) := by decide +kernel
theorem dL_law_332 : decode cL_law 332 = .ok (.iadd, 1) := by decide +kernel
theorem dL_law_333 : decode cL_law 333 = .ok (.iaload, 1) := by decide +kernel
theorem dL_law_334 : decode cL_law 334 = .ok (.aload_n 0, 1) := by decide +kernel
theorem dL_law_335 : decode cL_law 335 = .ok (.iload_n 3, 1) := by decide +kernel
theorem dL_law_336 : decode cL_law 336 = .ok (.iconst 2, 1) := by decide +kernel
theorem dL_law_337 : decode cL_law 337 = .ok (.iadd, 1) := by decide +kernel
theorem dL_law_338 : decode cL_law 338 = .ok (.iaload, 1) := by decide +kernel
theorem dL_law_339 : decode cL_law 339 = .ok (.aload_n 0, 1) := by decide +kernel
theorem dL_law_340 : decode cL_law 340 = .ok (.iload_n 3, 1) := by decide +kernel
theorem dL_law_341 : decode cL_law 341 = .ok (.iconst 3, 1) := by decide +kernel
theorem dL_law_342 : decode cL_law 342 = .ok (.iadd, 1) := by decide +kernel
theorem dL_law_343 : decode cL_law 343 = .ok (.iaload, 1) := by decide +kernel
theorem dL_law_344 : decode cL_law 344 = .ok (.invokevirtual 23, 3) := by decide +kernel
theorem dL_law_347 : decode cL_law 347 = .ok (.aload_n 2, 1) := by decide +kernel
theorem dL_law_348 : decode cL_law 348 = .ok (.aload_n 0, 1) := by decide +kernel
theorem dL_law_349 : decode cL_law 349 = .ok (.iload_n 3, 1) := by decide +kernel
theorem dL_law_350 : decode cL_law 350 = .ok (.iconst 1, 1) := by decide +kernel
theorem dL_law_351 : decode cL_law 351 = .ok (.iadd, 1) := by decide +kernel
theorem dL_law_352 : decode cL_law 352 = .ok (.iaload, 1) := by decide +kernel
theorem dL_law_353 : decode cL_law 353 = .ok (.aload_n 0, 1) := by decide +kernel
theorem dL_law_354 : decode cL_law 354 = .ok (.iload_n 3, 1) := by decide +kernel
theorem dL_law_355 : decode cL_law 355 = .ok (.iconst 2, 1) := by decide +kernel
theorem dL_law_356 : decode cL_law 356 = .ok (.iadd, 1) := by decide +kernel
theorem dL_law_357 : decode cL_law 357 = .ok (.iaload, 1) := by decide +kernel
theorem dL_law_358 : decode cL_law 358 = .ok (.aload_n 0, 1) := by decide +kernel
theorem dL_law_359 : decode cL_law 359 = .ok (.iload_n 3, 1) := by decide +kernel
theorem dL_law_360 : decode cL_law 360 = .ok (.iconst 3, 1) := by decide +kernel
theorem dL_law_361 : decode cL_law 361 = .ok (.iadd, 1) := by decide +kernel
theorem dL_law_362 : decode cL_law 362 = .ok (.iaload, 1) := by decide +kernel
theorem dL_law_363 : decode cL_law 363 = .ok (.invokevirtual 27, 3) := by decide +kernel
theorem dL_law_366 : decode cL_law 366 = .ok (.if_icmp .eq 1355, 3) := by decide +kernel
theorem dL_law_369 : decode cL_law 369 = .ok (.iconst 0, 1) := by decide +kernel
theorem dL_law_370 : decode cL_law 370 = .ok (.ireturn, 1) := by decide +kernel
theorem dL_law_371 : decode cL_law 371 = .ok (.aload_n 1, 1) := by decide +kernel
theorem dL_law_372 : decode cL_law 372 = .ok (.aload_n 0, 1) := by decide +kernel
theorem dL_law_373 : decode cL_law 373 = .ok (.iload_n 3, 1) := by decide +kernel
theorem dL_law_374 : decode cL_law 374 = .ok (.iconst 1, 1) := by decide +kernel
theorem dL_law_375 : decode cL_law 375 = .ok (.iadd, 1) := by decide +kernel
theorem dL_law_376 : decode cL_law 376 = .ok (.iaload, 1) := by decide +kernel
theorem dL_law_377 : decode cL_law 377 = .ok (.aload_n 0, 1) := by decide +kernel
theorem dL_law_378 : decode cL_law 378 = .ok (.iload_n 3, 1) := by decide +kernel
theorem dL_law_379 : decode cL_law 379 = .ok (.iconst 2, 1) := by decide +kernel
theorem dL_law_380 : decode cL_law 380 = .ok (.iadd, 1) := by decide +kernel
theorem dL_law_381 : decode cL_law 381 = .ok (.iaload, 1) := by decide +kernel
theorem dL_law_382 : decode cL_law 382 = .ok (.invokevirtual 28, 3) := by decide +kernel
theorem dL_law_385 : decode cL_law 385 = .ok (.aload_n 2, 1) := by decide +kernel
theorem dL_law_386 : decode cL_law 386 = .ok (.aload_n 0, 1) := by decide +kernel
theorem dL_law_387 : decode cL_law 387 = .ok (.iload_n 3, 1) := by decide +kernel
theorem dL_law_388 : decode cL_law 388 = .ok (.iconst 1, 1) := by decide +kernel
theorem dL_law_389 : decode cL_law 389 = .ok (.iadd, 1) := by decide +kernel
theorem dL_law_390 : decode cL_law 390 = .ok (.iaload, 1) := by decide +kernel
theorem dL_law_391 : decode cL_law 391 = .ok (.aload_n 0, 1) := by decide +kernel
theorem dL_law_392 : decode cL_law 392 = .ok (.iload_n 3, 1) := by decide +kernel
theorem dL_law_393 : decode cL_law 393 = .ok (.iconst 2, 1) := by decide +kernel
theorem dL_law_394 : decode cL_law 394 = .ok (.iadd, 1) := by decide +kernel
theorem dL_law_395 : decode cL_law 395 = .ok (.iaload, 1) := by decide +kernel
theorem dL_law_396 : decode cL_law 396 = .ok (.invokevirtual 32, 3) := by decide +kernel
theorem dL_law_399 : decode cL_law 399 = .ok (.if_icmp .eq 1322, 3) := by decide +kernel
theorem dL_law_402 : decode cL_law 402 = .ok (.iconst 0, 1) := by decide +kernel
theorem dL_law_403 : decode cL_law 403 = .ok (.ireturn, 1) := by decide +kernel
theorem dL_law_404 : decode cL_law 404 = .ok (.aload_n 1, 1) := by decide +kernel
theorem dL_law_405 : decode cL_law 405 = .ok (.aload_n 0, 1) := by decide +kernel
theorem dL_law_406 : decode cL_law 406 = .ok (.iload_n 3, 1) := by decide +kernel
theorem dL_law_407 : decode cL_law 407 = .ok (.iconst 1, 1) := by decide +kernel
theorem dL_law_408 : decode cL_law 408 = .ok (.iadd, 1) := by decide +kernel
theorem dL_law_409 : decode cL_law 409 = .ok (.iaload, 1) := by decide +kernel
theorem dL_law_410 : decode cL_law 410 = .ok (.aload_n 0, 1) := by decide +kernel
theorem dL_law_411 : decode cL_law 411 = .ok (.iload_n 3, 1) := by decide +kernel
theorem dL_law_412 : decode cL_law 412 = .ok (.iconst 2, 1) := by decide +kernel
theorem dL_law_413 : decode cL_law 413 = .ok (.iadd, 1) := by decide +kernel
theorem dL_law_414 : decode cL_law 414 = .ok (.iaload, 1) := by decide +kernel
theorem dL_law_415 : decode cL_law 415 = .ok (.invokevirtual 33, 3) := by decide +kernel
theorem dL_law_418 : decode cL_law 418 = .ok (.aload_n 2, 1) := by decide +kernel
theorem dL_law_419 : decode cL_law 419 = .ok (.aload_n 0, 1) := by decide +kernel
theorem dL_law_420 : decode cL_law 420 = .ok (.iload_n 3, 1) := by decide +kernel
theorem dL_law_421 : decode cL_law 421 = .ok (.iconst 1, 1) := by decide +kernel
theorem dL_law_422 : decode cL_law 422 = .ok (.iadd, 1) := by decide +kernel
theorem dL_law_423 : decode cL_law 423 = .ok (.iaload, 1) := by decide +kernel
theorem dL_law_424 : decode cL_law 424 = .ok (.aload_n 0, 1) := by decide +kernel
theorem dL_law_425 : decode cL_law 425 = .ok (.iload_n 3, 1) := by decide +kernel
theorem dL_law_426 : decode cL_law 426 = .ok (.iconst 2, 1) := by decide +kernel
theorem dL_law_427 : decode cL_law 427 = .ok (.iadd, 1) := by decide +kernel
theorem dL_law_428 : decode cL_law 428 = .ok (.iaload, 1) := by decide +kernel
theorem dL_law_429 : decode cL_law 429 = .ok (.invokevirtual 36, 3) := by decide +kernel
theorem dL_law_432 : decode cL_law 432 = .ok (.if_icmp .eq 1289, 3) := by decide +kernel
theorem dL_law_435 : decode cL_law 435 = .ok (.iconst 0, 1) := by decide +kernel
theorem dL_law_436 : decode cL_law 436 = .ok (.ireturn, 1) := by decide +kernel
theorem dL_law_437 : decode cL_law 437 = .ok (.aload_n 1, 1) := by decide +kernel
theorem dL_law_438 : decode cL_law 438 = .ok (.aload_n 0, 1) := by decide +kernel
theorem dL_law_439 : decode cL_law 439 = .ok (.iload_n 3, 1) := by decide +kernel
theorem dL_law_440 : decode cL_law 440 = .ok (.iconst 1, 1) := by decide +kernel
theorem dL_law_441 : decode cL_law 441 = .ok (.iadd, 1) := by decide +kernel
theorem dL_law_442 : decode cL_law 442 = .ok (.iaload, 1) := by decide +kernel
theorem dL_law_443 : decode cL_law 443 = .ok (.aload_n 0, 1) := by decide +kernel
theorem dL_law_444 : decode cL_law 444 = .ok (.iload_n 3, 1) := by decide +kernel
theorem dL_law_445 : decode cL_law 445 = .ok (.iconst 2, 1) := by decide +kernel
theorem dL_law_446 : decode cL_law 446 = .ok (.iadd, 1) := by decide +kernel
theorem dL_law_447 : decode cL_law 447 = .ok (.iaload, 1) := by decide +kernel
theorem dL_law_448 : decode cL_law 448 = .ok (.ifCond .eq 7, 3) := by decide +kernel
theorem dL_law_451 : decode cL_law 451 = .ok (.iconst 1, 1) := by decide +kernel
theorem dL_law_452 : decode cL_law 452 = .ok (.goto 4, 3) := by decide +kernel
theorem dL_law_455 : decode cL_law 455 = .ok (.iconst 0, 1) := by decide +kernel
theorem dL_law_456 : decode cL_law 456 = .ok (.invokevirtual 37, 3) := by decide +kernel
theorem dL_law_459 : decode cL_law 459 = .ok (.aload_n 2, 1) := by decide +kernel
theorem dL_law_460 : decode cL_law 460 = .ok (.aload_n 0, 1) := by decide +kernel
theorem dL_law_461 : decode cL_law 461 = .ok (.iload_n 3, 1) := by decide +kernel
theorem dL_law_462 : decode cL_law 462 = .ok (.iconst 1, 1) := by decide +kernel
theorem dL_law_463 : decode cL_law 463 = .ok (.iadd, 1) := by decide +kernel
theorem dL_law_464 : decode cL_law 464 = .ok (.iaload, 1) := by decide +kernel
theorem dL_law_465 : decode cL_law 465 = .ok (.aload_n 0, 1) := by decide +kernel
theorem dL_law_466 : decode cL_law 466 = .ok (.iload_n 3, 1) := by decide +kernel
theorem dL_law_467 : decode cL_law 467 = .ok (.iconst 2, 1) := by decide +kernel
theorem dL_law_468 : decode cL_law 468 = .ok (.iadd, 1) := by decide +kernel
theorem dL_law_469 : decode cL_law 469 = .ok (.iaload, 1) := by decide +kernel
theorem dL_law_470 : decode cL_law 470 = .ok (.ifCond .eq 7, 3) := by decide +kernel
theorem dL_law_473 : decode cL_law 473 = .ok (.iconst 1, 1) := by decide +kernel
theorem dL_law_474 : decode cL_law 474 = .ok (.goto 4, 3) := by decide +kernel
theorem dL_law_477 : decode cL_law 477 = .ok (.iconst 0, 1) := by decide +kernel
theorem dL_law_478 : decode cL_law 478 = .ok (.invokevirtual 41, 3) := by decide +kernel
theorem dL_law_481 : decode cL_law 481 = .ok (.if_icmp .eq 1240, 3) := by decide +kernel
theorem dL_law_484 : decode cL_law 484 = .ok (.iconst 0, 1) := by decide +kernel
theorem dL_law_485 : decode cL_law 485 = .ok (.ireturn, 1) := by decide +kernel
theorem dL_law_486 : decode cL_law 486 = .ok (.aload_n 1, 1) := by decide +kernel
theorem dL_law_487 : decode cL_law 487 = .ok (.invokevirtual 42, 3) := by decide +kernel
theorem dL_law_490 : decode cL_law 490 = .ok (.aload_n 2, 1) := by decide +kernel
theorem dL_law_491 : decode cL_law 491 = .ok (.invokevirtual 46, 3) := by decide +kernel
theorem dL_law_494 : decode cL_law 494 = .ok (.if_icmp .eq 1227, 3) := by decide +kernel
theorem dL_law_497 : decode cL_law 497 = .ok (.iconst 0, 1) := by decide +kernel
theorem dL_law_498 : decode cL_law 498 = .ok (.ireturn, 1) := by decide +kernel
theorem dL_law_499 : decode cL_law 499 = .ok (.aload_n 1, 1) := by decide +kernel
theorem dL_law_500 : decode cL_law 500 = .ok (.aload_n 0, 1) := by decide +kernel
theorem dL_law_501 : decode cL_law 501 = .ok (.iload_n 3, 1) := by decide +kernel
theorem dL_law_502 : decode cL_law 502 = .ok (.iconst 1, 1) := by decide +kernel
theorem dL_law_503 : decode cL_law 503 = .ok (.iadd, 1) := by decide +kernel
theorem dL_law_504 : decode cL_law 504 = .ok (.iaload, 1) := by decide +kernel
theorem dL_law_505 : decode cL_law 505 = .ok (.aload_n 0, 1) := by decide +kernel
theorem dL_law_506 : decode cL_law 506 = .ok (.iload_n 3, 1) := by decide +kernel
theorem dL_law_507 : decode cL_law 507 = .ok (.iconst 2, 1) := by decide +kernel
theorem dL_law_508 : decode cL_law 508 = .ok (.iadd, 1) := by decide +kernel
theorem dL_law_509 : decode cL_law 509 = .ok (.iaload, 1) := by decide +kernel
theorem dL_law_510 : decode cL_law 510 = .ok (.aload_n 0, 1) := by decide +kernel
theorem dL_law_511 : decode cL_law 511 = .ok (.iload_n 3, 1) := by decide +kernel
theorem dL_law_512 : decode cL_law 512 = .ok (.iconst 3, 1) := by decide +kernel
theorem dL_law_513 : decode cL_law 513 = .ok (.iadd, 1) := by decide +kernel
theorem dL_law_514 : decode cL_law 514 = .ok (.iaload, 1) := by decide +kernel
theorem dL_law_515 : decode cL_law 515 = .ok (.aload_n 0, 1) := by decide +kernel
theorem dL_law_516 : decode cL_law 516 = .ok (.iload_n 3, 1) := by decide +kernel
theorem dL_law_517 : decode cL_law 517 = .ok (.iconst 4, 1) := by decide +kernel
theorem dL_law_518 : decode cL_law 518 = .ok (.iadd, 1) := by decide +kernel
theorem dL_law_519 : decode cL_law 519 = .ok (.iaload, 1) := by decide +kernel
theorem dL_law_520 : decode cL_law 520 = .ok (.invokevirtual 47, 3) := by decide +kernel
theorem dL_law_523 : decode cL_law 523 = .ok (.aload_n 2, 1) := by decide +kernel
theorem dL_law_524 : decode cL_law 524 = .ok (.aload_n 0, 1) := by decide +kernel
theorem dL_law_525 : decode cL_law 525 = .ok (.iload_n 3, 1) := by decide +kernel
theorem dL_law_526 : decode cL_law 526 = .ok (.iconst 1, 1) := by decide +kernel
theorem dL_law_527 : decode cL_law 527 = .ok (.iadd, 1) := by decide +kernel
theorem dL_law_528 : decode cL_law 528 = .ok (.iaload, 1) := by decide +kernel
theorem dL_law_529 : decode cL_law 529 = .ok (.aload_n 0, 1) := by decide +kernel
theorem dL_law_530 : decode cL_law 530 = .ok (.iload_n 3, 1) := by decide +kernel
theorem dL_law_531 : decode cL_law 531 = .ok (.iconst 2, 1) := by decide +kernel
theorem dL_law_532 : decode cL_law 532 = .ok (.iadd, 1) := by decide +kernel
theorem dL_law_533 : decode cL_law 533 = .ok (.iaload, 1) := by decide +kernel
theorem dL_law_534 : decode cL_law 534 = .ok (.aload_n 0, 1) := by decide +kernel
theorem dL_law_535 : decode cL_law 535 = .ok (.iload_n 3, 1) := by decide +kernel
theorem dL_law_536 : decode cL_law 536 = .ok (.iconst 3, 1) := by decide +kernel
theorem dL_law_537 : decode cL_law 537 = .ok (.iadd, 1) := by decide +kernel
theorem dL_law_538 : decode cL_law 538 = .ok (.iaload, 1) := by decide +kernel
theorem dL_law_539 : decode cL_law 539 = .ok (.aload_n 0, 1) := by decide +kernel
theorem dL_law_540 : decode cL_law 540 = .ok (.iload_n 3, 1) := by decide +kernel
theorem dL_law_541 : decode cL_law 541 = .ok (.iconst 4, 1) := by decide +kernel
theorem dL_law_542 : decode cL_law 542 = .ok (.iadd, 1) := by decide +kernel
theorem dL_law_543 : decode cL_law 543 = .ok (.iaload, 1) := by decide +kernel
theorem dL_law_544 : decode cL_law 544 = .ok (.invokevirtual 50, 3) := by decide +kernel
theorem dL_law_547 : decode cL_law 547 = .ok (.if_icmp .eq 1174, 3) := by decide +kernel
theorem dL_law_550 : decode cL_law 550 = .ok (.iconst 0, 1) := by decide +kernel
theorem dL_law_551 : decode cL_law 551 = .ok (.ireturn, 1) := by decide +kernel
theorem dL_law_552 : decode cL_law 552 = .ok (.aload_n 1, 1) := by decide +kernel
theorem dL_law_553 : decode cL_law 553 = .ok (.aload_n 0, 1) := by decide +kernel
theorem dL_law_554 : decode cL_law 554 = .ok (.iload_n 3, 1) := by decide +kernel
theorem dL_law_555 : decode cL_law 555 = .ok (.iconst 1, 1) := by decide +kernel
theorem dL_law_556 : decode cL_law 556 = .ok (.iadd, 1) := by decide +kernel
theorem dL_law_557 : decode cL_law 557 = .ok (.iaload, 1) := by decide +kernel
theorem dL_law_558 : decode cL_law 558 = .ok (.aload_n 0, 1) := by decide +kernel
theorem dL_law_559 : decode cL_law 559 = .ok (.iload_n 3, 1) := by decide +kernel
theorem dL_law_560 : decode cL_law 560 = .ok (.iconst 2, 1) := by decide +kernel
theorem dL_law_561 : decode cL_law 561 = .ok (.iadd, 1) := by decide +kernel
theorem dL_law_562 : decode cL_law 562 = .ok (.iaload, 1) := by decide +kernel
theorem dL_law_563 : decode cL_law 563 = .ok (.invokevirtual 51, 3) := by decide +kernel
theorem dL_law_566 : decode cL_law 566 = .ok (.aload_n 2, 1) := by decide +kernel
theorem dL_law_567 : decode cL_law 567 = .ok (.aload_n 0, 1) := by decide +kernel
theorem dL_law_568 : decode cL_law 568 = .ok (.iload_n 3, 1) := by decide +kernel
theorem dL_law_569 : decode cL_law 569 = .ok (.iconst 1, 1) := by decide +kernel
theorem dL_law_570 : decode cL_law 570 = .ok (.iadd, 1) := by decide +kernel
theorem dL_law_571 : decode cL_law 571 = .ok (.iaload, 1) := by decide +kernel
theorem dL_law_572 : decode cL_law 572 = .ok (.aload_n 0, 1) := by decide +kernel
theorem dL_law_573 : decode cL_law 573 = .ok (.iload_n 3, 1) := by decide +kernel
theorem dL_law_574 : decode cL_law 574 = .ok (.iconst 2, 1) := by decide +kernel
theorem dL_law_575 : decode cL_law 575 = .ok (.iadd, 1) := by decide +kernel
theorem dL_law_576 : decode cL_law 576 = .ok (.iaload, 1) := by decide +kernel
theorem dL_law_577 : decode cL_law 577 = .ok (.invokevirtual 54, 3) := by decide +kernel
theorem dL_law_580 : decode cL_law 580 = .ok (.if_icmp .eq 1141, 3) := by decide +kernel
theorem dL_law_583 : decode cL_law 583 = .ok (.iconst 0, 1) := by decide +kernel
theorem dL_law_584 : decode cL_law 584 = .ok (.ireturn, 1) := by decide +kernel
theorem dL_law_585 : decode cL_law 585 = .ok (.aload_n 1, 1) := by decide +kernel
theorem dL_law_586 : decode cL_law 586 = .ok (.aload_n 0, 1) := by decide +kernel
theorem dL_law_587 : decode cL_law 587 = .ok (.iload_n 3, 1) := by decide +kernel
theorem dL_law_588 : decode cL_law 588 = .ok (.iconst 1, 1) := by decide +kernel
theorem dL_law_589 : decode cL_law 589 = .ok (.iadd, 1) := by decide +kernel
theorem dL_law_590 : decode cL_law 590 = .ok (.iaload, 1) := by decide +kernel
theorem dL_law_591 : decode cL_law 591 = .ok (.aload_n 0, 1) := by decide +kernel
theorem dL_law_592 : decode cL_law 592 = .ok (.iload_n 3, 1) := by decide +kernel
theorem dL_law_593 : decode cL_law 593 = .ok (.iconst 2, 1) := by decide +kernel
theorem dL_law_594 : decode cL_law 594 = .ok (.iadd, 1) := by decide +kernel
theorem dL_law_595 : decode cL_law 595 = .ok (.iaload, 1) := by decide +kernel
theorem dL_law_596 : decode cL_law 596 = .ok (.aload_n 0, 1) := by decide +kernel
theorem dL_law_597 : decode cL_law 597 = .ok (.iload_n 3, 1) := by decide +kernel
theorem dL_law_598 : decode cL_law 598 = .ok (.iconst 3, 1) := by decide +kernel
theorem dL_law_599 : decode cL_law 599 = .ok (.iadd, 1) := by decide +kernel
theorem dL_law_600 : decode cL_law 600 = .ok (.iaload, 1) := by decide +kernel
theorem dL_law_601 : decode cL_law 601 = .ok (.aload_n 0, 1) := by decide +kernel
theorem dL_law_602 : decode cL_law 602 = .ok (.iload_n 3, 1) := by decide +kernel
theorem dL_law_603 : decode cL_law 603 = .ok (.iconst 4, 1) := by decide +kernel
theorem dL_law_604 : decode cL_law 604 = .ok (.iadd, 1) := by decide +kernel
theorem dL_law_605 : decode cL_law 605 = .ok (.iaload, 1) := by decide +kernel
theorem dL_law_606 : decode cL_law 606 = .ok (.invokevirtual 55, 3) := by decide +kernel
theorem dL_law_609 : decode cL_law 609 = .ok (.aload_n 2, 1) := by decide +kernel
theorem dL_law_610 : decode cL_law 610 = .ok (.aload_n 0, 1) := by decide +kernel
theorem dL_law_611 : decode cL_law 611 = .ok (.iload_n 3, 1) := by decide +kernel
theorem dL_law_612 : decode cL_law 612 = .ok (.iconst 1, 1) := by decide +kernel
theorem dL_law_613 : decode cL_law 613 = .ok (.iadd, 1) := by decide +kernel
theorem dL_law_614 : decode cL_law 614 = .ok (.iaload, 1) := by decide +kernel
theorem dL_law_615 : decode cL_law 615 = .ok (.aload_n 0, 1) := by decide +kernel
theorem dL_law_616 : decode cL_law 616 = .ok (.iload_n 3, 1) := by decide +kernel
theorem dL_law_617 : decode cL_law 617 = .ok (.iconst 2, 1) := by decide +kernel
theorem dL_law_618 : decode cL_law 618 = .ok (.iadd, 1) := by decide +kernel
theorem dL_law_619 : decode cL_law 619 = .ok (.iaload, 1) := by decide +kernel
theorem dL_law_620 : decode cL_law 620 = .ok (.aload_n 0, 1) := by decide +kernel
theorem dL_law_621 : decode cL_law 621 = .ok (.iload_n 3, 1) := by decide +kernel
theorem dL_law_622 : decode cL_law 622 = .ok (.iconst 3, 1) := by decide +kernel
theorem dL_law_623 : decode cL_law 623 = .ok (.iadd, 1) := by decide +kernel
theorem dL_law_624 : decode cL_law 624 = .ok (.iaload, 1) := by decide +kernel
theorem dL_law_625 : decode cL_law 625 = .ok (.aload_n 0, 1) := by decide +kernel
theorem dL_law_626 : decode cL_law 626 = .ok (.iload_n 3, 1) := by decide +kernel
theorem dL_law_627 : decode cL_law 627 = .ok (.iconst 4, 1) := by decide +kernel
theorem dL_law_628 : decode cL_law 628 = .ok (.iadd, 1) := by decide +kernel
theorem dL_law_629 : decode cL_law 629 = .ok (.iaload, 1) := by decide +kernel
theorem dL_law_630 : decode cL_law 630 = .ok (.invokevirtual 58, 3) := by decide +kernel
theorem dL_law_633 : decode cL_law 633 = .ok (.if_icmp .eq 1088, 3) := by decide +kernel
theorem dL_law_636 : decode cL_law 636 = .ok (.iconst 0, 1) := by decide +kernel
theorem dL_law_637 : decode cL_law 637 = .ok (.ireturn, 1) := by decide +kernel
theorem dL_law_638 : decode cL_law 638 = .ok (.aload_n 1, 1) := by decide +kernel
theorem dL_law_639 : decode cL_law 639 = .ok (.aload_n 0, 1) := by decide +kernel
theorem dL_law_640 : decode cL_law 640 = .ok (.iload_n 3, 1) := by decide +kernel
theorem dL_law_641 : decode cL_law 641 = .ok (.iconst 1, 1) := by decide +kernel
theorem dL_law_642 : decode cL_law 642 = .ok (.iadd, 1) := by decide +kernel
theorem dL_law_643 : decode cL_law 643 = .ok (.iaload, 1) := by decide +kernel
theorem dL_law_644 : decode cL_law 644 = .ok (.invokevirtual 59, 3) := by decide +kernel
theorem dL_law_647 : decode cL_law 647 = .ok (.aload_n 2, 1) := by decide +kernel
theorem dL_law_648 : decode cL_law 648 = .ok (.aload_n 0, 1) := by decide +kernel
theorem dL_law_649 : decode cL_law 649 = .ok (.iload_n 3, 1) := by decide +kernel
theorem dL_law_650 : decode cL_law 650 = .ok (.iconst 1, 1) := by decide +kernel
theorem dL_law_651 : decode cL_law 651 = .ok (.iadd, 1) := by decide +kernel
theorem dL_law_652 : decode cL_law 652 = .ok (.iaload, 1) := by decide +kernel
theorem dL_law_653 : decode cL_law 653 = .ok (.invokevirtual 63, 3) := by decide +kernel
theorem dL_law_656 : decode cL_law 656 = .ok (.if_icmp .eq 1065, 3) := by decide +kernel
theorem dL_law_659 : decode cL_law 659 = .ok (.iconst 0, 1) := by decide +kernel
theorem dL_law_660 : decode cL_law 660 = .ok (.ireturn, 1) := by decide +kernel
theorem dL_law_661 : decode cL_law 661 = .ok (.aload_n 1, 1) := by decide +kernel
theorem dL_law_662 : decode cL_law 662 = .ok (.aload_n 0, 1) := by decide +kernel
theorem dL_law_663 : decode cL_law 663 = .ok (.iload_n 3, 1) := by decide +kernel
theorem dL_law_664 : decode cL_law 664 = .ok (.iconst 1, 1) := by decide +kernel
theorem dL_law_665 : decode cL_law 665 = .ok (.iadd, 1) := by decide +kernel
theorem dL_law_666 : decode cL_law 666 = .ok (.iaload, 1) := by decide +kernel
theorem dL_law_667 : decode cL_law 667 = .ok (.aload_n 0, 1) := by decide +kernel
theorem dL_law_668 : decode cL_law 668 = .ok (.iload_n 3, 1) := by decide +kernel
theorem dL_law_669 : decode cL_law 669 = .ok (.iconst 2, 1) := by decide +kernel
theorem dL_law_670 : decode cL_law 670 = .ok (.iadd, 1) := by decide +kernel
theorem dL_law_671 : decode cL_law 671 = .ok (.iaload, 1) := by decide +kernel
theorem dL_law_672 : decode cL_law 672 = .ok (.invokevirtual 64, 3) := by decide +kernel
theorem dL_law_675 : decode cL_law 675 = .ok (.aload_n 2, 1) := by decide +kernel
theorem dL_law_676 : decode cL_law 676 = .ok (.aload_n 0, 1) := by decide +kernel
theorem dL_law_677 : decode cL_law 677 = .ok (.iload_n 3, 1) := by decide +kernel
theorem dL_law_678 : decode cL_law 678 = .ok (.iconst 1, 1) := by decide +kernel
theorem dL_law_679 : decode cL_law 679 = .ok (.iadd, 1) := by decide +kernel
theorem dL_law_680 : decode cL_law 680 = .ok (.iaload, 1) := by decide +kernel
theorem dL_law_681 : decode cL_law 681 = .ok (.aload_n 0, 1) := by decide +kernel
theorem dL_law_682 : decode cL_law 682 = .ok (.iload_n 3, 1) := by decide +kernel
theorem dL_law_683 : decode cL_law 683 = .ok (.iconst 2, 1) := by decide +kernel
theorem dL_law_684 : decode cL_law 684 = .ok (.iadd, 1) := by decide +kernel
theorem dL_law_685 : decode cL_law 685 = .ok (.iaload, 1) := by decide +kernel
theorem dL_law_686 : decode cL_law 686 = .ok (.invokevirtual 67, 3) := by decide +kernel
theorem dL_law_689 : decode cL_law 689 = .ok (.if_icmp .eq 1032, 3) := by decide +kernel
theorem dL_law_692 : decode cL_law 692 = .ok (.iconst 0, 1) := by decide +kernel
theorem dL_law_693 : decode cL_law 693 = .ok (.ireturn, 1) := by decide +kernel
theorem dL_law_694 : decode cL_law 694 = .ok (.aload_n 1, 1) := by decide +kernel
theorem dL_law_695 : decode cL_law 695 = .ok (.aload_n 0, 1) := by decide +kernel
theorem dL_law_696 : decode cL_law 696 = .ok (.iload_n 3, 1) := by decide +kernel
theorem dL_law_697 : decode cL_law 697 = .ok (.iconst 1, 1) := by decide +kernel
theorem dL_law_698 : decode cL_law 698 = .ok (.iadd, 1) := by decide +kernel
theorem dL_law_699 : decode cL_law 699 = .ok (.iaload, 1) := by decide +kernel
theorem dL_law_700 : decode cL_law 700 = .ok (.aload_n 0, 1) := by decide +kernel
theorem dL_law_701 : decode cL_law 701 = .ok (.iload_n 3, 1) := by decide +kernel
theorem dL_law_702 : decode cL_law 702 = .ok (.iconst 2, 1) := by decide +kernel
theorem dL_law_703 : decode cL_law 703 = .ok (.iadd, 1) := by decide +kernel
theorem dL_law_704 : decode cL_law 704 = .ok (.iaload, 1) := by decide +kernel
theorem dL_law_705 : decode cL_law 705 = .ok (.aload_n 0, 1) := by decide +kernel
theorem dL_law_706 : decode cL_law 706 = .ok (.iload_n 3, 1) := by decide +kernel
theorem dL_law_707 : decode cL_law 707 = .ok (.iconst 3, 1) := by decide +kernel
theorem dL_law_708 : decode cL_law 708 = .ok (.iadd, 1) := by decide +kernel
theorem dL_law_709 : decode cL_law 709 = .ok (.iaload, 1) := by decide +kernel
theorem dL_law_710 : decode cL_law 710 = .ok (.aload_n 0, 1) := by decide +kernel
theorem dL_law_711 : decode cL_law 711 = .ok (.iload_n 3, 1) := by decide +kernel
theorem dL_law_712 : decode cL_law 712 = .ok (.iconst 4, 1) := by decide +kernel
theorem dL_law_713 : decode cL_law 713 = .ok (.iadd, 1) := by decide +kernel
theorem dL_law_714 : decode cL_law 714 = .ok (.iaload, 1) := by decide +kernel
theorem dL_law_715 : decode cL_law 715 = .ok (.aload_n 0, 1) := by decide +kernel
theorem dL_law_716 : decode cL_law 716 = .ok (.iload_n 3, 1) := by decide +kernel
theorem dL_law_717 : decode cL_law 717 = .ok (.iconst 5, 1) := by decide +kernel
theorem dL_law_718 : decode cL_law 718 = .ok (.iadd, 1) := by decide +kernel
theorem dL_law_719 : decode cL_law 719 = .ok (.iaload, 1) := by decide +kernel
theorem dL_law_720 : decode cL_law 720 = .ok (.aload_n 0, 1) := by decide +kernel
theorem dL_law_721 : decode cL_law 721 = .ok (.iload_n 3, 1) := by decide +kernel
theorem dL_law_722 : decode cL_law 722 = .ok (.bipush 6, 2) := by decide +kernel
theorem dL_law_724 : decode cL_law 724 = .ok (.iadd, 1) := by decide +kernel
theorem dL_law_725 : decode cL_law 725 = .ok (.iaload, 1) := by decide +kernel
theorem dL_law_726 : decode cL_law 726 = .ok (.invokevirtual 68, 3) := by decide +kernel
theorem dL_law_729 : decode cL_law 729 = .ok (.aload_n 2, 1) := by decide +kernel
theorem dL_law_730 : decode cL_law 730 = .ok (.aload_n 0, 1) := by decide +kernel
theorem dL_law_731 : decode cL_law 731 = .ok (.iload_n 3, 1) := by decide +kernel
theorem dL_law_732 : decode cL_law 732 = .ok (.iconst 1, 1) := by decide +kernel
theorem dL_law_733 : decode cL_law 733 = .ok (.iadd, 1) := by decide +kernel
theorem dL_law_734 : decode cL_law 734 = .ok (.iaload, 1) := by decide +kernel
theorem dL_law_735 : decode cL_law 735 = .ok (.aload_n 0, 1) := by decide +kernel
theorem dL_law_736 : decode cL_law 736 = .ok (.iload_n 3, 1) := by decide +kernel
theorem dL_law_737 : decode cL_law 737 = .ok (.iconst 2, 1) := by decide +kernel
theorem dL_law_738 : decode cL_law 738 = .ok (.iadd, 1) := by decide +kernel
theorem dL_law_739 : decode cL_law 739 = .ok (.iaload, 1) := by decide +kernel
theorem dL_law_740 : decode cL_law 740 = .ok (.aload_n 0, 1) := by decide +kernel
theorem dL_law_741 : decode cL_law 741 = .ok (.iload_n 3, 1) := by decide +kernel
theorem dL_law_742 : decode cL_law 742 = .ok (.iconst 3, 1) := by decide +kernel
theorem dL_law_743 : decode cL_law 743 = .ok (.iadd, 1) := by decide +kernel
theorem dL_law_744 : decode cL_law 744 = .ok (.iaload, 1) := by decide +kernel
theorem dL_law_745 : decode cL_law 745 = .ok (.aload_n 0, 1) := by decide +kernel
theorem dL_law_746 : decode cL_law 746 = .ok (.iload_n 3, 1) := by decide +kernel
theorem dL_law_747 : decode cL_law 747 = .ok (.iconst 4, 1) := by decide +kernel
theorem dL_law_748 : decode cL_law 748 = .ok (.iadd, 1) := by decide +kernel
theorem dL_law_749 : decode cL_law 749 = .ok (.iaload, 1) := by decide +kernel
theorem dL_law_750 : decode cL_law 750 = .ok (.aload_n 0, 1) := by decide +kernel
theorem dL_law_751 : decode cL_law 751 = .ok (.iload_n 3, 1) := by decide +kernel
theorem dL_law_752 : decode cL_law 752 = .ok (.iconst 5, 1) := by decide +kernel
theorem dL_law_753 : decode cL_law 753 = .ok (.iadd, 1) := by decide +kernel
theorem dL_law_754 : decode cL_law 754 = .ok (.iaload, 1) := by decide +kernel
theorem dL_law_755 : decode cL_law 755 = .ok (.aload_n 0, 1) := by decide +kernel
theorem dL_law_756 : decode cL_law 756 = .ok (.iload_n 3, 1) := by decide +kernel
theorem dL_law_757 : decode cL_law 757 = .ok (.bipush 6, 2) := by decide +kernel
theorem dL_law_759 : decode cL_law 759 = .ok (.iadd, 1) := by decide +kernel
theorem dL_law_760 : decode cL_law 760 = .ok (.iaload, 1) := by decide +kernel
theorem dL_law_761 : decode cL_law 761 = .ok (.invokevirtual 72, 3) := by decide +kernel
theorem dL_law_764 : decode cL_law 764 = .ok (.if_icmp .eq 957, 3) := by decide +kernel
theorem dL_law_767 : decode cL_law 767 = .ok (.iconst 0, 1) := by decide +kernel
theorem dL_law_768 : decode cL_law 768 = .ok (.ireturn, 1) := by decide +kernel
theorem dL_law_769 : decode cL_law 769 = .ok (.aload_n 1, 1) := by decide +kernel
theorem dL_law_770 : decode cL_law 770 = .ok (.aload_n 0, 1) := by decide +kernel
theorem dL_law_771 : decode cL_law 771 = .ok (.iload_n 3, 1) := by decide +kernel
theorem dL_law_772 : decode cL_law 772 = .ok (.iconst 1, 1) := by decide +kernel
theorem dL_law_773 : decode cL_law 773 = .ok (.iadd, 1) := by decide +kernel
theorem dL_law_774 : decode cL_law 774 = .ok (.iaload, 1) := by decide +kernel
theorem dL_law_775 : decode cL_law 775 = .ok (.aload_n 0, 1) := by decide +kernel
theorem dL_law_776 : decode cL_law 776 = .ok (.iload_n 3, 1) := by decide +kernel
theorem dL_law_777 : decode cL_law 777 = .ok (.iconst 2, 1) := by decide +kernel
theorem dL_law_778 : decode cL_law 778 = .ok (.iadd, 1) := by decide +kernel
theorem dL_law_779 : decode cL_law 779 = .ok (.iaload, 1) := by decide +kernel
theorem dL_law_780 : decode cL_law 780 = .ok (.invokevirtual 73, 3) := by decide +kernel
theorem dL_law_783 : decode cL_law 783 = .ok (.aload_n 2, 1) := by decide +kernel
theorem dL_law_784 : decode cL_law 784 = .ok (.aload_n 0, 1) := by decide +kernel
theorem dL_law_785 : decode cL_law 785 = .ok (.iload_n 3, 1) := by decide +kernel
theorem dL_law_786 : decode cL_law 786 = .ok (.iconst 1, 1) := by decide +kernel
theorem dL_law_787 : decode cL_law 787 = .ok (.iadd, 1) := by decide +kernel
theorem dL_law_788 : decode cL_law 788 = .ok (.iaload, 1) := by decide +kernel
theorem dL_law_789 : decode cL_law 789 = .ok (.aload_n 0, 1) := by decide +kernel
theorem dL_law_790 : decode cL_law 790 = .ok (.iload_n 3, 1) := by decide +kernel
theorem dL_law_791 : decode cL_law 791 = .ok (.iconst 2, 1) := by decide +kernel
theorem dL_law_792 : decode cL_law 792 = .ok (.iadd, 1) := by decide +kernel
theorem dL_law_793 : decode cL_law 793 = .ok (.iaload, 1) := by decide +kernel
theorem dL_law_794 : decode cL_law 794 = .ok (.invokevirtual 76, 3) := by decide +kernel
theorem dL_law_797 : decode cL_law 797 = .ok (.if_icmp .eq 924, 3) := by decide +kernel
theorem dL_law_800 : decode cL_law 800 = .ok (.iconst 0, 1) := by decide +kernel
theorem dL_law_801 : decode cL_law 801 = .ok (.ireturn, 1) := by decide +kernel
theorem dL_law_802 : decode cL_law 802 = .ok (.aload_n 1, 1) := by decide +kernel
theorem dL_law_803 : decode cL_law 803 = .ok (.invokevirtual 77, 3) := by decide +kernel
theorem dL_law_806 : decode cL_law 806 = .ok (.aload_n 2, 1) := by decide +kernel
theorem dL_law_807 : decode cL_law 807 = .ok (.invokevirtual 80, 3) := by decide +kernel
theorem dL_law_810 : decode cL_law 810 = .ok (.if_icmp .eq 911, 3) := by decide +kernel
theorem dL_law_813 : decode cL_law 813 = .ok (.iconst 0, 1) := by decide +kernel
theorem dL_law_814 : decode cL_law 814 = .ok (.ireturn, 1) := by decide +kernel
theorem dL_law_815 : decode cL_law 815 = .ok (.aload_n 1, 1) := by decide +kernel
theorem dL_law_816 : decode cL_law 816 = .ok (.invokevirtual 81, 3) := by decide +kernel
theorem dL_law_819 : decode cL_law 819 = .ok (.aload_n 2, 1) := by decide +kernel
theorem dL_law_820 : decode cL_law 820 = .ok (.invokevirtual 84, 3) := by decide +kernel
theorem dL_law_823 : decode cL_law 823 = .ok (.if_icmp .eq 898, 3) := by decide +kernel
theorem dL_law_826 : decode cL_law 826 = .ok (.iconst 0, 1) := by decide +kernel
theorem dL_law_827 : decode cL_law 827 = .ok (.ireturn, 1) := by decide +kernel
theorem dL_law_828 : decode cL_law 828 = .ok (.aload_n 1, 1) := by decide +kernel
theorem dL_law_829 : decode cL_law 829 = .ok (.aload_n 0, 1) := by decide +kernel
theorem dL_law_830 : decode cL_law 830 = .ok (.iload_n 3, 1) := by decide +kernel
theorem dL_law_831 : decode cL_law 831 = .ok (.iconst 1, 1) := by decide +kernel
theorem dL_law_832 : decode cL_law 832 = .ok (.iadd, 1) := by decide +kernel
