theorem dX7_init_0 : decode cX7_init 0 = .ok (.aload_n 0, 1) := by decide +kernel
theorem dX7_init_1 : decode cX7_init 1 = .ok (.invokespecial 3, 3) := by decide +kernel
theorem dX7_init_4 : decode cX7_init 4 = .ok (.aload_n 0, 1) := by decide +kernel
theorem dX7_init_5 : decode cX7_init 5 = .ok (.new 9, 3) := by decide +kernel
theorem dX7_init_8 : decode cX7_init 8 = .ok (.dup, 1) := by decide +kernel
theorem dX7_init_9 : decode cX7_init 9 = .ok (.invokespecial 11, 3) := by decide +kernel
theorem dX7_init_12 : decode cX7_init 12 = .ok (.putfield 12, 3) := by decide +kernel
theorem dX7_init_15 : decode cX7_init 15 = .ok (.aload_n 0, 1) := by decide +kernel
theorem dX7_init_16 : decode cX7_init 16 = .ok (.new 16, 3) := by decide +kernel
theorem dX7_init_19 : decode cX7_init 19 = .ok (.dup, 1) := by decide +kernel
theorem dX7_init_20 : decode cX7_init 20 = .ok (.invokespecial 18, 3) := by decide +kernel
theorem dX7_init_23 : decode cX7_init 23 = .ok (.putfield 19, 3) := by decide +kernel
theorem dX7_init_26 : decode cX7_init 26 = .ok (.aload_n 0, 1) := by decide +kernel
theorem dX7_init_27 : decode cX7_init 27 = .ok (.new 23, 3) := by decide +kernel
theorem dX7_init_30 : decode cX7_init 30 = .ok (.dup, 1) := by decide +kernel
theorem dX7_init_31 : decode cX7_init 31 = .ok (.invokespecial 25, 3) := by decide +kernel
theorem dX7_init_34 : decode cX7_init 34 = .ok (.putfield 26, 3) := by decide +kernel
theorem dX7_init_37 : decode cX7_init 37 = .ok (.aload_n 0, 1) := by decide +kernel
theorem dX7_init_38 : decode cX7_init 38 = .ok (.new 30, 3) := by decide +kernel
theorem dX7_init_41 : decode cX7_init 41 = .ok (.dup, 1) := by decide +kernel
theorem dX7_init_42 : decode cX7_init 42 = .ok (.invokespecial 32, 3) := by decide +kernel
theorem dX7_init_45 : decode cX7_init 45 = .ok (.putfield 33, 3) := by decide +kernel
theorem dX7_init_48 : decode cX7_init 48 = .ok (.aload_n 0, 1) := by decide +kernel
theorem dX7_init_49 : decode cX7_init 49 = .ok (.new 37, 3) := by decide +kernel
theorem dX7_init_52 : decode cX7_init 52 = .ok (.dup, 1) := by decide +kernel
theorem dX7_init_53 : decode cX7_init 53 = .ok (.invokespecial 39, 3) := by decide +kernel
theorem dX7_init_56 : decode cX7_init 56 = .ok (.putfield 40, 3) := by decide +kernel
theorem dX7_init_59 : decode cX7_init 59 = .ok (.aload_n 0, 1) := by decide +kernel
theorem dX7_init_60 : decode cX7_init 60 = .ok (.new 37, 3) := by decide +kernel
theorem dX7_init_63 : decode cX7_init 63 = .ok (.dup, 1) := by decide +kernel
theorem dX7_init_64 : decode cX7_init 64 = .ok (.invokespecial 39, 3) := by decide +kernel
theorem dX7_init_67 : decode cX7_init 67 = .ok (.putfield 44, 3) := by decide +kernel
theorem dX7_init_70 : decode cX7_init 70 = .ok (.aload_n 0, 1) := by decide +kernel
theorem dX7_init_71 : decode cX7_init 71 = .ok (.new 47, 3) := by decide +kernel
theorem dX7_init_74 : decode cX7_init 74 = .ok (.dup, 1) := by decide +kernel
theorem dX7_init_75 : decode cX7_init 75 = .ok (.invokespecial 49, 3) := by decide +kernel
theorem dX7_init_78 : decode cX7_init 78 = .ok (.putfield 50, 3) := by decide +kernel
theorem dX7_init_81 : decode cX7_init 81 = .ok (.aload_n 0, 1) := by decide +kernel
theorem dX7_init_82 : decode cX7_init 82 = .ok (.new 54, 3) := by decide +kernel
theorem dX7_init_85 : decode cX7_init 85 = .ok (.dup, 1) := by decide +kernel
theorem dX7_init_86 : decode cX7_init 86 = .ok (.invokespecial 56, 3) := by decide +kernel
theorem dX7_init_89 : decode cX7_init 89 = .ok (.putfield 57, 3) := by decide +kernel
theorem dX7_init_92 : decode cX7_init 92 = .ok (.aload_n 0, 1) := by decide +kernel
theorem dX7_init_93 : decode cX7_init 93 = .ok (.bipush 7, 2) := by decide +kernel
theorem dX7_init_95 : decode cX7_init 95 = .ok (.newarray .int, 2) := by decide +kernel
theorem dX7_init_97 : decode cX7_init 97 = .ok (.putfield 61, 3) := by decide +kernel
theorem dX7_init_100 : decode cX7_init 100 = .ok (.aload_n 0, 1) := by decide +kernel
theorem dX7_init_101 : decode cX7_init 101 = .ok (.iconst (-1), 1) := by decide +kernel
theorem dX7_init_102 : decode cX7_init 102 = .ok (.putfield 65, 3) := by decide +kernel
theorem dX7_init_105 : decode cX7_init 105 = .ok (.aload_n 0, 1) := by decide +kernel
theorem dX7_init_106 : decode cX7_init 106 = .ok (.new 16, 3) := by decide +kernel
theorem dX7_init_109 : decode cX7_init 109 = .ok (.dup, 1) := by decide +kernel
theorem dX7_init_110 : decode cX7_init 110 = .ok (.invokespecial 18, 3) := by decide +kernel
theorem dX7_init_113 : decode cX7_init 113 = .ok (.putfield 69, 3) := by decide +kernel
theorem dX7_init_116 : decode cX7_init 116 = .ok (.aload_n 0, 1) := by decide +kernel
theorem dX7_init_117 : decode cX7_init 117 = .ok (.new 23, 3) := by decide +kernel
theorem dX7_init_120 : decode cX7_init 120 = .ok (.dup, 1) := by decide +kernel
theorem dX7_init_121 : decode cX7_init 121 = .ok (.invokespecial 25, 3) := by decide +kernel
theorem dX7_init_124 : decode cX7_init 124 = .ok (.putfield 72, 3) := by decide +kernel
theorem dX7_init_127 : decode cX7_init 127 = .ok (.aload_n 0, 1) := by decide +kernel
theorem dX7_init_128 : decode cX7_init 128 = .ok (.new 30, 3) := by decide +kernel
theorem dX7_init_131 : decode cX7_init 131 = .ok (.dup, 1) := by decide +kernel
theorem dX7_init_132 : decode cX7_init 132 = .ok (.invokespecial 32, 3) := by decide +kernel
theorem dX7_init_135 : decode cX7_init 135 = .ok (.putfield 75, 3) := by decide +kernel
theorem dX7_init_138 : decode cX7_init 138 = .ok (.aload_n 0, 1) := by decide +kernel
theorem dX7_init_139 : decode cX7_init 139 = .ok (.iconst 0, 1) := by decide +kernel
theorem dX7_init_140 : decode cX7_init 140 = .ok (.putfield 78, 3) := by decide +kernel
theorem dX7_init_143 : decode cX7_init 143 = .ok (.return_, 1) := by decide +kernel
theorem dX7_row_0 : decode cX7_row 0 = .ok (.iload_n 1, 1) := by decide +kernel
theorem dX7_row_1 : decode cX7_row 1 = .ok (.invokestatic 82, 3) := by decide +kernel
theorem dX7_row_4 : decode cX7_row 4 = .ok (.ifCond .ne 9, 3) := by decide +kernel
theorem dX7_row_7 : decode cX7_row 7 = .ok (.aload_n 0, 1) := by decide +kernel
theorem dX7_row_8 : decode cX7_row 8 = .ok (.iconst (-1), 1) := by decide +kernel
theorem dX7_row_9 : decode cX7_row 9 = .ok (.invokevirtual 86, 3) := by decide +kernel
theorem dX7_row_12 : decode cX7_row 12 = .ok (.ireturn, 1) := by decide +kernel
theorem dX7_row_13 : decode cX7_row 13 = .ok (.iload_n 3, 1) := by decide +kernel
theorem dX7_row_14 : decode cX7_row 14 = .ok (.ifCond .ge 10, 3) := by decide +kernel
theorem dX7_row_17 : decode cX7_row 17 = .ok (.aload_n 0, 1) := by decide +kernel
theorem dX7_row_18 : decode cX7_row 18 = .ok (.bipush (-4), 2) := by decide +kernel
theorem dX7_row_20 : decode cX7_row 20 = .ok (.invokevirtual 86, 3) := by decide +kernel
theorem dX7_row_23 : decode cX7_row 23 = .ok (.ireturn, 1) := by decide +kernel
theorem dX7_row_24 : decode cX7_row 24 = .ok (.iload_n 2, 1) := by decide +kernel
theorem dX7_row_25 : decode cX7_row 25 = .ok (.ifCond .lt 8, 3) := by decide +kernel
theorem dX7_row_28 : decode cX7_row 28 = .ok (.iload_n 2, 1) := by decide +kernel
theorem dX7_row_29 : decode cX7_row 29 = .ok (.iconst 3, 1) := by decide +kernel
theorem dX7_row_30 : decode cX7_row 30 = .ok (.if_icmp .le 10, 3) := by decide +kernel
theorem dX7_row_33 : decode cX7_row 33 = .ok (.aload_n 0, 1) := by decide +kernel
theorem dX7_row_34 : decode cX7_row 34 = .ok (.bipush (-6), 2) := by decide +kernel
theorem dX7_row_36 : decode cX7_row 36 = .ok (.invokevirtual 86, 3) := by decide +kernel
theorem dX7_row_39 : decode cX7_row 39 = .ok (.ireturn, 1) := by decide +kernel
theorem dX7_row_40 : decode cX7_row 40 = .ok (.iload_n 3, 1) := by decide +kernel
theorem dX7_row_41 : decode cX7_row 41 = .ok (.bipush 100, 2) := by decide +kernel
theorem dX7_row_43 : decode cX7_row 43 = .ok (.if_icmp .le 10, 3) := by decide +kernel
theorem dX7_row_46 : decode cX7_row 46 = .ok (.aload_n 0, 1) := by decide +kernel
theorem dX7_row_47 : decode cX7_row 47 = .ok (.bipush (-7), 2) := by decide +kernel
theorem dX7_row_49 : decode cX7_row 49 = .ok (.invokevirtual 86, 3) := by decide +kernel
theorem dX7_row_52 : decode cX7_row 52 = .ok (.ireturn, 1) := by decide +kernel
theorem dX7_row_53 : decode cX7_row 53 = .ok (.aload_n 0, 1) := by decide +kernel
theorem dX7_row_54 : decode cX7_row 54 = .ok (.getfield 12, 3) := by decide +kernel
theorem dX7_row_57 : decode cX7_row 57 = .ok (.iload_n 1, 1) := by decide +kernel
theorem dX7_row_58 : decode cX7_row 58 = .ok (.iload_n 2, 1) := by decide +kernel
theorem dX7_row_59 : decode cX7_row 59 = .ok (.iload_n 3, 1) := by decide +kernel
theorem dX7_row_60 : decode cX7_row 60 = .ok (.invokevirtual 90, 3) := by decide +kernel
theorem dX7_row_63 : decode cX7_row 63 = .ok (.iconst 1, 1) := by decide +kernel
theorem dX7_row_64 : decode cX7_row 64 = .ok (.ireturn, 1) := by decide +kernel
theorem dX7_set_0 : decode cX7_set 0 = .ok (.aload_n 0, 1) := by decide +kernel
theorem dX7_set_1 : decode cX7_set 1 = .ok (.iload_n 1, 1) := by decide +kernel
theorem dX7_set_2 : decode cX7_set 2 = .ok (.invokevirtual 94, 3) := by decide +kernel
theorem dX7_set_5 : decode cX7_set 5 = .ok (.istore 5, 2) := by decide +kernel
theorem dX7_set_7 : decode cX7_set 7 = .ok (.iload 5, 2) := by decide +kernel
theorem dX7_set_9 : decode cX7_set 9 = .ok (.ifCond .eq 10, 3) := by decide +kernel
theorem dX7_set_12 : decode cX7_set 12 = .ok (.aload_n 0, 1) := by decide +kernel
theorem dX7_set_13 : decode cX7_set 13 = .ok (.iload 5, 2) := by decide +kernel
theorem dX7_set_15 : decode cX7_set 15 = .ok (.invokevirtual 86, 3) := by decide +kernel
theorem dX7_set_18 : decode cX7_set 18 = .ok (.ireturn, 1) := by decide +kernel
theorem dX7_set_19 : decode cX7_set 19 = .ok (.aload_n 0, 1) := by decide +kernel
theorem dX7_set_20 : decode cX7_set 20 = .ok (.getfield 12, 3) := by decide +kernel
theorem dX7_set_23 : decode cX7_set 23 = .ok (.iload_n 1, 1) := by decide +kernel
theorem dX7_set_24 : decode cX7_set 24 = .ok (.iload_n 2, 1) := by decide +kernel
theorem dX7_set_25 : decode cX7_set 25 = .ok (.invokevirtual 97, 3) := by decide +kernel
theorem dX7_set_28 : decode cX7_set 28 = .ok (.ifCond .ne 10, 3) := by decide +kernel
theorem dX7_set_31 : decode cX7_set 31 = .ok (.aload_n 0, 1) := by decide +kernel
theorem dX7_set_32 : decode cX7_set 32 = .ok (.bipush (-5), 2) := by decide +kernel
theorem dX7_set_34 : decode cX7_set 34 = .ok (.invokevirtual 86, 3) := by decide +kernel
theorem dX7_set_37 : decode cX7_set 37 = .ok (.ireturn, 1) := by decide +kernel
theorem dX7_set_38 : decode cX7_set 38 = .ok (.aload_n 0, 1) := by decide +kernel
theorem dX7_set_39 : decode cX7_set 39 = .ok (.getfield 12, 3) := by decide +kernel
theorem dX7_set_42 : decode cX7_set 42 = .ok (.iload_n 1, 1) := by decide +kernel
theorem dX7_set_43 : decode cX7_set 43 = .ok (.iload_n 2, 1) := by decide +kernel
theorem dX7_set_44 : decode cX7_set 44 = .ok (.lload_n 3, 1) := by decide +kernel
theorem dX7_set_45 : decode cX7_set 45 = .ok (.invokevirtual 101, 3) := by decide +kernel
theorem dX7_set_48 : decode cX7_set 48 = .ok (.iconst 1, 1) := by decide +kernel
theorem dX7_set_49 : decode cX7_set 49 = .ok (.ireturn, 1) := by decide +kernel
theorem dX7_copy_0 : decode cX7_copy 0 = .ok (.aload_n 0, 1) := by decide +kernel
theorem dX7_copy_1 : decode cX7_copy 1 = .ok (.iload_n 1, 1) := by decide +kernel
theorem dX7_copy_2 : decode cX7_copy 2 = .ok (.iload_n 2, 1) := by decide +kernel
theorem dX7_copy_3 : decode cX7_copy 3 = .ok (.invokevirtual 105, 3) := by decide +kernel
theorem dX7_copy_6 : decode cX7_copy 6 = .ok (.istore 6, 2) := by decide +kernel
theorem dX7_copy_8 : decode cX7_copy 8 = .ok (.iload 6, 2) := by decide +kernel
theorem dX7_copy_10 : decode cX7_copy 10 = .ok (.ifCond .eq 10, 3) := by decide +kernel
theorem dX7_copy_13 : decode cX7_copy 13 = .ok (.aload_n 0, 1) := by decide +kernel
theorem dX7_copy_14 : decode cX7_copy 14 = .ok (.iload 6, 2) := by decide +kernel
theorem dX7_copy_16 : decode cX7_copy 16 = .ok (.invokevirtual 86, 3) := by decide +kernel
theorem dX7_copy_19 : decode cX7_copy 19 = .ok (.ireturn, 1) := by decide +kernel
theorem dX7_copy_20 : decode cX7_copy 20 = .ok (.iload 5, 2) := by decide +kernel
theorem dX7_copy_22 : decode cX7_copy 22 = .ok (.ifCond .ge 10, 3) := by decide +kernel
theorem dX7_copy_25 : decode cX7_copy 25 = .ok (.aload_n 0, 1) := by decide +kernel
theorem dX7_copy_26 : decode cX7_copy 26 = .ok (.bipush (-4), 2) := by decide +kernel
theorem dX7_copy_28 : decode cX7_copy 28 = .ok (.invokevirtual 86, 3) := by decide +kernel
theorem dX7_copy_31 : decode cX7_copy 31 = .ok (.ireturn, 1) := by decide +kernel
theorem dX7_copy_32 : decode cX7_copy 32 = .ok (.aload_n 0, 1) := by decide +kernel
theorem dX7_copy_33 : decode cX7_copy 33 = .ok (.getfield 12, 3) := by decide +kernel
theorem dX7_copy_36 : decode cX7_copy 36 = .ok (.iload_n 1, 1) := by decide +kernel
theorem dX7_copy_37 : decode cX7_copy 37 = .ok (.iload_n 3, 1) := by decide +kernel
theorem dX7_copy_38 : decode cX7_copy 38 = .ok (.iload 5, 2) := by decide +kernel
theorem dX7_copy_40 : decode cX7_copy 40 = .ok (.invokevirtual 109, 3) := by decide +kernel
theorem dX7_copy_43 : decode cX7_copy 43 = .ok (.ifCond .eq 18, 3) := by decide +kernel
theorem dX7_copy_46 : decode cX7_copy 46 = .ok (.aload_n 0, 1) := by decide +kernel
theorem dX7_copy_47 : decode cX7_copy 47 = .ok (.getfield 12, 3) := by decide +kernel
theorem dX7_copy_50 : decode cX7_copy 50 = .ok (.iload_n 2, 1) := by decide +kernel
theorem dX7_copy_51 : decode cX7_copy 51 = .ok (.iload 4, 2) := by decide +kernel
theorem dX7_copy_53 : decode cX7_copy 53 = .ok (.iload 5, 2) := by decide +kernel
theorem dX7_copy_55 : decode cX7_copy 55 = .ok (.invokevirtual 109, 3) := by decide +kernel
theorem dX7_copy_58 : decode cX7_copy 58 = .ok (.ifCond .ne 10, 3) := by decide +kernel
theorem dX7_copy_61 : decode cX7_copy 61 = .ok (.aload_n 0, 1) := by decide +kernel
theorem dX7_copy_62 : decode cX7_copy 62 = .ok (.bipush (-5), 2) := by decide +kernel
theorem dX7_copy_64 : decode cX7_copy 64 = .ok (.invokevirtual 86, 3) := by decide +kernel
theorem dX7_copy_67 : decode cX7_copy 67 = .ok (.ireturn, 1) := by decide +kernel
theorem dX7_copy_68 : decode cX7_copy 68 = .ok (.aload_n 0, 1) := by decide +kernel
theorem dX7_copy_69 : decode cX7_copy 69 = .ok (.getfield 12, 3) := by decide +kernel
theorem dX7_copy_72 : decode cX7_copy 72 = .ok (.iload_n 1, 1) := by decide +kernel
theorem dX7_copy_73 : decode cX7_copy 73 = .ok (.iload_n 2, 1) := by decide +kernel
theorem dX7_copy_74 : decode cX7_copy 74 = .ok (.iload_n 3, 1) := by decide +kernel
theorem dX7_copy_75 : decode cX7_copy 75 = .ok (.iload 4, 2) := by decide +kernel
theorem dX7_copy_77 : decode cX7_copy 77 = .ok (.iload 5, 2) := by decide +kernel
theorem dX7_copy_79 : decode cX7_copy 79 = .ok (.invokevirtual 113, 3) := by decide +kernel
theorem dX7_copy_82 : decode cX7_copy 82 = .ok (.iconst 1, 1) := by decide +kernel
theorem dX7_copy_83 : decode cX7_copy 83 = .ok (.ireturn, 1) := by decide +kernel
theorem dX7_element_0 : decode cX7_element 0 = .ok (.aload_n 0, 1) := by decide +kernel
theorem dX7_element_1 : decode cX7_element 1 = .ok (.getfield 12, 3) := by decide +kernel
theorem dX7_element_4 : decode cX7_element 4 = .ok (.iload_n 1, 1) := by decide +kernel
theorem dX7_element_5 : decode cX7_element 5 = .ok (.iload_n 2, 1) := by decide +kernel
theorem dX7_element_6 : decode cX7_element 6 = .ok (.invokevirtual 117, 3) := by decide +kernel
theorem dX7_element_9 : decode cX7_element 9 = .ok (.lreturn, 1) := by decide +kernel
theorem dX7_show_0 : decode cX7_show 0 = .ok (.iload_n 1, 1) := by decide +kernel
theorem dX7_show_1 : decode cX7_show 1 = .ok (.invokestatic 82, 3) := by decide +kernel
theorem dX7_show_4 : decode cX7_show 4 = .ok (.ifCond .eq 19, 3) := by decide +kernel
theorem dX7_show_7 : decode cX7_show 7 = .ok (.iload_n 2, 1) := by decide +kernel
theorem dX7_show_8 : decode cX7_show 8 = .ok (.iconst (-1), 1) := by decide +kernel
theorem dX7_show_9 : decode cX7_show 9 = .ok (.if_icmp .eq 20, 3) := by decide +kernel
theorem dX7_show_12 : decode cX7_show 12 = .ok (.aload_n 0, 1) := by decide +kernel
theorem dX7_show_13 : decode cX7_show 13 = .ok (.getfield 19, 3) := by decide +kernel
theorem dX7_show_16 : decode cX7_show 16 = .ok (.iload_n 2, 1) := by decide +kernel
theorem dX7_show_17 : decode cX7_show 17 = .ok (.invokevirtual 121, 3) := by decide +kernel
theorem dX7_show_20 : decode cX7_show 20 = .ok (.ifCond .ne 9, 3) := by decide +kernel
theorem dX7_show_23 : decode cX7_show 23 = .ok (.aload_n 0, 1) := by decide +kernel
theorem dX7_show_24 : decode cX7_show 24 = .ok (.iconst (-1), 1) := by decide +kernel
theorem dX7_show_25 : decode cX7_show 25 = .ok (.invokevirtual 86, 3) := by decide +kernel
theorem dX7_show_28 : decode cX7_show 28 = .ok (.ireturn, 1) := by decide +kernel
theorem dX7_show_29 : decode cX7_show 29 = .ok (.aload_n 0, 1) := by decide +kernel
theorem dX7_show_30 : decode cX7_show 30 = .ok (.getfield 12, 3) := by decide +kernel
theorem dX7_show_33 : decode cX7_show 33 = .ok (.getfield 124, 3) := by decide +kernel
theorem dX7_show_36 : decode cX7_show 36 = .ok (.iload_n 1, 1) := by decide +kernel
theorem dX7_show_37 : decode cX7_show 37 = .ok (.iload_n 2, 1) := by decide +kernel
theorem dX7_show_38 : decode cX7_show 38 = .ok (.iastore, 1) := by decide +kernel
theorem dX7_show_39 : decode cX7_show 39 = .ok (.iload_n 2, 1) := by decide +kernel
theorem dX7_show_40 : decode cX7_show 40 = .ok (.iconst (-1), 1) := by decide +kernel
theorem dX7_show_41 : decode cX7_show 41 = .ok (.if_icmp .ne 7, 3) := by decide +kernel
theorem dX7_show_44 : decode cX7_show 44 = .ok (.iconst 0, 1) := by decide +kernel
theorem dX7_show_45 : decode cX7_show 45 = .ok (.goto 4, 3) := by decide +kernel
theorem dX7_show_48 : decode cX7_show 48 = .ok (.iconst 1, 1) := by decide +kernel
theorem dX7_show_49 : decode cX7_show 49 = .ok (.ireturn, 1) := by decide +kernel
theorem dX7_holds_0 : decode cX7_holds 0 = .ok (.iload_n 1, 1) := by decide +kernel
theorem dX7_holds_1 : decode cX7_holds 1 = .ok (.invokestatic 82, 3) := by decide +kernel
theorem dX7_holds_4 : decode cX7_holds 4 = .ok (.ifCond .eq 15, 3) := by decide +kernel
theorem dX7_holds_7 : decode cX7_holds 7 = .ok (.aload_n 0, 1) := by decide +kernel
theorem dX7_holds_8 : decode cX7_holds 8 = .ok (.getfield 12, 3) := by decide +kernel
theorem dX7_holds_11 : decode cX7_holds 11 = .ok (.getfield 124, 3) := by decide +kernel
theorem dX7_holds_14 : decode cX7_holds 14 = .ok (.iload_n 1, 1) := by decide +kernel
theorem dX7_holds_15 : decode cX7_holds 15 = .ok (.iaload, 1) := by decide +kernel
theorem dX7_holds_16 : decode cX7_holds 16 = .ok (.goto 4, 3) := by decide +kernel
theorem dX7_holds_19 : decode cX7_holds 19 = .ok (.iconst (-1), 1) := by decide +kernel
theorem dX7_holds_20 : decode cX7_holds 20 = .ok (.ireturn, 1) := by decide +kernel
theorem dX7_says_0 : decode cX7_says 0 = .ok (.iload_n 1, 1) := by decide +kernel
theorem dX7_says_1 : decode cX7_says 1 = .ok (.invokestatic 82, 3) := by decide +kernel
theorem dX7_says_4 : decode cX7_says 4 = .ok (.ifCond .eq 10, 3) := by decide +kernel
theorem dX7_says_7 : decode cX7_says 7 = .ok (.iload_n 2, 1) := by decide +kernel
theorem dX7_says_8 : decode cX7_says 8 = .ok (.invokestatic 127, 3) := by decide +kernel
theorem dX7_says_11 : decode cX7_says 11 = .ok (.ifCond .ne 9, 3) := by decide +kernel
theorem dX7_says_14 : decode cX7_says 14 = .ok (.aload_n 0, 1) := by decide +kernel
theorem dX7_says_15 : decode cX7_says 15 = .ok (.iconst (-1), 1) := by decide +kernel
theorem dX7_says_16 : decode cX7_says 16 = .ok (.invokevirtual 86, 3) := by decide +kernel
theorem dX7_says_19 : decode cX7_says 19 = .ok (.ireturn, 1) := by decide +kernel
theorem dX7_says_20 : decode cX7_says 20 = .ok (.aload_n 0, 1) := by decide +kernel
theorem dX7_says_21 : decode cX7_says 21 = .ok (.getfield 12, 3) := by decide +kernel
theorem dX7_says_24 : decode cX7_says 24 = .ok (.getfield 124, 3) := by decide +kernel
theorem dX7_says_27 : decode cX7_says 27 = .ok (.iload_n 1, 1) := by decide +kernel
theorem dX7_says_28 : decode cX7_says 28 = .ok (.iaload, 1) := by decide +kernel
theorem dX7_says_29 : decode cX7_says 29 = .ok (.istore_n 3, 1) := by decide +kernel
theorem dX7_says_30 : decode cX7_says 30 = .ok (.iload_n 3, 1) := by decide +kernel
theorem dX7_says_31 : decode cX7_says 31 = .ok (.iconst (-1), 1) := by decide +kernel
theorem dX7_says_32 : decode cX7_says 32 = .ok (.if_icmp .ne 10, 3) := by decide +kernel
theorem dX7_says_35 : decode cX7_says 35 = .ok (.aload_n 0, 1) := by decide +kernel
theorem dX7_says_36 : decode cX7_says 36 = .ok (.bipush (-3), 2) := by decide +kernel
theorem dX7_says_38 : decode cX7_says 38 = .ok (.invokevirtual 86, 3) := by decide +kernel
theorem dX7_says_41 : decode cX7_says 41 = .ok (.ireturn, 1) := by decide +kernel
theorem dX7_says_42 : decode cX7_says 42 = .ok (.aload_n 0, 1) := by decide +kernel
theorem dX7_says_43 : decode cX7_says 43 = .ok (.getfield 19, 3) := by decide +kernel
theorem dX7_says_46 : decode cX7_says 46 = .ok (.iload_n 3, 1) := by decide +kernel
theorem dX7_says_47 : decode cX7_says 47 = .ok (.invokevirtual 121, 3) := by decide +kernel
theorem dX7_says_50 : decode cX7_says 50 = .ok (.ifCond .eq 19, 3) := by decide +kernel
theorem dX7_says_53 : decode cX7_says 53 = .ok (.aload_n 0, 1) := by decide +kernel
theorem dX7_says_54 : decode cX7_says 54 = .ok (.getfield 19, 3) := by decide +kernel
theorem dX7_says_57 : decode cX7_says 57 = .ok (.getfield 130, 3) := by decide +kernel
theorem dX7_says_60 : decode cX7_says 60 = .ok (.iload_n 3, 1) := by decide +kernel
theorem dX7_says_61 : decode cX7_says 61 = .ok (.iaload, 1) := by decide +kernel
theorem dX7_says_62 : decode cX7_says 62 = .ok (.iload_n 2, 1) := by decide +kernel
theorem dX7_says_63 : decode cX7_says 63 = .ok (.invokestatic 133, 3) := by decide +kernel
theorem dX7_says_66 : decode cX7_says 66 = .ok (.ifCond .ne 10, 3) := by decide +kernel
theorem dX7_says_69 : decode cX7_says 69 = .ok (.aload_n 0, 1) := by decide +kernel
theorem dX7_says_70 : decode cX7_says 70 = .ok (.bipush (-2), 2) := by decide +kernel
theorem dX7_says_72 : decode cX7_says 72 = .ok (.invokevirtual 86, 3) := by decide +kernel
theorem dX7_says_75 : decode cX7_says 75 = .ok (.ireturn, 1) := by decide +kernel
theorem dX7_says_76 : decode cX7_says 76 = .ok (.aload_n 0, 1) := by decide +kernel
theorem dX7_says_77 : decode cX7_says 77 = .ok (.getfield 19, 3) := by decide +kernel
theorem dX7_says_80 : decode cX7_says 80 = .ok (.iload_n 3, 1) := by decide +kernel
theorem dX7_says_81 : decode cX7_says 81 = .ok (.iload_n 2, 1) := by decide +kernel
theorem dX7_says_82 : decode cX7_says 82 = .ok (.invokevirtual 136, 3) := by decide +kernel
theorem dX7_says_85 : decode cX7_says 85 = .ok (.ireturn, 1) := by decide +kernel
theorem dX7_person_0 : decode cX7_person 0 = .ok (.iload_n 1, 1) := by decide +kernel
theorem dX7_person_1 : decode cX7_person 1 = .ok (.invokestatic 127, 3) := by decide +kernel
theorem dX7_person_4 : decode cX7_person 4 = .ok (.ifCond .eq 10, 3) := by decide +kernel
theorem dX7_person_7 : decode cX7_person 7 = .ok (.iload_n 2, 1) := by decide +kernel
theorem dX7_person_8 : decode cX7_person 8 = .ok (.invokestatic 139, 3) := by decide +kernel
theorem dX7_person_11 : decode cX7_person 11 = .ok (.ifCond .ne 9, 3) := by decide +kernel
theorem dX7_person_14 : decode cX7_person 14 = .ok (.aload_n 0, 1) := by decide +kernel
theorem dX7_person_15 : decode cX7_person 15 = .ok (.iconst (-1), 1) := by decide +kernel
theorem dX7_person_16 : decode cX7_person 16 = .ok (.invokevirtual 86, 3) := by decide +kernel
theorem dX7_person_19 : decode cX7_person 19 = .ok (.ireturn, 1) := by decide +kernel
theorem dX7_person_20 : decode cX7_person 20 = .ok (.aload_n 0, 1) := by decide +kernel
theorem dX7_person_21 : decode cX7_person 21 = .ok (.getfield 19, 3) := by decide +kernel
theorem dX7_person_24 : decode cX7_person 24 = .ok (.iload_n 1, 1) := by decide +kernel
theorem dX7_person_25 : decode cX7_person 25 = .ok (.iload_n 2, 1) := by decide +kernel
theorem dX7_person_26 : decode cX7_person 26 = .ok (.iload_n 3, 1) := by decide +kernel
theorem dX7_person_27 : decode cX7_person 27 = .ok (.iload 4, 2) := by decide +kernel
theorem dX7_person_29 : decode cX7_person 29 = .ok (.iload 5, 2) := by decide +kernel
theorem dX7_person_31 : decode cX7_person 31 = .ok (.invokevirtual 142, 3) := by decide +kernel
theorem dX7_person_34 : decode cX7_person 34 = .ok (.ifCond .ne 10, 3) := by decide +kernel
theorem dX7_person_37 : decode cX7_person 37 = .ok (.aload_n 0, 1) := by decide +kernel
theorem dX7_person_38 : decode cX7_person 38 = .ok (.bipush (-6), 2) := by decide +kernel
theorem dX7_person_40 : decode cX7_person 40 = .ok (.invokevirtual 86, 3) := by decide +kernel
theorem dX7_person_43 : decode cX7_person 43 = .ok (.ireturn, 1) := by decide +kernel
theorem dX7_person_44 : decode cX7_person 44 = .ok (.aload_n 0, 1) := by decide +kernel
theorem dX7_person_45 : decode cX7_person 45 = .ok (.getfield 19, 3) := by decide +kernel
theorem dX7_person_48 : decode cX7_person 48 = .ok (.getfield 146, 3) := by decide +kernel
theorem dX7_person_51 : decode cX7_person 51 = .ok (.bipush 30, 2) := by decide +kernel
theorem dX7_person_53 : decode cX7_person 53 = .ok (.if_icmp .lt 10, 3) := by decide +kernel
theorem dX7_person_56 : decode cX7_person 56 = .ok (.aload_n 0, 1) := by decide +kernel
theorem dX7_person_57 : decode cX7_person 57 = .ok (.bipush (-7), 2) := by decide +kernel
theorem dX7_person_59 : decode cX7_person 59 = .ok (.invokevirtual 86, 3) := by decide +kernel
theorem dX7_person_62 : decode cX7_person 62 = .ok (.ireturn, 1) := by decide +kernel
theorem dX7_person_63 : decode cX7_person 63 = .ok (.aload_n 0, 1) := by decide +kernel
theorem dX7_person_64 : decode cX7_person 64 = .ok (.getfield 19, 3) := by decide +kernel
theorem dX7_person_67 : decode cX7_person 67 = .ok (.iload_n 1, 1) := by decide +kernel
theorem dX7_person_68 : decode cX7_person 68 = .ok (.iload_n 2, 1) := by decide +kernel
theorem dX7_person_69 : decode cX7_person 69 = .ok (.iload_n 3, 1) := by decide +kernel
theorem dX7_person_70 : decode cX7_person 70 = .ok (.iload 4, 2) := by decide +kernel
theorem dX7_person_72 : decode cX7_person 72 = .ok (.iload 5, 2) := by decide +kernel
theorem dX7_person_74 : decode cX7_person 74 = .ok (.invokevirtual 149, 3) := by decide +kernel
theorem dX7_person_77 : decode cX7_person 77 = .ok (.ireturn, 1) := by decide +kernel
theorem dX7_people_0 : decode cX7_people 0 = .ok (.aload_n 0, 1) := by decide +kernel
theorem dX7_people_1 : decode cX7_people 1 = .ok (.iload_n 1, 1) := by decide +kernel
theorem dX7_people_2 : decode cX7_people 2 = .ok (.invokevirtual 94, 3) := by decide +kernel
theorem dX7_people_5 : decode cX7_people 5 = .ok (.istore 4, 2) := by decide +kernel
theorem dX7_people_7 : decode cX7_people 7 = .ok (.iload 4, 2) := by decide +kernel
theorem dX7_people_9 : decode cX7_people 9 = .ok (.ifCond .eq 10, 3) := by decide +kernel
theorem dX7_people_12 : decode cX7_people 12 = .ok (.aload_n 0, 1) := by decide +kernel
theorem dX7_people_13 : decode cX7_people 13 = .ok (.iload 4, 2) := by decide +kernel
theorem dX7_people_15 : decode cX7_people 15 = .ok (.invokevirtual 86, 3) := by decide +kernel
theorem dX7_people_18 : decode cX7_people 18 = .ok (.ireturn, 1) := by decide +kernel
theorem dX7_people_19 : decode cX7_people 19 = .ok (.iload_n 3, 1) := by decide +kernel
theorem dX7_people_20 : decode cX7_people 20 = .ok (.ifCond .ge 10, 3) := by decide +kernel
theorem dX7_people_23 : decode cX7_people 23 = .ok (.aload_n 0, 1) := by decide +kernel
theorem dX7_people_24 : decode cX7_people 24 = .ok (.bipush (-4), 2) := by decide +kernel
theorem dX7_people_26 : decode cX7_people 26 = .ok (.invokevirtual 86, 3) := by decide +kernel
theorem dX7_people_29 : decode cX7_people 29 = .ok (.ireturn, 1) := by decide +kernel
theorem dX7_people_30 : decode cX7_people 30 = .ok (.aload_n 0, 1) := by decide +kernel
theorem dX7_people_31 : decode cX7_people 31 = .ok (.getfield 12, 3) := by decide +kernel
theorem dX7_people_34 : decode cX7_people 34 = .ok (.iload_n 1, 1) := by decide +kernel
theorem dX7_people_35 : decode cX7_people 35 = .ok (.iload_n 2, 1) := by decide +kernel
theorem dX7_people_36 : decode cX7_people 36 = .ok (.iload_n 3, 1) := by decide +kernel
theorem dX7_people_37 : decode cX7_people 37 = .ok (.invokevirtual 109, 3) := by decide +kernel
theorem dX7_people_40 : decode cX7_people 40 = .ok (.ifCond .ne 10, 3) := by decide +kernel
theorem dX7_people_43 : decode cX7_people 43 = .ok (.aload_n 0, 1) := by decide +kernel
theorem dX7_people_44 : decode cX7_people 44 = .ok (.bipush (-5), 2) := by decide +kernel
theorem dX7_people_46 : decode cX7_people 46 = .ok (.invokevirtual 86, 3) := by decide +kernel
theorem dX7_people_49 : decode cX7_people 49 = .ok (.ireturn, 1) := by decide +kernel
theorem dX7_people_50 : decode cX7_people 50 = .ok (.iload_n 3, 1) := by decide +kernel
theorem dX7_people_51 : decode cX7_people 51 = .ok (.iconst 5, 1) := by decide +kernel
theorem dX7_people_52 : decode cX7_people 52 = .ok (.irem, 1) := by decide +kernel
theorem dX7_people_53 : decode cX7_people 53 = .ok (.ifCond .eq 10, 3) := by decide +kernel
theorem dX7_people_56 : decode cX7_people 56 = .ok (.aload_n 0, 1) := by decide +kernel
theorem dX7_people_57 : decode cX7_people 57 = .ok (.bipush (-6), 2) := by decide +kernel
theorem dX7_people_59 : decode cX7_people 59 = .ok (.invokevirtual 86, 3) := by decide +kernel
theorem dX7_people_62 : decode cX7_people 62 = .ok (.ireturn, 1) := by decide +kernel
theorem dX7_people_63 : decode cX7_people 63 = .ok (.iconst 0, 1) := by decide +kernel
theorem dX7_people_64 : decode cX7_people 64 = .ok (.istore 5, 2) := by decide +kernel
theorem dX7_people_66 : decode cX7_people 66 = .ok (.iload 5, 2) := by decide +kernel
theorem dX7_people_68 : decode cX7_people 68 = .ok (.iload_n 3, 1) := by decide +kernel
theorem dX7_people_69 : decode cX7_people 69 = .ok (.iconst 5, 1) := by decide +kernel
theorem dX7_people_70 : decode cX7_people 70 = .ok (.idiv, 1) := by decide +kernel
theorem dX7_people_71 : decode cX7_people 71 = .ok (.if_icmp .ge 23, 3) := by decide +kernel
theorem dX7_people_74 : decode cX7_people 74 = .ok (.aload_n 0, 1) := by decide +kernel
theorem dX7_people_75 : decode cX7_people 75 = .ok (.iload_n 1, 1) := by decide +kernel
theorem dX7_people_76 : decode cX7_people 76 = .ok (.iload_n 2, 1) := by decide +kernel
theorem dX7_people_77 : decode cX7_people 77 = .ok (.iload 5, 2) := by decide +kernel
theorem dX7_people_79 : decode cX7_people 79 = .ok (.iconst 5, 1) := by decide +kernel
theorem dX7_people_80 : decode cX7_people 80 = .ok (.imul, 1) := by decide +kernel
theorem dX7_people_81 : decode cX7_people 81 = .ok (.iadd, 1) := by decide +kernel
theorem dX7_people_82 : decode cX7_people 82 = .ok (.invokevirtual 153, 3) := by decide +kernel
theorem dX7_people_85 : decode cX7_people 85 = .ok (.ifCond .eq 9, 3) := by decide +kernel
theorem dX7_people_88 : decode cX7_people 88 = .ok (.iinc 5 1, 3) := by decide +kernel
theorem dX7_people_91 : decode cX7_people 91 = .ok (.goto (-25), 3) := by decide +kernel
theorem dX7_people_94 : decode cX7_people 94 = .ok (.iload 5, 2) := by decide +kernel
theorem dX7_people_96 : decode cX7_people 96 = .ok (.ireturn, 1) := by decide +kernel
theorem dX7_admitFrom_0 : decode cX7_admitFrom 0 = .ok (.aload_n 0, 1) := by decide +kernel
theorem dX7_admitFrom_1 : decode cX7_admitFrom 1 = .ok (.getfield 12, 3) := by decide +kernel
theorem dX7_admitFrom_4 : decode cX7_admitFrom 4 = .ok (.iload_n 1, 1) := by decide +kernel
theorem dX7_admitFrom_5 : decode cX7_admitFrom 5 = .ok (.iload_n 2, 1) := by decide +kernel
theorem dX7_admitFrom_6 : decode cX7_admitFrom 6 = .ok (.invokevirtual 156, 3) := by decide +kernel
theorem dX7_admitFrom_9 : decode cX7_admitFrom 9 = .ok (.istore_n 3, 1) := by decide +kernel
theorem dX7_admitFrom_10 : decode cX7_admitFrom 10 = .ok (.aload_n 0, 1) := by decide +kernel
theorem dX7_admitFrom_11 : decode cX7_admitFrom 11 = .ok (.getfield 12, 3) := by decide +kernel
theorem dX7_admitFrom_14 : decode cX7_admitFrom 14 = .ok (.iload_n 1, 1) := by decide +kernel
theorem dX7_admitFrom_15 : decode cX7_admitFrom 15 = .ok (.iload_n 2, 1) := by decide +kernel
theorem dX7_admitFrom_16 : decode cX7_admitFrom 16 = .ok (.iconst 1, 1) := by decide +kernel
theorem dX7_admitFrom_17 : decode cX7_admitFrom 17 = .ok (.iadd, 1) := by decide +kernel
theorem dX7_admitFrom_18 : decode cX7_admitFrom 18 = .ok (.invokevirtual 156, 3) := by decide +kernel
theorem dX7_admitFrom_21 : decode cX7_admitFrom 21 = .ok (.istore 4, 2) := by decide +kernel
theorem dX7_admitFrom_23 : decode cX7_admitFrom 23 = .ok (.aload_n 0, 1) := by decide +kernel
theorem dX7_admitFrom_24 : decode cX7_admitFrom 24 = .ok (.getfield 12, 3) := by decide +kernel
theorem dX7_admitFrom_27 : decode cX7_admitFrom 27 = .ok (.iload_n 1, 1) := by decide +kernel
theorem dX7_admitFrom_28 : decode cX7_admitFrom 28 = .ok (.iload_n 2, 1) := by decide +kernel
theorem dX7_admitFrom_29 : decode cX7_admitFrom 29 = .ok (.iconst 2, 1) := by decide +kernel
theorem dX7_admitFrom_30 : decode cX7_admitFrom 30 = .ok (.iadd, 1) := by decide +kernel
theorem dX7_admitFrom_31 : decode cX7_admitFrom 31 = .ok (.invokevirtual 156, 3) := by decide +kernel
theorem dX7_admitFrom_34 : decode cX7_admitFrom 34 = .ok (.istore 5, 2) := by decide +kernel
theorem dX7_admitFrom_36 : decode cX7_admitFrom 36 = .ok (.aload_n 0, 1) := by decide +kernel
theorem dX7_admitFrom_37 : decode cX7_admitFrom 37 = .ok (.getfield 12, 3) := by decide +kernel
theorem dX7_admitFrom_40 : decode cX7_admitFrom 40 = .ok (.iload_n 1, 1) := by decide +kernel
theorem dX7_admitFrom_41 : decode cX7_admitFrom 41 = .ok (.iload_n 2, 1) := by decide +kernel
theorem dX7_admitFrom_42 : decode cX7_admitFrom 42 = .ok (.iconst 3, 1) := by decide +kernel
theorem dX7_admitFrom_43 : decode cX7_admitFrom 43 = .ok (.iadd, 1) := by decide +kernel
theorem dX7_admitFrom_44 : decode cX7_admitFrom 44 = .ok (.invokevirtual 156, 3) := by decide +kernel
theorem dX7_admitFrom_47 : decode cX7_admitFrom 47 = .ok (.istore 6, 2) := by decide +kernel
theorem dX7_admitFrom_49 : decode cX7_admitFrom 49 = .ok (.aload_n 0, 1) := by decide +kernel
theorem dX7_admitFrom_50 : decode cX7_admitFrom 50 = .ok (.getfield 12, 3) := by decide +kernel
theorem dX7_admitFrom_53 : decode cX7_admitFrom 53 = .ok (.iload_n 1, 1) := by decide +kernel
theorem dX7_admitFrom_54 : decode cX7_admitFrom 54 = .ok (.iload_n 2, 1) := by decide +kernel
theorem dX7_admitFrom_55 : decode cX7_admitFrom 55 = .ok (.iconst 4, 1) := by decide +kernel
theorem dX7_admitFrom_56 : decode cX7_admitFrom 56 = .ok (.iadd, 1) := by decide +kernel
theorem dX7_admitFrom_57 : decode cX7_admitFrom 57 = .ok (.invokevirtual 156, 3) := by decide +kernel
theorem dX7_admitFrom_60 : decode cX7_admitFrom 60 = .ok (.istore 7, 2) := by decide +kernel
theorem dX7_admitFrom_62 : decode cX7_admitFrom 62 = .ok (.aload_n 0, 1) := by decide +kernel
theorem dX7_admitFrom_63 : decode cX7_admitFrom 63 = .ok (.getfield 19, 3) := by decide +kernel
theorem dX7_admitFrom_66 : decode cX7_admitFrom 66 = .ok (.getfield 146, 3) := by decide +kernel
theorem dX7_admitFrom_69 : decode cX7_admitFrom 69 = .ok (.bipush 30, 2) := by decide +kernel
theorem dX7_admitFrom_71 : decode cX7_admitFrom 71 = .ok (.if_icmp .ge 26, 3) := by decide +kernel
theorem dX7_admitFrom_74 : decode cX7_admitFrom 74 = .ok (.aload_n 0, 1) := by decide +kernel
theorem dX7_admitFrom_75 : decode cX7_admitFrom 75 = .ok (.getfield 19, 3) := by decide +kernel
theorem dX7_admitFrom_78 : decode cX7_admitFrom 78 = .ok (.iload_n 3, 1) := by decide +kernel
theorem dX7_admitFrom_79 : decode cX7_admitFrom 79 = .ok (.iload 4, 2) := by decide +kernel
theorem dX7_admitFrom_81 : decode cX7_admitFrom 81 = .ok (.iload 5, 2) := by decide +kernel
theorem dX7_admitFrom_83 : decode cX7_admitFrom 83 = .ok (.iload 6, 2) := by decide +kernel
theorem dX7_admitFrom_85 : decode cX7_admitFrom 85 = .ok (.iload 7, 2) := by decide +kernel
theorem dX7_admitFrom_87 : decode cX7_admitFrom 87 = .ok (.invokevirtual 142, 3) := by decide +kernel
theorem dX7_admitFrom_90 : decode cX7_admitFrom 90 = .ok (.ifCond .eq 7, 3) := by decide +kernel
theorem dX7_admitFrom_93 : decode cX7_admitFrom 93 = .ok (.iconst 1, 1) := by decide +kernel
theorem dX7_admitFrom_94 : decode cX7_admitFrom 94 = .ok (.goto 4, 3) := by decide +kernel
theorem dX7_admitFrom_97 : decode cX7_admitFrom 97 = .ok (.iconst 0, 1) := by decide +kernel
theorem dX7_admitFrom_98 : decode cX7_admitFrom 98 = .ok (.istore 8, 2) := by decide +kernel
theorem dX7_admitFrom_100 : decode cX7_admitFrom 100 = .ok (.iload 8, 2) := by decide +kernel
theorem dX7_admitFrom_102 : decode cX7_admitFrom 102 = .ok (.ifCond .eq 20, 3) := by decide +kernel
theorem dX7_admitFrom_105 : decode cX7_admitFrom 105 = .ok (.aload_n 0, 1) := by decide +kernel
theorem dX7_admitFrom_106 : decode cX7_admitFrom 106 = .ok (.getfield 19, 3) := by decide +kernel
theorem dX7_admitFrom_109 : decode cX7_admitFrom 109 = .ok (.iload_n 3, 1) := by decide +kernel
theorem dX7_admitFrom_110 : decode cX7_admitFrom 110 = .ok (.iload 4, 2) := by decide +kernel
theorem dX7_admitFrom_112 : decode cX7_admitFrom 112 = .ok (.iload 5, 2) := by decide +kernel
theorem dX7_admitFrom_114 : decode cX7_admitFrom 114 = .ok (.iload 6, 2) := by decide +kernel
theorem dX7_admitFrom_116 : decode cX7_admitFrom 116 = .ok (.iload 7, 2) := by decide +kernel
theorem dX7_admitFrom_118 : decode cX7_admitFrom 118 = .ok (.invokevirtual 149, 3) := by decide +kernel
theorem dX7_admitFrom_121 : decode cX7_admitFrom 121 = .ok (.pop, 1) := by decide +kernel
theorem dX7_admitFrom_122 : decode cX7_admitFrom 122 = .ok (.iload 8, 2) := by decide +kernel
theorem dX7_admitFrom_124 : decode cX7_admitFrom 124 = .ok (.ireturn, 1) := by decide +kernel
theorem dX7_personOf_0 : decode cX7_personOf 0 = .ok (.aload_n 0, 1) := by decide +kernel
theorem dX7_personOf_1 : decode cX7_personOf 1 = .ok (.getfield 19, 3) := by decide +kernel
theorem dX7_personOf_4 : decode cX7_personOf 4 = .ok (.iload_n 1, 1) := by decide +kernel
theorem dX7_personOf_5 : decode cX7_personOf 5 = .ok (.invokevirtual 121, 3) := by decide +kernel
theorem dX7_personOf_8 : decode cX7_personOf 8 = .ok (.ifCond .eq 13, 3) := by decide +kernel
theorem dX7_personOf_11 : decode cX7_personOf 11 = .ok (.iload_n 2, 1) := by decide +kernel
theorem dX7_personOf_12 : decode cX7_personOf 12 = .ok (.ifCond .lt 9, 3) := by decide +kernel
theorem dX7_personOf_15 : decode cX7_personOf 15 = .ok (.iload_n 2, 1) := by decide +kernel
theorem dX7_personOf_16 : decode cX7_personOf 16 = .ok (.bipush 10, 2) := by decide +kernel
theorem dX7_personOf_18 : decode cX7_personOf 18 = .ok (.if_icmp .lt 10, 3) := by decide +kernel
theorem dX7_personOf_21 : decode cX7_personOf 21 = .ok (.aload_n 0, 1) := by decide +kernel
theorem dX7_personOf_22 : decode cX7_personOf 22 = .ok (.bipush (-5), 2) := by decide +kernel
theorem dX7_personOf_24 : decode cX7_personOf 24 = .ok (.invokevirtual 86, 3) := by decide +kernel
theorem dX7_personOf_27 : decode cX7_personOf 27 = .ok (.ireturn, 1) := by decide +kernel
theorem dX7_personOf_28 : decode cX7_personOf 28 = .ok (.aload_n 0, 1) := by decide +kernel
theorem dX7_personOf_29 : decode cX7_personOf 29 = .ok (.getfield 19, 3) := by decide +kernel
theorem dX7_personOf_32 : decode cX7_personOf 32 = .ok (.getfield 159, 3) := by decide +kernel
theorem dX7_personOf_35 : decode cX7_personOf 35 = .ok (.iload_n 2, 1) := by decide +kernel
theorem dX7_personOf_36 : decode cX7_personOf 36 = .ok (.aaload, 1) := by decide +kernel
theorem dX7_personOf_37 : decode cX7_personOf 37 = .ok (.iload_n 1, 1) := by decide +kernel
theorem dX7_personOf_38 : decode cX7_personOf 38 = .ok (.iaload, 1) := by decide +kernel
theorem dX7_personOf_39 : decode cX7_personOf 39 = .ok (.ireturn, 1) := by decide +kernel
theorem dX7_move_0 : decode cX7_move 0 = .ok (.aload_n 0, 1) := by decide +kernel
theorem dX7_move_1 : decode cX7_move 1 = .ok (.getfield 19, 3) := by decide +kernel
theorem dX7_move_4 : decode cX7_move 4 = .ok (.iload_n 1, 1) := by decide +kernel
theorem dX7_move_5 : decode cX7_move 5 = .ok (.invokevirtual 121, 3) := by decide +kernel
theorem dX7_move_8 : decode cX7_move 8 = .ok (.ifCond .eq 10, 3) := by decide +kernel
theorem dX7_move_11 : decode cX7_move 11 = .ok (.iload_n 2, 1) := by decide +kernel
theorem dX7_move_12 : decode cX7_move 12 = .ok (.invokestatic 139, 3) := by decide +kernel
theorem dX7_move_15 : decode cX7_move 15 = .ok (.ifCond .ne 9, 3) := by decide +kernel
theorem dX7_move_18 : decode cX7_move 18 = .ok (.aload_n 0, 1) := by decide +kernel
theorem dX7_move_19 : decode cX7_move 19 = .ok (.iconst (-1), 1) := by decide +kernel
theorem dX7_move_20 : decode cX7_move 20 = .ok (.invokevirtual 86, 3) := by decide +kernel
theorem dX7_move_23 : decode cX7_move 23 = .ok (.ireturn, 1) := by decide +kernel
theorem dX7_move_24 : decode cX7_move 24 = .ok (.aload_n 0, 1) := by decide +kernel
theorem dX7_move_25 : decode cX7_move 25 = .ok (.getfield 19, 3) := by decide +kernel
theorem dX7_move_28 : decode cX7_move 28 = .ok (.iload_n 2, 1) := by decide +kernel
theorem dX7_move_29 : decode cX7_move 29 = .ok (.invokevirtual 163, 3) := by decide +kernel
theorem dX7_move_32 : decode cX7_move 32 = .ok (.ifCond .eq 10, 3) := by decide +kernel
theorem dX7_move_35 : decode cX7_move 35 = .ok (.aload_n 0, 1) := by decide +kernel
theorem dX7_move_36 : decode cX7_move 36 = .ok (.bipush (-6), 2) := by decide +kernel
theorem dX7_move_38 : decode cX7_move 38 = .ok (.invokevirtual 86, 3) := by decide +kernel
theorem dX7_move_41 : decode cX7_move 41 = .ok (.ireturn, 1) := by decide +kernel
theorem dX7_move_42 : decode cX7_move 42 = .ok (.aload_n 0, 1) := by decide +kernel
theorem dX7_move_43 : decode cX7_move 43 = .ok (.getfield 19, 3) := by decide +kernel
theorem dX7_move_46 : decode cX7_move 46 = .ok (.getfield 166, 3) := by decide +kernel
theorem dX7_move_49 : decode cX7_move 49 = .ok (.iload_n 1, 1) := by decide +kernel
theorem dX7_move_50 : decode cX7_move 50 = .ok (.iaload, 1) := by decide +kernel
theorem dX7_move_51 : decode cX7_move 51 = .ok (.istore_n 3, 1) := by decide +kernel
theorem dX7_move_52 : decode cX7_move 52 = .ok (.aload_n 0, 1) := by decide +kernel
theorem dX7_move_53 : decode cX7_move 53 = .ok (.getfield 19, 3) := by decide +kernel
theorem dX7_move_56 : decode cX7_move 56 = .ok (.getfield 166, 3) := by decide +kernel
theorem dX7_move_59 : decode cX7_move 59 = .ok (.iload_n 1, 1) := by decide +kernel
theorem dX7_move_60 : decode cX7_move 60 = .ok (.iload_n 2, 1) := by decide +kernel
theorem dX7_move_61 : decode cX7_move 61 = .ok (.iastore, 1) := by decide +kernel
theorem dX7_move_62 : decode cX7_move 62 = .ok (.iload_n 3, 1) := by decide +kernel
theorem dX7_move_63 : decode cX7_move 63 = .ok (.ireturn, 1) := by decide +kernel
theorem dX7_alter_0 : decode cX7_alter 0 = .ok (.aload_n 0, 1) := by decide +kernel
theorem dX7_alter_1 : decode cX7_alter 1 = .ok (.getfield 19, 3) := by decide +kernel
theorem dX7_alter_4 : decode cX7_alter 4 = .ok (.iload_n 1, 1) := by decide +kernel
theorem dX7_alter_5 : decode cX7_alter 5 = .ok (.invokevirtual 121, 3) := by decide +kernel
theorem dX7_alter_8 : decode cX7_alter 8 = .ok (.ifCond .ne 9, 3) := by decide +kernel
theorem dX7_alter_11 : decode cX7_alter 11 = .ok (.aload_n 0, 1) := by decide +kernel
theorem dX7_alter_12 : decode cX7_alter 12 = .ok (.iconst (-1), 1) := by decide +kernel
theorem dX7_alter_13 : decode cX7_alter 13 = .ok (.invokevirtual 86, 3) := by decide +kernel
theorem dX7_alter_16 : decode cX7_alter 16 = .ok (.ireturn, 1) := by decide +kernel
theorem dX7_alter_17 : decode cX7_alter 17 = .ok (.iload_n 2, 1) := by decide +kernel
theorem dX7_alter_18 : decode cX7_alter 18 = .ok (.ifCond .lt 8, 3) := by decide +kernel
theorem dX7_alter_21 : decode cX7_alter 21 = .ok (.iload_n 2, 1) := by decide +kernel
theorem dX7_alter_22 : decode cX7_alter 22 = .ok (.iconst 3, 1) := by decide +kernel
theorem dX7_alter_23 : decode cX7_alter 23 = .ok (.if_icmp .le 10, 3) := by decide +kernel
theorem dX7_alter_26 : decode cX7_alter 26 = .ok (.aload_n 0, 1) := by decide +kernel
theorem dX7_alter_27 : decode cX7_alter 27 = .ok (.bipush (-6), 2) := by decide +kernel
theorem dX7_alter_29 : decode cX7_alter 29 = .ok (.invokevirtual 86, 3) := by decide +kernel
theorem dX7_alter_32 : decode cX7_alter 32 = .ok (.ireturn, 1) := by decide +kernel
theorem dX7_alter_33 : decode cX7_alter 33 = .ok (.iconst 2, 1) := by decide +kernel
theorem dX7_alter_34 : decode cX7_alter 34 = .ok (.iload_n 2, 1) := by decide +kernel
theorem dX7_alter_35 : decode cX7_alter 35 = .ok (.iadd, 1) := by decide +kernel
theorem dX7_alter_36 : decode cX7_alter 36 = .ok (.istore 4, 2) := by decide +kernel
theorem dX7_alter_38 : decode cX7_alter 38 = .ok (.iload_n 3, 1) := by decide +kernel
theorem dX7_alter_39 : decode cX7_alter 39 = .ok (.iload 4, 2) := by decide +kernel
theorem dX7_alter_41 : decode cX7_alter 41 = .ok (.iconst 3, 1) := by decide +kernel
theorem dX7_alter_42 : decode cX7_alter 42 = .ok (.if_icmp .ne 7, 3) := by decide +kernel
theorem dX7_alter_45 : decode cX7_alter 45 = .ok (.iconst 1, 1) := by decide +kernel
theorem dX7_alter_46 : decode cX7_alter 46 = .ok (.goto 4, 3) := by decide +kernel
theorem dX7_alter_49 : decode cX7_alter 49 = .ok (.iconst 0, 1) := by decide +kernel
theorem dX7_alter_50 : decode cX7_alter 50 = .ok (.if_icmp .lt 17, 3) := by decide +kernel
theorem dX7_alter_53 : decode cX7_alter 53 = .ok (.iload_n 3, 1) := by decide +kernel
theorem dX7_alter_54 : decode cX7_alter 54 = .ok (.aload_n 0, 1) := by decide +kernel
theorem dX7_alter_55 : decode cX7_alter 55 = .ok (.getfield 19, 3) := by decide +kernel
theorem dX7_alter_58 : decode cX7_alter 58 = .ok (.iload_n 1, 1) := by decide +kernel
theorem dX7_alter_59 : decode cX7_alter 59 = .ok (.iload 4, 2) := by decide +kernel
theorem dX7_alter_61 : decode cX7_alter 61 = .ok (.invokevirtual 169, 3) := by decide +kernel
theorem dX7_alter_64 : decode cX7_alter 64 = .ok (.if_icmp .le 10, 3) := by decide +kernel
theorem dX7_alter_67 : decode cX7_alter 67 = .ok (.aload_n 0, 1) := by decide +kernel
theorem dX7_alter_68 : decode cX7_alter 68 = .ok (.bipush (-6), 2) := by decide +kernel
theorem dX7_alter_70 : decode cX7_alter 70 = .ok (.invokevirtual 86, 3) := by decide +kernel
theorem dX7_alter_73 : decode cX7_alter 73 = .ok (.ireturn, 1) := by decide +kernel
theorem dX7_alter_74 : decode cX7_alter 74 = .ok (.aload_n 0, 1) := by decide +kernel
theorem dX7_alter_75 : decode cX7_alter 75 = .ok (.getfield 19, 3) := by decide +kernel
theorem dX7_alter_78 : decode cX7_alter 78 = .ok (.getfield 159, 3) := by decide +kernel
theorem dX7_alter_81 : decode cX7_alter 81 = .ok (.iload 4, 2) := by decide +kernel
theorem dX7_alter_83 : decode cX7_alter 83 = .ok (.aaload, 1) := by decide +kernel
theorem dX7_alter_84 : decode cX7_alter 84 = .ok (.iload_n 1, 1) := by decide +kernel
theorem dX7_alter_85 : decode cX7_alter 85 = .ok (.iaload, 1) := by decide +kernel
theorem dX7_alter_86 : decode cX7_alter 86 = .ok (.istore 5, 2) := by decide +kernel
theorem dX7_alter_88 : decode cX7_alter 88 = .ok (.aload_n 0, 1) := by decide +kernel
theorem dX7_alter_89 : decode cX7_alter 89 = .ok (.getfield 19, 3) := by decide +kernel
theorem dX7_alter_92 : decode cX7_alter 92 = .ok (.getfield 159, 3) := by decide +kernel
theorem dX7_alter_95 : decode cX7_alter 95 = .ok (.iload 4, 2) := by decide +kernel
theorem dX7_alter_97 : decode cX7_alter 97 = .ok (.aaload, 1) := by decide +kernel
theorem dX7_alter_98 : decode cX7_alter 98 = .ok (.iload_n 1, 1) := by decide +kernel
theorem dX7_alter_99 : decode cX7_alter 99 = .ok (.iload_n 3, 1) := by decide +kernel
theorem dX7_alter_100 : decode cX7_alter 100 = .ok (.iastore, 1) := by decide +kernel
theorem dX7_alter_101 : decode cX7_alter 101 = .ok (.iload 4, 2) := by decide +kernel
theorem dX7_alter_103 : decode cX7_alter 103 = .ok (.iconst 3, 1) := by decide +kernel
theorem dX7_alter_104 : decode cX7_alter 104 = .ok (.if_icmp .ne 25, 3) := by decide +kernel
theorem dX7_alter_107 : decode cX7_alter 107 = .ok (.aload_n 0, 1) := by decide +kernel
theorem dX7_alter_108 : decode cX7_alter 108 = .ok (.getfield 19, 3) := by decide +kernel
theorem dX7_alter_111 : decode cX7_alter 111 = .ok (.getfield 172, 3) := by decide +kernel
theorem dX7_alter_114 : decode cX7_alter 114 = .ok (.iload_n 1, 1) := by decide +kernel
theorem dX7_alter_115 : decode cX7_alter 115 = .ok (.aload_n 0, 1) := by decide +kernel
theorem dX7_alter_116 : decode cX7_alter 116 = .ok (.getfield 19, 3) := by decide +kernel
theorem dX7_alter_119 : decode cX7_alter 119 = .ok (.getfield 172, 3) := by decide +kernel
theorem dX7_alter_122 : decode cX7_alter 122 = .ok (.iload_n 1, 1) := by decide +kernel
theorem dX7_alter_123 : decode cX7_alter 123 = .ok (.iaload, 1) := by decide +kernel
theorem dX7_alter_124 : decode cX7_alter 124 = .ok (.iload_n 3, 1) := by decide +kernel
theorem dX7_alter_125 : decode cX7_alter 125 = .ok (.invokestatic 175, 3) := by decide +kernel
theorem dX7_alter_128 : decode cX7_alter 128 = .ok (.iastore, 1) := by decide +kernel
theorem dX7_alter_129 : decode cX7_alter 129 = .ok (.iload 5, 2) := by decide +kernel
theorem dX7_alter_131 : decode cX7_alter 131 = .ok (.ireturn, 1) := by decide +kernel
theorem dX7_glove_0 : decode cX7_glove 0 = .ok (.aload_n 0, 1) := by decide +kernel
theorem dX7_glove_1 : decode cX7_glove 1 = .ok (.getfield 19, 3) := by decide +kernel
theorem dX7_glove_4 : decode cX7_glove 4 = .ok (.iload_n 1, 1) := by decide +kernel
theorem dX7_glove_5 : decode cX7_glove 5 = .ok (.invokevirtual 121, 3) := by decide +kernel
theorem dX7_glove_8 : decode cX7_glove 8 = .ok (.ifCond .ne 9, 3) := by decide +kernel
theorem dX7_glove_11 : decode cX7_glove 11 = .ok (.aload_n 0, 1) := by decide +kernel
theorem dX7_glove_12 : decode cX7_glove 12 = .ok (.iconst (-1), 1) := by decide +kernel
theorem dX7_glove_13 : decode cX7_glove 13 = .ok (.invokevirtual 86, 3) := by decide +kernel
theorem dX7_glove_16 : decode cX7_glove 16 = .ok (.ireturn, 1) := by decide +kernel
theorem dX7_glove_17 : decode cX7_glove 17 = .ok (.iload_n 2, 1) := by decide +kernel
theorem dX7_glove_18 : decode cX7_glove 18 = .ok (.ifCond .eq 7, 3) := by decide +kernel
theorem dX7_glove_21 : decode cX7_glove 21 = .ok (.iconst 1, 1) := by decide +kernel
theorem dX7_glove_22 : decode cX7_glove 22 = .ok (.goto 4, 3) := by decide +kernel
theorem dX7_glove_25 : decode cX7_glove 25 = .ok (.iconst 0, 1) := by decide +kernel
theorem dX7_glove_26 : decode cX7_glove 26 = .ok (.istore_n 3, 1) := by decide +kernel
theorem dX7_glove_27 : decode cX7_glove 27 = .ok (.aload_n 0, 1) := by decide +kernel
theorem dX7_glove_28 : decode cX7_glove 28 = .ok (.getfield 19, 3) := by decide +kernel
theorem dX7_glove_31 : decode cX7_glove 31 = .ok (.getfield 178, 3) := by decide +kernel
theorem dX7_glove_34 : decode cX7_glove 34 = .ok (.iload_n 1, 1) := by decide +kernel
theorem dX7_glove_35 : decode cX7_glove 35 = .ok (.iaload, 1) := by decide +kernel
theorem dX7_glove_36 : decode cX7_glove 36 = .ok (.iload_n 3, 1) := by decide +kernel
theorem dX7_glove_37 : decode cX7_glove 37 = .ok (.if_icmp .ne 5, 3) := by decide +kernel
theorem dX7_glove_40 : decode cX7_glove 40 = .ok (.iconst 0, 1) := by decide +kernel
theorem dX7_glove_41 : decode cX7_glove 41 = .ok (.ireturn, 1) := by decide +kernel
theorem dX7_glove_42 : decode cX7_glove 42 = .ok (.aload_n 0, 1) := by decide +kernel
theorem dX7_glove_43 : decode cX7_glove 43 = .ok (.getfield 19, 3) := by decide +kernel
theorem dX7_glove_46 : decode cX7_glove 46 = .ok (.getfield 178, 3) := by decide +kernel
theorem dX7_glove_49 : decode cX7_glove 49 = .ok (.iload_n 1, 1) := by decide +kernel
theorem dX7_glove_50 : decode cX7_glove 50 = .ok (.iload_n 3, 1) := by decide +kernel
theorem dX7_glove_51 : decode cX7_glove 51 = .ok (.iastore, 1) := by decide +kernel
theorem dX7_glove_52 : decode cX7_glove 52 = .ok (.iconst 1, 1) := by decide +kernel
theorem dX7_glove_53 : decode cX7_glove 53 = .ok (.ireturn, 1) := by decide +kernel
theorem dX7_laws_0 : decode cX7_laws 0 = .ok (.aload_n 0, 1) := by decide +kernel
theorem dX7_laws_1 : decode cX7_laws 1 = .ok (.iload_n 1, 1) := by decide +kernel
theorem dX7_laws_2 : decode cX7_laws 2 = .ok (.invokevirtual 94, 3) := by decide +kernel
theorem dX7_laws_5 : decode cX7_laws 5 = .ok (.istore_n 2, 1) := by decide +kernel
theorem dX7_laws_6 : decode cX7_laws 6 = .ok (.iload_n 2, 1) := by decide +kernel
theorem dX7_laws_7 : decode cX7_laws 7 = .ok (.ifCond .eq 9, 3) := by decide +kernel
theorem dX7_laws_10 : decode cX7_laws 10 = .ok (.aload_n 0, 1) := by decide +kernel
theorem dX7_laws_11 : decode cX7_laws 11 = .ok (.iload_n 2, 1) := by decide +kernel
theorem dX7_laws_12 : decode cX7_laws 12 = .ok (.invokevirtual 86, 3) := by decide +kernel
theorem dX7_laws_15 : decode cX7_laws 15 = .ok (.ireturn, 1) := by decide +kernel
theorem dX7_laws_16 : decode cX7_laws 16 = .ok (.aload_n 0, 1) := by decide +kernel
theorem dX7_laws_17 : decode cX7_laws 17 = .ok (.aload_n 0, 1) := by decide +kernel
theorem dX7_laws_18 : decode cX7_laws 18 = .ok (.getfield 50, 3) := by decide +kernel
theorem dX7_laws_21 : decode cX7_laws 21 = .ok (.aload_n 0, 1) := by decide +kernel
theorem dX7_laws_22 : decode cX7_laws 22 = .ok (.getfield 12, 3) := by decide +kernel
theorem dX7_laws_25 : decode cX7_laws 25 = .ok (.iload_n 1, 1) := by decide +kernel
theorem dX7_laws_26 : decode cX7_laws 26 = .ok (.invokevirtual 181, 3) := by decide +kernel
theorem dX7_laws_29 : decode cX7_laws 29 = .ok (.putfield 65, 3) := by decide +kernel
theorem dX7_laws_32 : decode cX7_laws 32 = .ok (.aload_n 0, 1) := by decide +kernel
theorem dX7_laws_33 : decode cX7_laws 33 = .ok (.getfield 65, 3) := by decide +kernel
theorem dX7_laws_36 : decode cX7_laws 36 = .ok (.iconst (-1), 1) := by decide +kernel
theorem dX7_laws_37 : decode cX7_laws 37 = .ok (.if_icmp .eq 10, 3) := by decide +kernel
theorem dX7_laws_40 : decode cX7_laws 40 = .ok (.aload_n 0, 1) := by decide +kernel
theorem dX7_laws_41 : decode cX7_laws 41 = .ok (.bipush (-6), 2) := by decide +kernel
theorem dX7_laws_43 : decode cX7_laws 43 = .ok (.invokevirtual 86, 3) := by decide +kernel
theorem dX7_laws_46 : decode cX7_laws 46 = .ok (.ireturn, 1) := by decide +kernel
theorem dX7_laws_47 : decode cX7_laws 47 = .ok (.aload_n 0, 1) := by decide +kernel
theorem dX7_laws_48 : decode cX7_laws 48 = .ok (.getfield 26, 3) := by decide +kernel
theorem dX7_laws_51 : decode cX7_laws 51 = .ok (.getfield 185, 3) := by decide +kernel
theorem dX7_laws_54 : decode cX7_laws 54 = .ok (.bipush 6, 2) := by decide +kernel
theorem dX7_laws_56 : decode cX7_laws 56 = .ok (.if_icmp .lt 10, 3) := by decide +kernel
theorem dX7_laws_59 : decode cX7_laws 59 = .ok (.aload_n 0, 1) := by decide +kernel
theorem dX7_laws_60 : decode cX7_laws 60 = .ok (.bipush (-7), 2) := by decide +kernel
theorem dX7_laws_62 : decode cX7_laws 62 = .ok (.invokevirtual 86, 3) := by decide +kernel
theorem dX7_laws_65 : decode cX7_laws 65 = .ok (.ireturn, 1) := by decide +kernel
theorem dX7_laws_66 : decode cX7_laws 66 = .ok (.aload_n 0, 1) := by decide +kernel
theorem dX7_laws_67 : decode cX7_laws 67 = .ok (.getfield 26, 3) := by decide +kernel
theorem dX7_laws_70 : decode cX7_laws 70 = .ok (.aload_n 0, 1) := by decide +kernel
theorem dX7_laws_71 : decode cX7_laws 71 = .ok (.getfield 50, 3) := by decide +kernel
theorem dX7_laws_74 : decode cX7_laws 74 = .ok (.getfield 186, 3) := by decide +kernel
theorem dX7_laws_77 : decode cX7_laws 77 = .ok (.invokevirtual 189, 3) := by decide +kernel
theorem dX7_laws_80 : decode cX7_laws 80 = .ok (.ireturn, 1) := by decide +kernel
theorem dX7_fault_0 : decode cX7_fault 0 = .ok (.aload_n 0, 1) := by decide +kernel
theorem dX7_fault_1 : decode cX7_fault 1 = .ok (.getfield 65, 3) := by decide +kernel
theorem dX7_fault_4 : decode cX7_fault 4 = .ok (.ireturn, 1) := by decide +kernel
theorem dX7_law_0 : decode cX7_law 0 = .ok (.aload_n 0, 1) := by decide +kernel
theorem dX7_law_1 : decode cX7_law 1 = .ok (.getfield 26, 3) := by decide +kernel
theorem dX7_law_4 : decode cX7_law 4 = .ok (.iload_n 1, 1) := by decide +kernel
theorem dX7_law_5 : decode cX7_law 5 = .ok (.invokevirtual 193, 3) := by decide +kernel
theorem dX7_law_8 : decode cX7_law 8 = .ok (.ifCond .eq 13, 3) := by decide +kernel
theorem dX7_law_11 : decode cX7_law 11 = .ok (.iload_n 2, 1) := by decide +kernel
theorem dX7_law_12 : decode cX7_law 12 = .ok (.ifCond .lt 9, 3) := by decide +kernel
theorem dX7_law_15 : decode cX7_law 15 = .ok (.iload_n 2, 1) := by decide +kernel
theorem dX7_law_16 : decode cX7_law 16 = .ok (.bipush 7, 2) := by decide +kernel
theorem dX7_law_18 : decode cX7_law 18 = .ok (.if_icmp .lt 10, 3) := by decide +kernel
theorem dX7_law_21 : decode cX7_law 21 = .ok (.aload_n 0, 1) := by decide +kernel
theorem dX7_law_22 : decode cX7_law 22 = .ok (.bipush (-5), 2) := by decide +kernel
theorem dX7_law_24 : decode cX7_law 24 = .ok (.invokevirtual 86, 3) := by decide +kernel
theorem dX7_law_27 : decode cX7_law 27 = .ok (.ireturn, 1) := by decide +kernel
theorem dX7_law_28 : decode cX7_law 28 = .ok (.aload_n 0, 1) := by decide +kernel
theorem dX7_law_29 : decode cX7_law 29 = .ok (.getfield 26, 3) := by decide +kernel
theorem dX7_law_32 : decode cX7_law 32 = .ok (.iload_n 1, 1) := by decide +kernel
theorem dX7_law_33 : decode cX7_law 33 = .ok (.invokevirtual 194, 3) := by decide +kernel
theorem dX7_law_36 : decode cX7_law 36 = .ok (.iload_n 2, 1) := by decide +kernel
theorem dX7_law_37 : decode cX7_law 37 = .ok (.iaload, 1) := by decide +kernel
theorem dX7_law_38 : decode cX7_law 38 = .ok (.ireturn, 1) := by decide +kernel
theorem dX7_force_0 : decode cX7_force 0 = .ok (.aload_n 0, 1) := by decide +kernel
theorem dX7_force_1 : decode cX7_force 1 = .ok (.getfield 26, 3) := by decide +kernel
theorem dX7_force_4 : decode cX7_force 4 = .ok (.iload_n 1, 1) := by decide +kernel
theorem dX7_force_5 : decode cX7_force 5 = .ok (.invokevirtual 198, 3) := by decide +kernel
theorem dX7_force_8 : decode cX7_force 8 = .ok (.ifCond .ne 10, 3) := by decide +kernel
theorem dX7_force_11 : decode cX7_force 11 = .ok (.aload_n 0, 1) := by decide +kernel
theorem dX7_force_12 : decode cX7_force 12 = .ok (.bipush (-11), 2) := by decide +kernel
theorem dX7_force_14 : decode cX7_force 14 = .ok (.invokevirtual 86, 3) := by decide +kernel
theorem dX7_force_17 : decode cX7_force 17 = .ok (.ireturn, 1) := by decide +kernel
theorem dX7_force_18 : decode cX7_force 18 = .ok (.aload_n 0, 1) := by decide +kernel
theorem dX7_force_19 : decode cX7_force 19 = .ok (.getfield 26, 3) := by decide +kernel
theorem dX7_force_22 : decode cX7_force 22 = .ok (.getfield 201, 3) := by decide +kernel
theorem dX7_force_25 : decode cX7_force 25 = .ok (.istore_n 2, 1) := by decide +kernel
theorem dX7_force_26 : decode cX7_force 26 = .ok (.aload_n 0, 1) := by decide +kernel
theorem dX7_force_27 : decode cX7_force 27 = .ok (.getfield 26, 3) := by decide +kernel
theorem dX7_force_30 : decode cX7_force 30 = .ok (.iload_n 1, 1) := by decide +kernel
theorem dX7_force_31 : decode cX7_force 31 = .ok (.putfield 201, 3) := by decide +kernel
theorem dX7_force_34 : decode cX7_force 34 = .ok (.iload_n 2, 1) := by decide +kernel
theorem dX7_force_35 : decode cX7_force 35 = .ok (.ireturn, 1) := by decide +kernel
theorem dX7_seed_0 : decode cX7_seed 0 = .ok (.aload_n 0, 1) := by decide +kernel
theorem dX7_seed_1 : decode cX7_seed 1 = .ok (.getfield 19, 3) := by decide +kernel
theorem dX7_seed_4 : decode cX7_seed 4 = .ok (.getfield 204, 3) := by decide +kernel
theorem dX7_seed_7 : decode cX7_seed 7 = .ok (.istore_n 2, 1) := by decide +kernel
theorem dX7_seed_8 : decode cX7_seed 8 = .ok (.aload_n 0, 1) := by decide +kernel
theorem dX7_seed_9 : decode cX7_seed 9 = .ok (.getfield 19, 3) := by decide +kernel
theorem dX7_seed_12 : decode cX7_seed 12 = .ok (.iload_n 1, 1) := by decide +kernel
theorem dX7_seed_13 : decode cX7_seed 13 = .ok (.putfield 204, 3) := by decide +kernel
theorem dX7_seed_16 : decode cX7_seed 16 = .ok (.iload_n 2, 1) := by decide +kernel
theorem dX7_seed_17 : decode cX7_seed 17 = .ok (.ireturn, 1) := by decide +kernel
theorem dX7_tick_0 : decode cX7_tick 0 = .ok (.iload_n 1, 1) := by decide +kernel
theorem dX7_tick_1 : decode cX7_tick 1 = .ok (.iconst 1, 1) := by decide +kernel
theorem dX7_tick_2 : decode cX7_tick 2 = .ok (.if_icmp .lt 24, 3) := by decide +kernel
theorem dX7_tick_5 : decode cX7_tick 5 = .ok (.iload_n 1, 1) := by decide +kernel
theorem dX7_tick_6 : decode cX7_tick 6 = .ok (.bipush 100, 2) := by decide +kernel
theorem dX7_tick_8 : decode cX7_tick 8 = .ok (.if_icmp .gt 18, 3) := by decide +kernel
theorem dX7_tick_11 : decode cX7_tick 11 = .ok (.aload_n 0, 1) := by decide +kernel
theorem dX7_tick_12 : decode cX7_tick 12 = .ok (.getfield 19, 3) := by decide +kernel
theorem dX7_tick_15 : decode cX7_tick 15 = .ok (.getfield 207, 3) := by decide +kernel
theorem dX7_tick_18 : decode cX7_tick 18 = .ok (.iload_n 1, 1) := by decide +kernel
theorem dX7_tick_19 : decode cX7_tick 19 = .ok (.iadd, 1) := by decide +kernel
theorem dX7_tick_20 : decode cX7_tick 20 = .ok (.sipush 9999, 3) := by decide +kernel
theorem dX7_tick_23 : decode cX7_tick 23 = .ok (.if_icmp .le 10, 3) := by decide +kernel
theorem dX7_tick_26 : decode cX7_tick 26 = .ok (.aload_n 0, 1) := by decide +kernel
theorem dX7_tick_27 : decode cX7_tick 27 = .ok (.bipush (-6), 2) := by decide +kernel
theorem dX7_tick_29 : decode cX7_tick 29 = .ok (.invokevirtual 86, 3) := by decide +kernel
theorem dX7_tick_32 : decode cX7_tick 32 = .ok (.ireturn, 1) := by decide +kernel
theorem dX7_tick_33 : decode cX7_tick 33 = .ok (.aload_n 0, 1) := by decide +kernel
theorem dX7_tick_34 : decode cX7_tick 34 = .ok (.getfield 19, 3) := by decide +kernel
theorem dX7_tick_37 : decode cX7_tick 37 = .ok (.aload_n 0, 1) := by decide +kernel
theorem dX7_tick_38 : decode cX7_tick 38 = .ok (.getfield 26, 3) := by decide +kernel
theorem dX7_tick_41 : decode cX7_tick 41 = .ok (.invokevirtual 210, 3) := by decide +kernel
theorem dX7_tick_44 : decode cX7_tick 44 = .ok (.iload_n 1, 1) := by decide +kernel
theorem dX7_tick_45 : decode cX7_tick 45 = .ok (.invokevirtual 214, 3) := by decide +kernel
theorem dX7_tick_48 : decode cX7_tick 48 = .ok (.aload_n 0, 1) := by decide +kernel
theorem dX7_tick_49 : decode cX7_tick 49 = .ok (.getfield 19, 3) := by decide +kernel
theorem dX7_tick_52 : decode cX7_tick 52 = .ok (.bipush 6, 2) := by decide +kernel
theorem dX7_tick_54 : decode cX7_tick 54 = .ok (.iconst 1, 1) := by decide +kernel
theorem dX7_tick_55 : decode cX7_tick 55 = .ok (.invokevirtual 218, 3) := by decide +kernel
theorem dX7_tick_58 : decode cX7_tick 58 = .ok (.ireturn, 1) := by decide +kernel
theorem dX7_begin_0 : decode cX7_begin 0 = .ok (.aload_n 0, 1) := by decide +kernel
theorem dX7_begin_1 : decode cX7_begin 1 = .ok (.getfield 19, 3) := by decide +kernel
theorem dX7_begin_4 : decode cX7_begin 4 = .ok (.iload_n 1, 1) := by decide +kernel
theorem dX7_begin_5 : decode cX7_begin 5 = .ok (.invokevirtual 121, 3) := by decide +kernel
theorem dX7_begin_8 : decode cX7_begin 8 = .ok (.ifCond .ne 9, 3) := by decide +kernel
theorem dX7_begin_11 : decode cX7_begin 11 = .ok (.aload_n 0, 1) := by decide +kernel
theorem dX7_begin_12 : decode cX7_begin 12 = .ok (.iconst (-1), 1) := by decide +kernel
theorem dX7_begin_13 : decode cX7_begin 13 = .ok (.invokevirtual 86, 3) := by decide +kernel
theorem dX7_begin_16 : decode cX7_begin 16 = .ok (.ireturn, 1) := by decide +kernel
theorem dX7_begin_17 : decode cX7_begin 17 = .ok (.aload_n 0, 1) := by decide +kernel
theorem dX7_begin_18 : decode cX7_begin 18 = .ok (.getfield 19, 3) := by decide +kernel
theorem dX7_begin_21 : decode cX7_begin 21 = .ok (.getfield 221, 3) := by decide +kernel
theorem dX7_begin_24 : decode cX7_begin 24 = .ok (.iload_n 1, 1) := by decide +kernel
theorem dX7_begin_25 : decode cX7_begin 25 = .ok (.iaload, 1) := by decide +kernel
theorem dX7_begin_26 : decode cX7_begin 26 = .ok (.ifCond .eq 10, 3) := by decide +kernel
theorem dX7_begin_29 : decode cX7_begin 29 = .ok (.aload_n 0, 1) := by decide +kernel
theorem dX7_begin_30 : decode cX7_begin 30 = .ok (.bipush (-6), 2) := by decide +kernel
theorem dX7_begin_32 : decode cX7_begin 32 = .ok (.invokevirtual 86, 3) := by decide +kernel
theorem dX7_begin_35 : decode cX7_begin 35 = .ok (.ireturn, 1) := by decide +kernel
theorem dX7_begin_36 : decode cX7_begin 36 = .ok (.aload_n 0, 1) := by decide +kernel
theorem dX7_begin_37 : decode cX7_begin 37 = .ok (.getfield 19, 3) := by decide +kernel
theorem dX7_begin_40 : decode cX7_begin 40 = .ok (.iload_n 1, 1) := by decide +kernel
theorem dX7_begin_41 : decode cX7_begin 41 = .ok (.invokevirtual 224, 3) := by decide +kernel
theorem dX7_begin_44 : decode cX7_begin 44 = .ok (.iconst 1, 1) := by decide +kernel
theorem dX7_begin_45 : decode cX7_begin 45 = .ok (.ireturn, 1) := by decide +kernel
theorem dX7_hush_0 : decode cX7_hush 0 = .ok (.aload_n 0, 1) := by decide +kernel
theorem dX7_hush_1 : decode cX7_hush 1 = .ok (.getfield 19, 3) := by decide +kernel
theorem dX7_hush_4 : decode cX7_hush 4 = .ok (.invokevirtual 228, 3) := by decide +kernel
theorem dX7_hush_7 : decode cX7_hush 7 = .ok (.ireturn, 1) := by decide +kernel
theorem dX7_heard_0 : decode cX7_heard 0 = .ok (.aload_n 0, 1) := by decide +kernel
theorem dX7_heard_1 : decode cX7_heard 1 = .ok (.getfield 19, 3) := by decide +kernel
theorem dX7_heard_4 : decode cX7_heard 4 = .ok (.iload_n 1, 1) := by decide +kernel
theorem dX7_heard_5 : decode cX7_heard 5 = .ok (.invokevirtual 121, 3) := by decide +kernel
theorem dX7_heard_8 : decode cX7_heard 8 = .ok (.ifCond .ne 9, 3) := by decide +kernel
theorem dX7_heard_11 : decode cX7_heard 11 = .ok (.aload_n 0, 1) := by decide +kernel
theorem dX7_heard_12 : decode cX7_heard 12 = .ok (.iconst (-1), 1) := by decide +kernel
theorem dX7_heard_13 : decode cX7_heard 13 = .ok (.invokevirtual 86, 3) := by decide +kernel
theorem dX7_heard_16 : decode cX7_heard 16 = .ok (.ireturn, 1) := by decide +kernel
theorem dX7_heard_17 : decode cX7_heard 17 = .ok (.aload_n 0, 1) := by decide +kernel
theorem dX7_heard_18 : decode cX7_heard 18 = .ok (.getfield 19, 3) := by decide +kernel
theorem dX7_heard_21 : decode cX7_heard 21 = .ok (.invokevirtual 232, 3) := by decide +kernel
theorem dX7_heard_24 : decode cX7_heard 24 = .ok (.aload_n 0, 1) := by decide +kernel
theorem dX7_heard_25 : decode cX7_heard 25 = .ok (.getfield 19, 3) := by decide +kernel
theorem dX7_heard_28 : decode cX7_heard 28 = .ok (.getfield 235, 3) := by decide +kernel
theorem dX7_heard_31 : decode cX7_heard 31 = .ok (.iload_n 1, 1) := by decide +kernel
theorem dX7_heard_32 : decode cX7_heard 32 = .ok (.iaload, 1) := by decide +kernel
theorem dX7_heard_33 : decode cX7_heard 33 = .ok (.ireturn, 1) := by decide +kernel
theorem dX7_beside_0 : decode cX7_beside 0 = .ok (.aload_n 0, 1) := by decide +kernel
theorem dX7_beside_1 : decode cX7_beside 1 = .ok (.getfield 19, 3) := by decide +kernel
theorem dX7_beside_4 : decode cX7_beside 4 = .ok (.iload_n 1, 1) := by decide +kernel
theorem dX7_beside_5 : decode cX7_beside 5 = .ok (.invokevirtual 121, 3) := by decide +kernel
theorem dX7_beside_8 : decode cX7_beside 8 = .ok (.ifCond .ne 9, 3) := by decide +kernel
theorem dX7_beside_11 : decode cX7_beside 11 = .ok (.aload_n 0, 1) := by decide +kernel
theorem dX7_beside_12 : decode cX7_beside 12 = .ok (.iconst (-1), 1) := by decide +kernel
theorem dX7_beside_13 : decode cX7_beside 13 = .ok (.invokevirtual 86, 3) := by decide +kernel
theorem dX7_beside_16 : decode cX7_beside 16 = .ok (.ireturn, 1) := by decide +kernel
theorem dX7_beside_17 : decode cX7_beside 17 = .ok (.aload_n 0, 1) := by decide +kernel
theorem dX7_beside_18 : decode cX7_beside 18 = .ok (.getfield 19, 3) := by decide +kernel
theorem dX7_beside_21 : decode cX7_beside 21 = .ok (.invokevirtual 232, 3) := by decide +kernel
theorem dX7_beside_24 : decode cX7_beside 24 = .ok (.aload_n 0, 1) := by decide +kernel
theorem dX7_beside_25 : decode cX7_beside 25 = .ok (.getfield 19, 3) := by decide +kernel
theorem dX7_beside_28 : decode cX7_beside 28 = .ok (.getfield 238, 3) := by decide +kernel
theorem dX7_beside_31 : decode cX7_beside 31 = .ok (.iload_n 1, 1) := by decide +kernel
theorem dX7_beside_32 : decode cX7_beside 32 = .ok (.iaload, 1) := by decide +kernel
theorem dX7_beside_33 : decode cX7_beside 33 = .ok (.ireturn, 1) := by decide +kernel
theorem dX7_many_0 : decode cX7_many 0 = .ok (.iload_n 1, 1) := by decide +kernel
theorem dX7_many_1 : decode cX7_many 1 = .ok (.tableswitch 75 0 3 #[31, 42, 53, 64], 31) := by decide +kernel
theorem dX7_many_32 : decode cX7_many 32 = .ok (.aload_n 0, 1) := by decide +kernel
theorem dX7_many_33 : decode cX7_many 33 = .ok (.getfield 19, 3) := by decide +kernel
theorem dX7_many_36 : decode cX7_many 36 = .ok (.bipush 6, 2) := by decide +kernel
theorem dX7_many_38 : decode cX7_many 38 = .ok (.iconst 1, 1) := by decide +kernel
theorem dX7_many_39 : decode cX7_many 39 = .ok (.invokevirtual 218, 3) := by decide +kernel
theorem dX7_many_42 : decode cX7_many 42 = .ok (.ireturn, 1) := by decide +kernel
theorem dX7_many_43 : decode cX7_many 43 = .ok (.aload_n 0, 1) := by decide +kernel
theorem dX7_many_44 : decode cX7_many 44 = .ok (.getfield 19, 3) := by decide +kernel
theorem dX7_many_47 : decode cX7_many 47 = .ok (.getfield 241, 3) := by decide +kernel
theorem dX7_many_50 : decode cX7_many 50 = .ok (.invokestatic 244, 3) := by decide +kernel
theorem dX7_many_53 : decode cX7_many 53 = .ok (.ireturn, 1) := by decide +kernel
theorem dX7_many_54 : decode cX7_many 54 = .ok (.aload_n 0, 1) := by decide +kernel
theorem dX7_many_55 : decode cX7_many 55 = .ok (.getfield 19, 3) := by decide +kernel
theorem dX7_many_58 : decode cX7_many 58 = .ok (.bipush 8, 2) := by decide +kernel
theorem dX7_many_60 : decode cX7_many 60 = .ok (.iconst 1, 1) := by decide +kernel
theorem dX7_many_61 : decode cX7_many 61 = .ok (.invokevirtual 218, 3) := by decide +kernel
theorem dX7_many_64 : decode cX7_many 64 = .ok (.ireturn, 1) := by decide +kernel
theorem dX7_many_65 : decode cX7_many 65 = .ok (.aload_n 0, 1) := by decide +kernel
theorem dX7_many_66 : decode cX7_many 66 = .ok (.getfield 19, 3) := by decide +kernel
theorem dX7_many_69 : decode cX7_many 69 = .ok (.bipush 6, 2) := by decide +kernel
theorem dX7_many_71 : decode cX7_many 71 = .ok (.iconst 2, 1) := by decide +kernel
theorem dX7_many_72 : decode cX7_many 72 = .ok (.invokevirtual 218, 3) := by decide +kernel
theorem dX7_many_75 : decode cX7_many 75 = .ok (.ireturn, 1) := by decide +kernel
theorem dX7_many_76 : decode cX7_many 76 = .ok (.aload_n 0, 1) := by decide +kernel
theorem dX7_many_77 : decode cX7_many 77 = .ok (.bipush (-5), 2) := by decide +kernel
theorem dX7_many_79 : decode cX7_many 79 = .ok (.invokevirtual 86, 3) := by decide +kernel
theorem dX7_many_82 : decode cX7_many 82 = .ok (.ireturn, 1) := by decide +kernel
theorem dX7_hits_0 : decode cX7_hits 0 = .ok (.aload_n 0, 1) := by decide +kernel
theorem dX7_hits_1 : decode cX7_hits 1 = .ok (.getfield 19, 3) := by decide +kernel
theorem dX7_hits_4 : decode cX7_hits 4 = .ok (.getfield 241, 3) := by decide +kernel
theorem dX7_hits_7 : decode cX7_hits 7 = .ok (.ireturn, 1) := by decide +kernel
theorem dX7_step_0 : decode cX7_step 0 = .ok (.aload_n 0, 1) := by decide +kernel
theorem dX7_step_1 : decode cX7_step 1 = .ok (.getfield 19, 3) := by decide +kernel
theorem dX7_step_4 : decode cX7_step 4 = .ok (.getfield 249, 3) := by decide +kernel
theorem dX7_step_7 : decode cX7_step 7 = .ok (.istore_n 1, 1) := by decide +kernel
theorem dX7_step_8 : decode cX7_step 8 = .ok (.iload_n 1, 1) := by decide +kernel
theorem dX7_step_9 : decode cX7_step 9 = .ok (.ifCond .le 21, 3) := by decide +kernel
theorem dX7_step_12 : decode cX7_step 12 = .ok (.bipush 100, 2) := by decide +kernel
theorem dX7_step_14 : decode cX7_step 14 = .ok (.aload_n 0, 1) := by decide +kernel
theorem dX7_step_15 : decode cX7_step 15 = .ok (.getfield 19, 3) := by decide +kernel
theorem dX7_step_18 : decode cX7_step 18 = .ok (.getfield 241, 3) := by decide +kernel
theorem dX7_step_21 : decode cX7_step 21 = .ok (.invokestatic 244, 3) := by decide +kernel
theorem dX7_step_24 : decode cX7_step 24 = .ok (.imul, 1) := by decide +kernel
theorem dX7_step_25 : decode cX7_step 25 = .ok (.iload_n 1, 1) := by decide +kernel
theorem dX7_step_26 : decode cX7_step 26 = .ok (.idiv, 1) := by decide +kernel
theorem dX7_step_27 : decode cX7_step 27 = .ok (.goto 4, 3) := by decide +kernel
theorem dX7_step_30 : decode cX7_step 30 = .ok (.iconst 0, 1) := by decide +kernel
theorem dX7_step_31 : decode cX7_step 31 = .ok (.ireturn, 1) := by decide +kernel
theorem dX7_length_0 : decode cX7_length 0 = .ok (.aload_n 0, 1) := by decide +kernel
theorem dX7_length_1 : decode cX7_length 1 = .ok (.getfield 26, 3) := by decide +kernel
theorem dX7_length_4 : decode cX7_length 4 = .ok (.iload_n 1, 1) := by decide +kernel
theorem dX7_length_5 : decode cX7_length 5 = .ok (.invokevirtual 198, 3) := by decide +kernel
theorem dX7_length_8 : decode cX7_length 8 = .ok (.ifCond .ne 9, 3) := by decide +kernel
theorem dX7_length_11 : decode cX7_length 11 = .ok (.aload_n 0, 1) := by decide +kernel
theorem dX7_length_12 : decode cX7_length 12 = .ok (.iconst (-1), 1) := by decide +kernel
theorem dX7_length_13 : decode cX7_length 13 = .ok (.invokevirtual 86, 3) := by decide +kernel
theorem dX7_length_16 : decode cX7_length 16 = .ok (.ireturn, 1) := by decide +kernel
theorem dX7_length_17 : decode cX7_length 17 = .ok (.iload_n 2, 1) := by decide +kernel
theorem dX7_length_18 : decode cX7_length 18 = .ok (.invokestatic 252, 3) := by decide +kernel
theorem dX7_length_21 : decode cX7_length 21 = .ok (.ifCond .ne 10, 3) := by decide +kernel
theorem dX7_length_24 : decode cX7_length 24 = .ok (.aload_n 0, 1) := by decide +kernel
theorem dX7_length_25 : decode cX7_length 25 = .ok (.bipush (-6), 2) := by decide +kernel
theorem dX7_length_27 : decode cX7_length 27 = .ok (.invokevirtual 86, 3) := by decide +kernel
theorem dX7_length_30 : decode cX7_length 30 = .ok (.ireturn, 1) := by decide +kernel
theorem dX7_length_31 : decode cX7_length 31 = .ok (.aload_n 0, 1) := by decide +kernel
theorem dX7_length_32 : decode cX7_length 32 = .ok (.aload_n 0, 1) := by decide +kernel
theorem dX7_length_33 : decode cX7_length 33 = .ok (.getfield 40, 3) := by decide +kernel
theorem dX7_length_36 : decode cX7_length 36 = .ok (.iload_n 1, 1) := by decide +kernel
theorem dX7_length_37 : decode cX7_length 37 = .ok (.iload_n 2, 1) := by decide +kernel
theorem dX7_length_38 : decode cX7_length 38 = .ok (.invokevirtual 255, 3) := by decide +kernel
theorem dX7_length_41 : decode cX7_length 41 = .ok (.aload_n 0, 1) := by decide +kernel
theorem dX7_length_42 : decode cX7_length 42 = .ok (.getfield 40, 3) := by decide +kernel
theorem dX7_length_45 : decode cX7_length 45 = .ok (.invokevirtual 259, 3) := by decide +kernel
theorem dX7_length_48 : decode cX7_length 48 = .ok (.ireturn, 1) := by decide +kernel
theorem dX7_joined_0 : decode cX7_joined 0 = .ok (.aload_n 0, 1) := by decide +kernel
theorem dX7_joined_1 : decode cX7_joined 1 = .ok (.getfield 26, 3) := by decide +kernel
theorem dX7_joined_4 : decode cX7_joined 4 = .ok (.iload_n 1, 1) := by decide +kernel
theorem dX7_joined_5 : decode cX7_joined 5 = .ok (.invokevirtual 198, 3) := by decide +kernel
theorem dX7_joined_8 : decode cX7_joined 8 = .ok (.ifCond .ne 9, 3) := by decide +kernel
theorem dX7_joined_11 : decode cX7_joined 11 = .ok (.aload_n 0, 1) := by decide +kernel
theorem dX7_joined_12 : decode cX7_joined 12 = .ok (.iconst (-1), 1) := by decide +kernel
theorem dX7_joined_13 : decode cX7_joined 13 = .ok (.invokevirtual 86, 3) := by decide +kernel
theorem dX7_joined_16 : decode cX7_joined 16 = .ok (.ireturn, 1) := by decide +kernel
theorem dX7_joined_17 : decode cX7_joined 17 = .ok (.iload_n 2, 1) := by decide +kernel
theorem dX7_joined_18 : decode cX7_joined 18 = .ok (.invokestatic 252, 3) := by decide +kernel
theorem dX7_joined_21 : decode cX7_joined 21 = .ok (.ifCond .ne 10, 3) := by decide +kernel
theorem dX7_joined_24 : decode cX7_joined 24 = .ok (.aload_n 0, 1) := by decide +kernel
theorem dX7_joined_25 : decode cX7_joined 25 = .ok (.bipush (-6), 2) := by decide +kernel
theorem dX7_joined_27 : decode cX7_joined 27 = .ok (.invokevirtual 86, 3) := by decide +kernel
theorem dX7_joined_30 : decode cX7_joined 30 = .ok (.ireturn, 1) := by decide +kernel
theorem dX7_joined_31 : decode cX7_joined 31 = .ok (.aload_n 0, 1) := by decide +kernel
theorem dX7_joined_32 : decode cX7_joined 32 = .ok (.aload_n 0, 1) := by decide +kernel
theorem dX7_joined_33 : decode cX7_joined 33 = .ok (.getfield 40, 3) := by decide +kernel
theorem dX7_joined_36 : decode cX7_joined 36 = .ok (.iload_n 1, 1) := by decide +kernel
theorem dX7_joined_37 : decode cX7_joined 37 = .ok (.iload_n 2, 1) := by decide +kernel
theorem dX7_joined_38 : decode cX7_joined 38 = .ok (.invokevirtual 255, 3) := by decide +kernel
theorem dX7_joined_41 : decode cX7_joined 41 = .ok (.aload_n 0, 1) := by decide +kernel
theorem dX7_joined_42 : decode cX7_joined 42 = .ok (.getfield 40, 3) := by decide +kernel
theorem dX7_joined_45 : decode cX7_joined 45 = .ok (.invokevirtual 262, 3) := by decide +kernel
theorem dX7_joined_48 : decode cX7_joined 48 = .ok (.ireturn, 1) := by decide +kernel
theorem dX7_tally_0 : decode cX7_tally 0 = .ok (.aload_n 0, 1) := by decide +kernel
theorem dX7_tally_1 : decode cX7_tally 1 = .ok (.getfield 26, 3) := by decide +kernel
theorem dX7_tally_4 : decode cX7_tally 4 = .ok (.iload_n 1, 1) := by decide +kernel
theorem dX7_tally_5 : decode cX7_tally 5 = .ok (.invokevirtual 198, 3) := by decide +kernel
theorem dX7_tally_8 : decode cX7_tally 8 = .ok (.ifCond .eq 19, 3) := by decide +kernel
theorem dX7_tally_11 : decode cX7_tally 11 = .ok (.iload_n 2, 1) := by decide +kernel
theorem dX7_tally_12 : decode cX7_tally 12 = .ok (.invokestatic 252, 3) := by decide +kernel
theorem dX7_tally_15 : decode cX7_tally 15 = .ok (.ifCond .eq 12, 3) := by decide +kernel
theorem dX7_tally_18 : decode cX7_tally 18 = .ok (.iload_n 3, 1) := by decide +kernel
theorem dX7_tally_19 : decode cX7_tally 19 = .ok (.ifCond .lt 8, 3) := by decide +kernel
theorem dX7_tally_22 : decode cX7_tally 22 = .ok (.iload_n 3, 1) := by decide +kernel
theorem dX7_tally_23 : decode cX7_tally 23 = .ok (.iload_n 2, 1) := by decide +kernel
theorem dX7_tally_24 : decode cX7_tally 24 = .ok (.if_icmp .lt 10, 3) := by decide +kernel
theorem dX7_tally_27 : decode cX7_tally 27 = .ok (.aload_n 0, 1) := by decide +kernel
theorem dX7_tally_28 : decode cX7_tally 28 = .ok (.bipush (-5), 2) := by decide +kernel
theorem dX7_tally_30 : decode cX7_tally 30 = .ok (.invokevirtual 86, 3) := by decide +kernel
theorem dX7_tally_33 : decode cX7_tally 33 = .ok (.ireturn, 1) := by decide +kernel
theorem dX7_tally_34 : decode cX7_tally 34 = .ok (.aload_n 0, 1) := by decide +kernel
theorem dX7_tally_35 : decode cX7_tally 35 = .ok (.aload_n 0, 1) := by decide +kernel
theorem dX7_tally_36 : decode cX7_tally 36 = .ok (.getfield 40, 3) := by decide +kernel
theorem dX7_tally_39 : decode cX7_tally 39 = .ok (.iload_n 1, 1) := by decide +kernel
theorem dX7_tally_40 : decode cX7_tally 40 = .ok (.iload_n 2, 1) := by decide +kernel
theorem dX7_tally_41 : decode cX7_tally 41 = .ok (.invokevirtual 255, 3) := by decide +kernel
theorem dX7_tally_44 : decode cX7_tally 44 = .ok (.aload_n 0, 1) := by decide +kernel
theorem dX7_tally_45 : decode cX7_tally 45 = .ok (.getfield 40, 3) := by decide +kernel
theorem dX7_tally_48 : decode cX7_tally 48 = .ok (.getfield 265, 3) := by decide +kernel
theorem dX7_tally_51 : decode cX7_tally 51 = .ok (.iload_n 3, 1) := by decide +kernel
theorem dX7_tally_52 : decode cX7_tally 52 = .ok (.iaload, 1) := by decide +kernel
theorem dX7_tally_53 : decode cX7_tally 53 = .ok (.ireturn, 1) := by decide +kernel
theorem dX7_grows_0 : decode cX7_grows 0 = .ok (.aload_n 0, 1) := by decide +kernel
theorem dX7_grows_1 : decode cX7_grows 1 = .ok (.getfield 19, 3) := by decide +kernel
theorem dX7_grows_4 : decode cX7_grows 4 = .ok (.iload_n 1, 1) := by decide +kernel
theorem dX7_grows_5 : decode cX7_grows 5 = .ok (.invokevirtual 121, 3) := by decide +kernel
theorem dX7_grows_8 : decode cX7_grows 8 = .ok (.ifCond .ne 9, 3) := by decide +kernel
theorem dX7_grows_11 : decode cX7_grows 11 = .ok (.aload_n 0, 1) := by decide +kernel
theorem dX7_grows_12 : decode cX7_grows 12 = .ok (.iconst (-1), 1) := by decide +kernel
theorem dX7_grows_13 : decode cX7_grows 13 = .ok (.invokevirtual 86, 3) := by decide +kernel
theorem dX7_grows_16 : decode cX7_grows 16 = .ok (.ireturn, 1) := by decide +kernel
theorem dX7_grows_17 : decode cX7_grows 17 = .ok (.aload_n 0, 1) := by decide +kernel
theorem dX7_grows_18 : decode cX7_grows 18 = .ok (.getfield 40, 3) := by decide +kernel
theorem dX7_grows_21 : decode cX7_grows 21 = .ok (.aload_n 0, 1) := by decide +kernel
theorem dX7_grows_22 : decode cX7_grows 22 = .ok (.getfield 19, 3) := by decide +kernel
theorem dX7_grows_25 : decode cX7_grows 25 = .ok (.invokevirtual 268, 3) := by decide +kernel
theorem dX7_grows_28 : decode cX7_grows 28 = .ok (.aload_n 0, 1) := by decide +kernel
theorem dX7_grows_29 : decode cX7_grows 29 = .ok (.getfield 40, 3) := by decide +kernel
theorem dX7_grows_32 : decode cX7_grows 32 = .ok (.getfield 272, 3) := by decide +kernel
theorem dX7_grows_35 : decode cX7_grows 35 = .ok (.iload_n 1, 1) := by decide +kernel
theorem dX7_grows_36 : decode cX7_grows 36 = .ok (.invokevirtual 273, 3) := by decide +kernel
theorem dX7_grows_39 : decode cX7_grows 39 = .ok (.aload_n 0, 1) := by decide +kernel
theorem dX7_grows_40 : decode cX7_grows 40 = .ok (.getfield 40, 3) := by decide +kernel
theorem dX7_grows_43 : decode cX7_grows 43 = .ok (.aload_n 0, 1) := by decide +kernel
theorem dX7_grows_44 : decode cX7_grows 44 = .ok (.getfield 26, 3) := by decide +kernel
theorem dX7_grows_47 : decode cX7_grows 47 = .ok (.invokevirtual 210, 3) := by decide +kernel
theorem dX7_grows_50 : decode cX7_grows 50 = .ok (.bipush 100, 2) := by decide +kernel
theorem dX7_grows_52 : decode cX7_grows 52 = .ok (.invokevirtual 276, 3) := by decide +kernel
theorem dX7_grows_55 : decode cX7_grows 55 = .ok (.aload_n 0, 1) := by decide +kernel
theorem dX7_grows_56 : decode cX7_grows 56 = .ok (.getfield 40, 3) := by decide +kernel
theorem dX7_grows_59 : decode cX7_grows 59 = .ok (.invokevirtual 262, 3) := by decide +kernel
theorem dX7_grows_62 : decode cX7_grows 62 = .ok (.iconst 1, 1) := by decide +kernel
theorem dX7_grows_63 : decode cX7_grows 63 = .ok (.isub, 1) := by decide +kernel
theorem dX7_grows_64 : decode cX7_grows 64 = .ok (.ireturn, 1) := by decide +kernel
theorem dX7_few_0 : decode cX7_few 0 = .ok (.iload_n 1, 1) := by decide +kernel
theorem dX7_few_1 : decode cX7_few 1 = .ok (.iconst 1, 1) := by decide +kernel
theorem dX7_few_2 : decode cX7_few 2 = .ok (.if_icmp .lt 9, 3) := by decide +kernel
theorem dX7_few_5 : decode cX7_few 5 = .ok (.iload_n 1, 1) := by decide +kernel
theorem dX7_few_6 : decode cX7_few 6 = .ok (.bipush 30, 2) := by decide +kernel
theorem dX7_few_8 : decode cX7_few 8 = .ok (.if_icmp .le 10, 3) := by decide +kernel
theorem dX7_few_11 : decode cX7_few 11 = .ok (.aload_n 0, 1) := by decide +kernel
theorem dX7_few_12 : decode cX7_few 12 = .ok (.bipush (-6), 2) := by decide +kernel
theorem dX7_few_14 : decode cX7_few 14 = .ok (.invokevirtual 86, 3) := by decide +kernel
theorem dX7_few_17 : decode cX7_few 17 = .ok (.ireturn, 1) := by decide +kernel
theorem dX7_few_18 : decode cX7_few 18 = .ok (.aload_n 0, 1) := by decide +kernel
theorem dX7_few_19 : decode cX7_few 19 = .ok (.iconst (-1), 1) := by decide +kernel
theorem dX7_few_20 : decode cX7_few 20 = .ok (.iconst (-1), 1) := by decide +kernel
theorem dX7_few_21 : decode cX7_few 21 = .ok (.iload_n 1, 1) := by decide +kernel
theorem dX7_few_22 : decode cX7_few 22 = .ok (.invokevirtual 278, 3) := by decide +kernel
theorem dX7_few_25 : decode cX7_few 25 = .ok (.ifCond .eq 5, 3) := by decide +kernel
theorem dX7_few_28 : decode cX7_few 28 = .ok (.iconst 0, 1) := by decide +kernel
theorem dX7_few_29 : decode cX7_few 29 = .ok (.ireturn, 1) := by decide +kernel
theorem dX7_few_30 : decode cX7_few 30 = .ok (.iconst 0, 1) := by decide +kernel
theorem dX7_few_31 : decode cX7_few 31 = .ok (.istore_n 2, 1) := by decide +kernel
theorem dX7_few_32 : decode cX7_few 32 = .ok (.iload_n 2, 1) := by decide +kernel
theorem dX7_few_33 : decode cX7_few 33 = .ok (.aload_n 0, 1) := by decide +kernel
theorem dX7_few_34 : decode cX7_few 34 = .ok (.getfield 19, 3) := by decide +kernel
theorem dX7_few_37 : decode cX7_few 37 = .ok (.getfield 146, 3) := by decide +kernel
theorem dX7_few_40 : decode cX7_few 40 = .ok (.if_icmp .ge 23, 3) := by decide +kernel
theorem dX7_few_43 : decode cX7_few 43 = .ok (.aload_n 0, 1) := by decide +kernel
theorem dX7_few_44 : decode cX7_few 44 = .ok (.iconst (-1), 1) := by decide +kernel
theorem dX7_few_45 : decode cX7_few 45 = .ok (.iload_n 2, 1) := by decide +kernel
theorem dX7_few_46 : decode cX7_few 46 = .ok (.iload_n 1, 1) := by decide +kernel
theorem dX7_few_47 : decode cX7_few 47 = .ok (.invokevirtual 278, 3) := by decide +kernel
theorem dX7_few_50 : decode cX7_few 50 = .ok (.ifCond .eq 7, 3) := by decide +kernel
theorem dX7_few_53 : decode cX7_few 53 = .ok (.iconst 1, 1) := by decide +kernel
theorem dX7_few_54 : decode cX7_few 54 = .ok (.iload_n 2, 1) := by decide +kernel
theorem dX7_few_55 : decode cX7_few 55 = .ok (.ishl, 1) := by decide +kernel
theorem dX7_few_56 : decode cX7_few 56 = .ok (.ireturn, 1) := by decide +kernel
theorem dX7_few_57 : decode cX7_few 57 = .ok (.iinc 2 1, 3) := by decide +kernel
theorem dX7_few_60 : decode cX7_few 60 = .ok (.goto (-28), 3) := by decide +kernel
theorem dX7_few_63 : decode cX7_few 63 = .ok (.iconst 1, 1) := by decide +kernel
theorem dX7_few_64 : decode cX7_few 64 = .ok (.istore_n 2, 1) := by decide +kernel
theorem dX7_few_65 : decode cX7_few 65 = .ok (.iload_n 2, 1) := by decide +kernel
theorem dX7_few_66 : decode cX7_few 66 = .ok (.aload_n 0, 1) := by decide +kernel
theorem dX7_few_67 : decode cX7_few 67 = .ok (.getfield 19, 3) := by decide +kernel
theorem dX7_few_70 : decode cX7_few 70 = .ok (.getfield 146, 3) := by decide +kernel
theorem dX7_few_73 : decode cX7_few 73 = .ok (.if_icmp .ge 40, 3) := by decide +kernel
theorem dX7_few_76 : decode cX7_few 76 = .ok (.iconst 0, 1) := by decide +kernel
theorem dX7_few_77 : decode cX7_few 77 = .ok (.istore_n 3, 1) := by decide +kernel
theorem dX7_few_78 : decode cX7_few 78 = .ok (.iload_n 3, 1) := by decide +kernel
theorem dX7_few_79 : decode cX7_few 79 = .ok (.iload_n 2, 1) := by decide +kernel
theorem dX7_few_80 : decode cX7_few 80 = .ok (.if_icmp .ge 27, 3) := by decide +kernel
theorem dX7_few_83 : decode cX7_few 83 = .ok (.aload_n 0, 1) := by decide +kernel
theorem dX7_few_84 : decode cX7_few 84 = .ok (.iload_n 3, 1) := by decide +kernel
theorem dX7_few_85 : decode cX7_few 85 = .ok (.iload_n 2, 1) := by decide +kernel
theorem dX7_few_86 : decode cX7_few 86 = .ok (.iload_n 1, 1) := by decide +kernel
theorem dX7_few_87 : decode cX7_few 87 = .ok (.invokevirtual 278, 3) := by decide +kernel
theorem dX7_few_90 : decode cX7_few 90 = .ok (.ifCond .eq 11, 3) := by decide +kernel
theorem dX7_few_93 : decode cX7_few 93 = .ok (.iconst 1, 1) := by decide +kernel
theorem dX7_few_94 : decode cX7_few 94 = .ok (.iload_n 3, 1) := by decide +kernel
theorem dX7_few_95 : decode cX7_few 95 = .ok (.ishl, 1) := by decide +kernel
theorem dX7_few_96 : decode cX7_few 96 = .ok (.iconst 1, 1) := by decide +kernel
theorem dX7_few_97 : decode cX7_few 97 = .ok (.iload_n 2, 1) := by decide +kernel
theorem dX7_few_98 : decode cX7_few 98 = .ok (.ishl, 1) := by decide +kernel
theorem dX7_few_99 : decode cX7_few 99 = .ok (.ior, 1) := by decide +kernel
theorem dX7_few_100 : decode cX7_few 100 = .ok (.ireturn, 1) := by decide +kernel
theorem dX7_few_101 : decode cX7_few 101 = .ok (.iinc 3 1, 3) := by decide +kernel
theorem dX7_few_104 : decode cX7_few 104 = .ok (.goto (-26), 3) := by decide +kernel
theorem dX7_few_107 : decode cX7_few 107 = .ok (.iinc 2 1, 3) := by decide +kernel
theorem dX7_few_110 : decode cX7_few 110 = .ok (.goto (-45), 3) := by decide +kernel
theorem dX7_few_113 : decode cX7_few 113 = .ok (.aload_n 0, 1) := by decide +kernel
theorem dX7_few_114 : decode cX7_few 114 = .ok (.bipush (-5), 2) := by decide +kernel
theorem dX7_few_116 : decode cX7_few 116 = .ok (.invokevirtual 86, 3) := by decide +kernel
theorem dX7_few_119 : decode cX7_few 119 = .ok (.ireturn, 1) := by decide +kernel
theorem dX7_areEnough_0 : decode cX7_areEnough 0 = .ok (.iload_n 3, 1) := by decide +kernel
theorem dX7_areEnough_1 : decode cX7_areEnough 1 = .ok (.aload_n 0, 1) := by decide +kernel
theorem dX7_areEnough_2 : decode cX7_areEnough 2 = .ok (.getfield 19, 3) := by decide +kernel
theorem dX7_areEnough_5 : decode cX7_areEnough 5 = .ok (.getfield 146, 3) := by decide +kernel
theorem dX7_areEnough_8 : decode cX7_areEnough 8 = .ok (.if_icmp .gt 19, 3) := by decide +kernel
theorem dX7_areEnough_11 : decode cX7_areEnough 11 = .ok (.aload_n 0, 1) := by decide +kernel
theorem dX7_areEnough_12 : decode cX7_areEnough 12 = .ok (.iload_n 1, 1) := by decide +kernel
theorem dX7_areEnough_13 : decode cX7_areEnough 13 = .ok (.invokevirtual 281, 3) := by decide +kernel
theorem dX7_areEnough_16 : decode cX7_areEnough 16 = .ok (.ifCond .eq 11, 3) := by decide +kernel
theorem dX7_areEnough_19 : decode cX7_areEnough 19 = .ok (.aload_n 0, 1) := by decide +kernel
theorem dX7_areEnough_20 : decode cX7_areEnough 20 = .ok (.iload_n 2, 1) := by decide +kernel
theorem dX7_areEnough_21 : decode cX7_areEnough 21 = .ok (.invokevirtual 281, 3) := by decide +kernel
theorem dX7_areEnough_24 : decode cX7_areEnough 24 = .ok (.ifCond .ne 5, 3) := by decide +kernel
theorem dX7_areEnough_27 : decode cX7_areEnough 27 = .ok (.iconst 0, 1) := by decide +kernel
theorem dX7_areEnough_28 : decode cX7_areEnough 28 = .ok (.ireturn, 1) := by decide +kernel
theorem dX7_areEnough_29 : decode cX7_areEnough 29 = .ok (.aload_n 0, 1) := by decide +kernel
theorem dX7_areEnough_30 : decode cX7_areEnough 30 = .ok (.getfield 40, 3) := by decide +kernel
theorem dX7_areEnough_33 : decode cX7_areEnough 33 = .ok (.aload_n 0, 1) := by decide +kernel
theorem dX7_areEnough_34 : decode cX7_areEnough 34 = .ok (.getfield 19, 3) := by decide +kernel
theorem dX7_areEnough_37 : decode cX7_areEnough 37 = .ok (.invokevirtual 268, 3) := by decide +kernel
theorem dX7_areEnough_40 : decode cX7_areEnough 40 = .ok (.iload_n 1, 1) := by decide +kernel
theorem dX7_areEnough_41 : decode cX7_areEnough 41 = .ok (.iconst (-1), 1) := by decide +kernel
theorem dX7_areEnough_42 : decode cX7_areEnough 42 = .ok (.if_icmp .eq 14, 3) := by decide +kernel
theorem dX7_areEnough_45 : decode cX7_areEnough 45 = .ok (.aload_n 0, 1) := by decide +kernel
theorem dX7_areEnough_46 : decode cX7_areEnough 46 = .ok (.getfield 40, 3) := by decide +kernel
theorem dX7_areEnough_49 : decode cX7_areEnough 49 = .ok (.getfield 272, 3) := by decide +kernel
theorem dX7_areEnough_52 : decode cX7_areEnough 52 = .ok (.iload_n 1, 1) := by decide +kernel
theorem dX7_areEnough_53 : decode cX7_areEnough 53 = .ok (.invokevirtual 224, 3) := by decide +kernel
theorem dX7_areEnough_56 : decode cX7_areEnough 56 = .ok (.iload_n 2, 1) := by decide +kernel
theorem dX7_areEnough_57 : decode cX7_areEnough 57 = .ok (.iconst (-1), 1) := by decide +kernel
theorem dX7_areEnough_58 : decode cX7_areEnough 58 = .ok (.if_icmp .eq 14, 3) := by decide +kernel
theorem dX7_areEnough_61 : decode cX7_areEnough 61 = .ok (.aload_n 0, 1) := by decide +kernel
theorem dX7_areEnough_62 : decode cX7_areEnough 62 = .ok (.getfield 40, 3) := by decide +kernel
theorem dX7_areEnough_65 : decode cX7_areEnough 65 = .ok (.getfield 272, 3) := by decide +kernel
theorem dX7_areEnough_68 : decode cX7_areEnough 68 = .ok (.iload_n 2, 1) := by decide +kernel
theorem dX7_areEnough_69 : decode cX7_areEnough 69 = .ok (.invokevirtual 224, 3) := by decide +kernel
theorem dX7_areEnough_72 : decode cX7_areEnough 72 = .ok (.aload_n 0, 1) := by decide +kernel
theorem dX7_areEnough_73 : decode cX7_areEnough 73 = .ok (.getfield 40, 3) := by decide +kernel
theorem dX7_areEnough_76 : decode cX7_areEnough 76 = .ok (.aload_n 0, 1) := by decide +kernel
theorem dX7_areEnough_77 : decode cX7_areEnough 77 = .ok (.getfield 26, 3) := by decide +kernel
theorem dX7_areEnough_80 : decode cX7_areEnough 80 = .ok (.invokevirtual 210, 3) := by decide +kernel
theorem dX7_areEnough_83 : decode cX7_areEnough 83 = .ok (.bipush 60, 2) := by decide +kernel
theorem dX7_areEnough_85 : decode cX7_areEnough 85 = .ok (.invokevirtual 276, 3) := by decide +kernel
theorem dX7_areEnough_88 : decode cX7_areEnough 88 = .ok (.aload_n 0, 1) := by decide +kernel
theorem dX7_areEnough_89 : decode cX7_areEnough 89 = .ok (.getfield 40, 3) := by decide +kernel
theorem dX7_areEnough_92 : decode cX7_areEnough 92 = .ok (.invokevirtual 262, 3) := by decide +kernel
theorem dX7_areEnough_95 : decode cX7_areEnough 95 = .ok (.iload_n 3, 1) := by decide +kernel
theorem dX7_areEnough_96 : decode cX7_areEnough 96 = .ok (.if_icmp .lt 7, 3) := by decide +kernel
theorem dX7_areEnough_99 : decode cX7_areEnough 99 = .ok (.iconst 1, 1) := by decide +kernel
theorem dX7_areEnough_100 : decode cX7_areEnough 100 = .ok (.goto 4, 3) := by decide +kernel
theorem dX7_areEnough_103 : decode cX7_areEnough 103 = .ok (.iconst 0, 1) := by decide +kernel
theorem dX7_areEnough_104 : decode cX7_areEnough 104 = .ok (.ireturn, 1) := by decide +kernel
theorem dX7_mayBeAsked_0 : decode cX7_mayBeAsked 0 = .ok (.iload_n 1, 1) := by decide +kernel
theorem dX7_mayBeAsked_1 : decode cX7_mayBeAsked 1 = .ok (.iconst (-1), 1) := by decide +kernel
theorem dX7_mayBeAsked_2 : decode cX7_mayBeAsked 2 = .ok (.if_icmp .eq 26, 3) := by decide +kernel
theorem dX7_mayBeAsked_5 : decode cX7_mayBeAsked 5 = .ok (.aload_n 0, 1) := by decide +kernel
theorem dX7_mayBeAsked_6 : decode cX7_mayBeAsked 6 = .ok (.getfield 19, 3) := by decide +kernel
theorem dX7_mayBeAsked_9 : decode cX7_mayBeAsked 9 = .ok (.iload_n 1, 1) := by decide +kernel
theorem dX7_mayBeAsked_10 : decode cX7_mayBeAsked 10 = .ok (.invokevirtual 121, 3) := by decide +kernel
theorem dX7_mayBeAsked_13 : decode cX7_mayBeAsked 13 = .ok (.ifCond .eq 19, 3) := by decide +kernel
theorem dX7_mayBeAsked_16 : decode cX7_mayBeAsked 16 = .ok (.aload_n 0, 1) := by decide +kernel
theorem dX7_mayBeAsked_17 : decode cX7_mayBeAsked 17 = .ok (.getfield 19, 3) := by decide +kernel
theorem dX7_mayBeAsked_20 : decode cX7_mayBeAsked 20 = .ok (.getfield 221, 3) := by decide +kernel
theorem dX7_mayBeAsked_23 : decode cX7_mayBeAsked 23 = .ok (.iload_n 1, 1) := by decide +kernel
theorem dX7_mayBeAsked_24 : decode cX7_mayBeAsked 24 = .ok (.iaload, 1) := by decide +kernel
theorem dX7_mayBeAsked_25 : decode cX7_mayBeAsked 25 = .ok (.ifCond .ne 7, 3) := by decide +kernel
theorem dX7_mayBeAsked_28 : decode cX7_mayBeAsked 28 = .ok (.iconst 1, 1) := by decide +kernel
theorem dX7_mayBeAsked_29 : decode cX7_mayBeAsked 29 = .ok (.goto 4, 3) := by decide +kernel
theorem dX7_mayBeAsked_32 : decode cX7_mayBeAsked 32 = .ok (.iconst 0, 1) := by decide +kernel
theorem dX7_mayBeAsked_33 : decode cX7_mayBeAsked 33 = .ok (.ireturn, 1) := by decide +kernel
theorem dX7_front_0 : decode cX7_front 0 = .ok (.aload_n 0, 1) := by decide +kernel
theorem dX7_front_1 : decode cX7_front 1 = .ok (.getfield 26, 3) := by decide +kernel
theorem dX7_front_4 : decode cX7_front 4 = .ok (.iload_n 1, 1) := by decide +kernel
theorem dX7_front_5 : decode cX7_front 5 = .ok (.invokevirtual 198, 3) := by decide +kernel
theorem dX7_front_8 : decode cX7_front 8 = .ok (.ifCond .ne 10, 3) := by decide +kernel
theorem dX7_front_11 : decode cX7_front 11 = .ok (.aload_n 0, 1) := by decide +kernel
theorem dX7_front_12 : decode cX7_front 12 = .ok (.bipush (-11), 2) := by decide +kernel
theorem dX7_front_14 : decode cX7_front 14 = .ok (.invokevirtual 86, 3) := by decide +kernel
theorem dX7_front_17 : decode cX7_front 17 = .ok (.ireturn, 1) := by decide +kernel
theorem dX7_front_18 : decode cX7_front 18 = .ok (.aload_n 0, 1) := by decide +kernel
theorem dX7_front_19 : decode cX7_front 19 = .ok (.getfield 40, 3) := by decide +kernel
theorem dX7_front_22 : decode cX7_front 22 = .ok (.aload_n 0, 1) := by decide +kernel
theorem dX7_front_23 : decode cX7_front 23 = .ok (.getfield 19, 3) := by decide +kernel
theorem dX7_front_26 : decode cX7_front 26 = .ok (.invokevirtual 268, 3) := by decide +kernel
theorem dX7_front_29 : decode cX7_front 29 = .ok (.aload_n 0, 1) := by decide +kernel
theorem dX7_front_30 : decode cX7_front 30 = .ok (.getfield 40, 3) := by decide +kernel
theorem dX7_front_33 : decode cX7_front 33 = .ok (.getfield 272, 3) := by decide +kernel
theorem dX7_front_36 : decode cX7_front 36 = .ok (.aload_n 0, 1) := by decide +kernel
theorem dX7_front_37 : decode cX7_front 37 = .ok (.getfield 26, 3) := by decide +kernel
theorem dX7_front_40 : decode cX7_front 40 = .ok (.iload_n 1, 1) := by decide +kernel
theorem dX7_front_41 : decode cX7_front 41 = .ok (.invokevirtual 194, 3) := by decide +kernel
theorem dX7_front_44 : decode cX7_front 44 = .ok (.bipush 60, 2) := by decide +kernel
theorem dX7_front_46 : decode cX7_front 46 = .ok (.invokevirtual 214, 3) := by decide +kernel
theorem dX7_front_49 : decode cX7_front 49 = .ok (.aload_n 0, 1) := by decide +kernel
theorem dX7_front_50 : decode cX7_front 50 = .ok (.getfield 40, 3) := by decide +kernel
theorem dX7_front_53 : decode cX7_front 53 = .ok (.getfield 272, 3) := by decide +kernel
theorem dX7_front_56 : decode cX7_front 56 = .ok (.invokevirtual 284, 3) := by decide +kernel
theorem dX7_front_59 : decode cX7_front 59 = .ok (.ireturn, 1) := by decide +kernel
theorem dX7_fit_0 : decode cX7_fit 0 = .ok (.aload_n 0, 1) := by decide +kernel
theorem dX7_fit_1 : decode cX7_fit 1 = .ok (.iload_n 1, 1) := by decide +kernel
theorem dX7_fit_2 : decode cX7_fit 2 = .ok (.invokevirtual 94, 3) := by decide +kernel
theorem dX7_fit_5 : decode cX7_fit 5 = .ok (.istore_n 3, 1) := by decide +kernel
theorem dX7_fit_6 : decode cX7_fit 6 = .ok (.iload_n 3, 1) := by decide +kernel
theorem dX7_fit_7 : decode cX7_fit 7 = .ok (.ifCond .eq 9, 3) := by decide +kernel
theorem dX7_fit_10 : decode cX7_fit 10 = .ok (.aload_n 0, 1) := by decide +kernel
theorem dX7_fit_11 : decode cX7_fit 11 = .ok (.iload_n 3, 1) := by decide +kernel
theorem dX7_fit_12 : decode cX7_fit 12 = .ok (.invokevirtual 86, 3) := by decide +kernel
theorem dX7_fit_15 : decode cX7_fit 15 = .ok (.ireturn, 1) := by decide +kernel
theorem dX7_fit_16 : decode cX7_fit 16 = .ok (.iload_n 2, 1) := by decide +kernel
theorem dX7_fit_17 : decode cX7_fit 17 = .ok (.ifCond .ge 10, 3) := by decide +kernel
theorem dX7_fit_20 : decode cX7_fit 20 = .ok (.aload_n 0, 1) := by decide +kernel
theorem dX7_fit_21 : decode cX7_fit 21 = .ok (.bipush (-4), 2) := by decide +kernel
theorem dX7_fit_23 : decode cX7_fit 23 = .ok (.invokevirtual 86, 3) := by decide +kernel
theorem dX7_fit_26 : decode cX7_fit 26 = .ok (.ireturn, 1) := by decide +kernel
theorem dX7_fit_27 : decode cX7_fit 27 = .ok (.aload_n 0, 1) := by decide +kernel
theorem dX7_fit_28 : decode cX7_fit 28 = .ok (.getfield 12, 3) := by decide +kernel
theorem dX7_fit_31 : decode cX7_fit 31 = .ok (.iload_n 1, 1) := by decide +kernel
theorem dX7_fit_32 : decode cX7_fit 32 = .ok (.iconst 0, 1) := by decide +kernel
theorem dX7_fit_33 : decode cX7_fit 33 = .ok (.iload_n 2, 1) := by decide +kernel
theorem dX7_fit_34 : decode cX7_fit 34 = .ok (.invokevirtual 109, 3) := by decide +kernel
theorem dX7_fit_37 : decode cX7_fit 37 = .ok (.ifCond .ne 10, 3) := by decide +kernel
theorem dX7_fit_40 : decode cX7_fit 40 = .ok (.aload_n 0, 1) := by decide +kernel
theorem dX7_fit_41 : decode cX7_fit 41 = .ok (.bipush (-5), 2) := by decide +kernel
theorem dX7_fit_43 : decode cX7_fit 43 = .ok (.invokevirtual 86, 3) := by decide +kernel
theorem dX7_fit_46 : decode cX7_fit 46 = .ok (.ireturn, 1) := by decide +kernel
theorem dX7_fit_47 : decode cX7_fit 47 = .ok (.iload_n 2, 1) := by decide +kernel
theorem dX7_fit_48 : decode cX7_fit 48 = .ok (.bipush 100, 2) := by decide +kernel
theorem dX7_fit_50 : decode cX7_fit 50 = .ok (.if_icmp .le 10, 3) := by decide +kernel
theorem dX7_fit_53 : decode cX7_fit 53 = .ok (.aload_n 0, 1) := by decide +kernel
theorem dX7_fit_54 : decode cX7_fit 54 = .ok (.bipush (-6), 2) := by decide +kernel
theorem dX7_fit_56 : decode cX7_fit 56 = .ok (.invokevirtual 86, 3) := by decide +kernel
theorem dX7_fit_59 : decode cX7_fit 59 = .ok (.ireturn, 1) := by decide +kernel
theorem dX7_fit_60 : decode cX7_fit 60 = .ok (.iconst 0, 1) := by decide +kernel
theorem dX7_fit_61 : decode cX7_fit 61 = .ok (.istore 4, 2) := by decide +kernel
theorem dX7_fit_63 : decode cX7_fit 63 = .ok (.iconst 0, 1) := by decide +kernel
theorem dX7_fit_64 : decode cX7_fit 64 = .ok (.istore 5, 2) := by decide +kernel
theorem dX7_fit_66 : decode cX7_fit 66 = .ok (.iload 5, 2) := by decide +kernel
theorem dX7_fit_68 : decode cX7_fit 68 = .ok (.aload_n 0, 1) := by decide +kernel
theorem dX7_fit_69 : decode cX7_fit 69 = .ok (.getfield 26, 3) := by decide +kernel
theorem dX7_fit_72 : decode cX7_fit 72 = .ok (.getfield 185, 3) := by decide +kernel
theorem dX7_fit_75 : decode cX7_fit 75 = .ok (.if_icmp .ge 38, 3) := by decide +kernel
theorem dX7_fit_78 : decode cX7_fit 78 = .ok (.aload_n 0, 1) := by decide +kernel
theorem dX7_fit_79 : decode cX7_fit 79 = .ok (.aload_n 0, 1) := by decide +kernel
theorem dX7_fit_80 : decode cX7_fit 80 = .ok (.getfield 40, 3) := by decide +kernel
theorem dX7_fit_83 : decode cX7_fit 83 = .ok (.iload 5, 2) := by decide +kernel
theorem dX7_fit_85 : decode cX7_fit 85 = .ok (.iload_n 2, 1) := by decide +kernel
theorem dX7_fit_86 : decode cX7_fit 86 = .ok (.invokevirtual 255, 3) := by decide +kernel
theorem dX7_fit_89 : decode cX7_fit 89 = .ok (.aload_n 0, 1) := by decide +kernel
theorem dX7_fit_90 : decode cX7_fit 90 = .ok (.iload_n 1, 1) := by decide +kernel
theorem dX7_fit_91 : decode cX7_fit 91 = .ok (.iload_n 2, 1) := by decide +kernel
theorem dX7_fit_92 : decode cX7_fit 92 = .ok (.invokevirtual 287, 3) := by decide +kernel
theorem dX7_fit_95 : decode cX7_fit 95 = .ok (.ifCond .eq 12, 3) := by decide +kernel
theorem dX7_fit_98 : decode cX7_fit 98 = .ok (.iload 4, 2) := by decide +kernel
theorem dX7_fit_100 : decode cX7_fit 100 = .ok (.iconst 1, 1) := by decide +kernel
theorem dX7_fit_101 : decode cX7_fit 101 = .ok (.iload 5, 2) := by decide +kernel
theorem dX7_fit_103 : decode cX7_fit 103 = .ok (.ishl, 1) := by decide +kernel
theorem dX7_fit_104 : decode cX7_fit 104 = .ok (.ior, 1) := by decide +kernel
theorem dX7_fit_105 : decode cX7_fit 105 = .ok (.istore 4, 2) := by decide +kernel
theorem dX7_fit_107 : decode cX7_fit 107 = .ok (.iinc 5 1, 3) := by decide +kernel
theorem dX7_fit_110 : decode cX7_fit 110 = .ok (.goto (-44), 3) := by decide +kernel
theorem dX7_fit_113 : decode cX7_fit 113 = .ok (.iload 4, 2) := by decide +kernel
theorem dX7_fit_115 : decode cX7_fit 115 = .ok (.ireturn, 1) := by decide +kernel
theorem dX7_isAsTold_0 : decode cX7_isAsTold 0 = .ok (.iconst 0, 1) := by decide +kernel
theorem dX7_isAsTold_1 : decode cX7_isAsTold 1 = .ok (.istore_n 3, 1) := by decide +kernel
theorem dX7_isAsTold_2 : decode cX7_isAsTold 2 = .ok (.iload_n 3, 1) := by decide +kernel
theorem dX7_isAsTold_3 : decode cX7_isAsTold 3 = .ok (.iload_n 2, 1) := by decide +kernel
theorem dX7_isAsTold_4 : decode cX7_isAsTold 4 = .ok (.if_icmp .ge 32, 3) := by decide +kernel
theorem dX7_isAsTold_7 : decode cX7_isAsTold 7 = .ok (.aload_n 0, 1) := by decide +kernel
theorem dX7_isAsTold_8 : decode cX7_isAsTold 8 = .ok (.getfield 40, 3) := by decide +kernel
theorem dX7_isAsTold_11 : decode cX7_isAsTold 11 = .ok (.getfield 265, 3) := by decide +kernel
theorem dX7_isAsTold_14 : decode cX7_isAsTold 14 = .ok (.iload_n 3, 1) := by decide +kernel
theorem dX7_isAsTold_15 : decode cX7_isAsTold 15 = .ok (.iaload, 1) := by decide +kernel
theorem dX7_isAsTold_16 : decode cX7_isAsTold 16 = .ok (.aload_n 0, 1) := by decide +kernel
theorem dX7_isAsTold_17 : decode cX7_isAsTold 17 = .ok (.getfield 12, 3) := by decide +kernel
theorem dX7_isAsTold_20 : decode cX7_isAsTold 20 = .ok (.iload_n 1, 1) := by decide +kernel
theorem dX7_isAsTold_21 : decode cX7_isAsTold 21 = .ok (.iload_n 3, 1) := by decide +kernel
theorem dX7_isAsTold_22 : decode cX7_isAsTold 22 = .ok (.invokevirtual 156, 3) := by decide +kernel
theorem dX7_isAsTold_25 : decode cX7_isAsTold 25 = .ok (.if_icmp .eq 5, 3) := by decide +kernel
theorem dX7_isAsTold_28 : decode cX7_isAsTold 28 = .ok (.iconst 0, 1) := by decide +kernel
theorem dX7_isAsTold_29 : decode cX7_isAsTold 29 = .ok (.ireturn, 1) := by decide +kernel
theorem dX7_isAsTold_30 : decode cX7_isAsTold 30 = .ok (.iinc 3 1, 3) := by decide +kernel
theorem dX7_isAsTold_33 : decode cX7_isAsTold 33 = .ok (.goto (-31), 3) := by decide +kernel
theorem dX7_isAsTold_36 : decode cX7_isAsTold 36 = .ok (.iconst 1, 1) := by decide +kernel
theorem dX7_isAsTold_37 : decode cX7_isAsTold 37 = .ok (.ireturn, 1) := by decide +kernel
theorem dX7_part_0 : decode cX7_part 0 = .ok (.aload_n 0, 1) := by decide +kernel
theorem dX7_part_1 : decode cX7_part 1 = .ok (.getfield 26, 3) := by decide +kernel
theorem dX7_part_4 : decode cX7_part 4 = .ok (.iload_n 1, 1) := by decide +kernel
theorem dX7_part_5 : decode cX7_part 5 = .ok (.invokevirtual 198, 3) := by decide +kernel
theorem dX7_part_8 : decode cX7_part 8 = .ok (.ifCond .eq 14, 3) := by decide +kernel
theorem dX7_part_11 : decode cX7_part 11 = .ok (.aload_n 0, 1) := by decide +kernel
theorem dX7_part_12 : decode cX7_part 12 = .ok (.getfield 26, 3) := by decide +kernel
theorem dX7_part_15 : decode cX7_part 15 = .ok (.iload_n 2, 1) := by decide +kernel
theorem dX7_part_16 : decode cX7_part 16 = .ok (.invokevirtual 198, 3) := by decide +kernel
theorem dX7_part_19 : decode cX7_part 19 = .ok (.ifCond .ne 10, 3) := by decide +kernel
theorem dX7_part_22 : decode cX7_part 22 = .ok (.aload_n 0, 1) := by decide +kernel
theorem dX7_part_23 : decode cX7_part 23 = .ok (.bipush (-11), 2) := by decide +kernel
theorem dX7_part_25 : decode cX7_part 25 = .ok (.invokevirtual 86, 3) := by decide +kernel
theorem dX7_part_28 : decode cX7_part 28 = .ok (.ireturn, 1) := by decide +kernel
theorem dX7_part_29 : decode cX7_part 29 = .ok (.iload_n 3, 1) := by decide +kernel
theorem dX7_part_30 : decode cX7_part 30 = .ok (.invokestatic 252, 3) := by decide +kernel
theorem dX7_part_33 : decode cX7_part 33 = .ok (.ifCond .ne 10, 3) := by decide +kernel
theorem dX7_part_36 : decode cX7_part 36 = .ok (.aload_n 0, 1) := by decide +kernel
theorem dX7_part_37 : decode cX7_part 37 = .ok (.bipush (-16), 2) := by decide +kernel
theorem dX7_part_39 : decode cX7_part 39 = .ok (.invokevirtual 86, 3) := by decide +kernel
theorem dX7_part_42 : decode cX7_part 42 = .ok (.ireturn, 1) := by decide +kernel
theorem dX7_part_43 : decode cX7_part 43 = .ok (.aload_n 0, 1) := by decide +kernel
theorem dX7_part_44 : decode cX7_part 44 = .ok (.aload_n 0, 1) := by decide +kernel
theorem dX7_part_45 : decode cX7_part 45 = .ok (.getfield 40, 3) := by decide +kernel
theorem dX7_part_48 : decode cX7_part 48 = .ok (.iload_n 1, 1) := by decide +kernel
theorem dX7_part_49 : decode cX7_part 49 = .ok (.iload_n 3, 1) := by decide +kernel
theorem dX7_part_50 : decode cX7_part 50 = .ok (.invokevirtual 255, 3) := by decide +kernel
theorem dX7_part_53 : decode cX7_part 53 = .ok (.aload_n 0, 1) := by decide +kernel
theorem dX7_part_54 : decode cX7_part 54 = .ok (.aload_n 0, 1) := by decide +kernel
theorem dX7_part_55 : decode cX7_part 55 = .ok (.getfield 44, 3) := by decide +kernel
theorem dX7_part_58 : decode cX7_part 58 = .ok (.iload_n 2, 1) := by decide +kernel
theorem dX7_part_59 : decode cX7_part 59 = .ok (.iload_n 3, 1) := by decide +kernel
theorem dX7_part_60 : decode cX7_part 60 = .ok (.invokevirtual 255, 3) := by decide +kernel
theorem dX7_part_63 : decode cX7_part 63 = .ok (.iconst 0, 1) := by decide +kernel
theorem dX7_part_64 : decode cX7_part 64 = .ok (.istore 4, 2) := by decide +kernel
theorem dX7_part_66 : decode cX7_part 66 = .ok (.iload 4, 2) := by decide +kernel
theorem dX7_part_68 : decode cX7_part 68 = .ok (.iload_n 3, 1) := by decide +kernel
theorem dX7_part_69 : decode cX7_part 69 = .ok (.if_icmp .ge 35, 3) := by decide +kernel
theorem dX7_part_72 : decode cX7_part 72 = .ok (.aload_n 0, 1) := by decide +kernel
theorem dX7_part_73 : decode cX7_part 73 = .ok (.getfield 40, 3) := by decide +kernel
theorem dX7_part_76 : decode cX7_part 76 = .ok (.getfield 265, 3) := by decide +kernel
theorem dX7_part_79 : decode cX7_part 79 = .ok (.iload 4, 2) := by decide +kernel
theorem dX7_part_81 : decode cX7_part 81 = .ok (.iaload, 1) := by decide +kernel
theorem dX7_part_82 : decode cX7_part 82 = .ok (.aload_n 0, 1) := by decide +kernel
theorem dX7_part_83 : decode cX7_part 83 = .ok (.getfield 44, 3) := by decide +kernel
theorem dX7_part_86 : decode cX7_part 86 = .ok (.getfield 265, 3) := by decide +kernel
theorem dX7_part_89 : decode cX7_part 89 = .ok (.iload 4, 2) := by decide +kernel
theorem dX7_part_91 : decode cX7_part 91 = .ok (.iaload, 1) := by decide +kernel
theorem dX7_part_92 : decode cX7_part 92 = .ok (.if_icmp .eq 6, 3) := by decide +kernel
theorem dX7_part_95 : decode cX7_part 95 = .ok (.iload 4, 2) := by decide +kernel
theorem dX7_part_97 : decode cX7_part 97 = .ok (.ireturn, 1) := by decide +kernel
theorem dX7_part_98 : decode cX7_part 98 = .ok (.iinc 4 1, 3) := by decide +kernel
theorem dX7_part_101 : decode cX7_part 101 = .ok (.goto (-35), 3) := by decide +kernel
theorem dX7_part_104 : decode cX7_part 104 = .ok (.iconst (-1), 1) := by decide +kernel
theorem dX7_part_105 : decode cX7_part 105 = .ok (.ireturn, 1) := by decide +kernel
theorem dX7_spread_0 : decode cX7_spread 0 = .ok (.iload_n 1, 1) := by decide +kernel
theorem dX7_spread_1 : decode cX7_spread 1 = .ok (.iconst 1, 1) := by decide +kernel
theorem dX7_spread_2 : decode cX7_spread 2 = .ok (.if_icmp .lt 9, 3) := by decide +kernel
theorem dX7_spread_5 : decode cX7_spread 5 = .ok (.iload_n 1, 1) := by decide +kernel
theorem dX7_spread_6 : decode cX7_spread 6 = .ok (.bipush 20, 2) := by decide +kernel
theorem dX7_spread_8 : decode cX7_spread 8 = .ok (.if_icmp .le 10, 3) := by decide +kernel
theorem dX7_spread_11 : decode cX7_spread 11 = .ok (.aload_n 0, 1) := by decide +kernel
theorem dX7_spread_12 : decode cX7_spread 12 = .ok (.bipush (-6), 2) := by decide +kernel
theorem dX7_spread_14 : decode cX7_spread 14 = .ok (.invokevirtual 86, 3) := by decide +kernel
theorem dX7_spread_17 : decode cX7_spread 17 = .ok (.ireturn, 1) := by decide +kernel
theorem dX7_spread_18 : decode cX7_spread 18 = .ok (.bipush 100, 2) := by decide +kernel
theorem dX7_spread_20 : decode cX7_spread 20 = .ok (.istore_n 2, 1) := by decide +kernel
theorem dX7_spread_21 : decode cX7_spread 21 = .ok (.iconst 0, 1) := by decide +kernel
theorem dX7_spread_22 : decode cX7_spread 22 = .ok (.istore_n 3, 1) := by decide +kernel
theorem dX7_spread_23 : decode cX7_spread 23 = .ok (.iconst 0, 1) := by decide +kernel
theorem dX7_spread_24 : decode cX7_spread 24 = .ok (.istore 4, 2) := by decide +kernel
theorem dX7_spread_26 : decode cX7_spread 26 = .ok (.iload 4, 2) := by decide +kernel
theorem dX7_spread_28 : decode cX7_spread 28 = .ok (.iload_n 1, 1) := by decide +kernel
theorem dX7_spread_29 : decode cX7_spread 29 = .ok (.if_icmp .ge 79, 3) := by decide +kernel
theorem dX7_spread_32 : decode cX7_spread 32 = .ok (.aload_n 0, 1) := by decide +kernel
theorem dX7_spread_33 : decode cX7_spread 33 = .ok (.getfield 40, 3) := by decide +kernel
theorem dX7_spread_36 : decode cX7_spread 36 = .ok (.aload_n 0, 1) := by decide +kernel
theorem dX7_spread_37 : decode cX7_spread 37 = .ok (.getfield 19, 3) := by decide +kernel
theorem dX7_spread_40 : decode cX7_spread 40 = .ok (.invokevirtual 268, 3) := by decide +kernel
theorem dX7_spread_43 : decode cX7_spread 43 = .ok (.aload_n 0, 1) := by decide +kernel
theorem dX7_spread_44 : decode cX7_spread 44 = .ok (.getfield 40, 3) := by decide +kernel
theorem dX7_spread_47 : decode cX7_spread 47 = .ok (.getfield 272, 3) := by decide +kernel
theorem dX7_spread_50 : decode cX7_spread 50 = .ok (.aload_n 0, 1) := by decide +kernel
theorem dX7_spread_51 : decode cX7_spread 51 = .ok (.getfield 19, 3) := by decide +kernel
theorem dX7_spread_54 : decode cX7_spread 54 = .ok (.getfield 204, 3) := by decide +kernel
theorem dX7_spread_57 : decode cX7_spread 57 = .ok (.iload 4, 2) := by decide +kernel
theorem dX7_spread_59 : decode cX7_spread 59 = .ok (.iadd, 1) := by decide +kernel
theorem dX7_spread_60 : decode cX7_spread 60 = .ok (.putfield 204, 3) := by decide +kernel
theorem dX7_spread_63 : decode cX7_spread 63 = .ok (.aload_n 0, 1) := by decide +kernel
theorem dX7_spread_64 : decode cX7_spread 64 = .ok (.getfield 40, 3) := by decide +kernel
theorem dX7_spread_67 : decode cX7_spread 67 = .ok (.aload_n 0, 1) := by decide +kernel
theorem dX7_spread_68 : decode cX7_spread 68 = .ok (.getfield 26, 3) := by decide +kernel
theorem dX7_spread_71 : decode cX7_spread 71 = .ok (.invokevirtual 210, 3) := by decide +kernel
theorem dX7_spread_74 : decode cX7_spread 74 = .ok (.bipush 100, 2) := by decide +kernel
theorem dX7_spread_76 : decode cX7_spread 76 = .ok (.invokevirtual 276, 3) := by decide +kernel
theorem dX7_spread_79 : decode cX7_spread 79 = .ok (.aload_n 0, 1) := by decide +kernel
theorem dX7_spread_80 : decode cX7_spread 80 = .ok (.getfield 40, 3) := by decide +kernel
theorem dX7_spread_83 : decode cX7_spread 83 = .ok (.invokevirtual 259, 3) := by decide +kernel
theorem dX7_spread_86 : decode cX7_spread 86 = .ok (.istore 5, 2) := by decide +kernel
theorem dX7_spread_88 : decode cX7_spread 88 = .ok (.iload_n 2, 1) := by decide +kernel
theorem dX7_spread_89 : decode cX7_spread 89 = .ok (.iload 5, 2) := by decide +kernel
theorem dX7_spread_91 : decode cX7_spread 91 = .ok (.invokestatic 290, 3) := by decide +kernel
theorem dX7_spread_94 : decode cX7_spread 94 = .ok (.istore_n 2, 1) := by decide +kernel
theorem dX7_spread_95 : decode cX7_spread 95 = .ok (.iload_n 3, 1) := by decide +kernel
theorem dX7_spread_96 : decode cX7_spread 96 = .ok (.iload 5, 2) := by decide +kernel
theorem dX7_spread_98 : decode cX7_spread 98 = .ok (.invokestatic 295, 3) := by decide +kernel
theorem dX7_spread_101 : decode cX7_spread 101 = .ok (.istore_n 3, 1) := by decide +kernel
theorem dX7_spread_102 : decode cX7_spread 102 = .ok (.iinc 4 1, 3) := by decide +kernel
theorem dX7_spread_105 : decode cX7_spread 105 = .ok (.goto (-79), 3) := by decide +kernel
theorem dX7_spread_108 : decode cX7_spread 108 = .ok (.iload_n 3, 1) := by decide +kernel
theorem dX7_spread_109 : decode cX7_spread 109 = .ok (.iload_n 2, 1) := by decide +kernel
theorem dX7_spread_110 : decode cX7_spread 110 = .ok (.isub, 1) := by decide +kernel
theorem dX7_spread_111 : decode cX7_spread 111 = .ok (.ireturn, 1) := by decide +kernel
theorem dX7_goThrough_0 : decode cX7_goThrough 0 = .ok (.aload_n 1, 1) := by decide +kernel
theorem dX7_goThrough_1 : decode cX7_goThrough 1 = .ok (.aload_n 0, 1) := by decide +kernel
theorem dX7_goThrough_2 : decode cX7_goThrough 2 = .ok (.getfield 19, 3) := by decide +kernel
theorem dX7_goThrough_5 : decode cX7_goThrough 5 = .ok (.invokevirtual 268, 3) := by decide +kernel
theorem dX7_goThrough_8 : decode cX7_goThrough 8 = .ok (.aload_n 1, 1) := by decide +kernel
theorem dX7_goThrough_9 : decode cX7_goThrough 9 = .ok (.aload_n 0, 1) := by decide +kernel
theorem dX7_goThrough_10 : decode cX7_goThrough 10 = .ok (.getfield 26, 3) := by decide +kernel
theorem dX7_goThrough_13 : decode cX7_goThrough 13 = .ok (.iload_n 2, 1) := by decide +kernel
theorem dX7_goThrough_14 : decode cX7_goThrough 14 = .ok (.invokevirtual 194, 3) := by decide +kernel
theorem dX7_goThrough_17 : decode cX7_goThrough 17 = .ok (.iload_n 3, 1) := by decide +kernel
theorem dX7_goThrough_18 : decode cX7_goThrough 18 = .ok (.invokevirtual 276, 3) := by decide +kernel
theorem dX7_goThrough_21 : decode cX7_goThrough 21 = .ok (.return_, 1) := by decide +kernel
theorem dX7_micro_0 : decode cX7_micro 0 = .ok (.iload_n 1, 1) := by decide +kernel
theorem dX7_micro_1 : decode cX7_micro 1 = .ok (.invokestatic 139, 3) := by decide +kernel
theorem dX7_micro_4 : decode cX7_micro 4 = .ok (.ifCond .ne 9, 3) := by decide +kernel
theorem dX7_micro_7 : decode cX7_micro 7 = .ok (.aload_n 0, 1) := by decide +kernel
theorem dX7_micro_8 : decode cX7_micro 8 = .ok (.iconst (-1), 1) := by decide +kernel
theorem dX7_micro_9 : decode cX7_micro 9 = .ok (.invokevirtual 86, 3) := by decide +kernel
theorem dX7_micro_12 : decode cX7_micro 12 = .ok (.ireturn, 1) := by decide +kernel
theorem dX7_micro_13 : decode cX7_micro 13 = .ok (.aload_n 0, 1) := by decide +kernel
theorem dX7_micro_14 : decode cX7_micro 14 = .ok (.getfield 33, 3) := by decide +kernel
theorem dX7_micro_17 : decode cX7_micro 17 = .ok (.getfield 298, 3) := by decide +kernel
theorem dX7_micro_20 : decode cX7_micro 20 = .ok (.bipush 8, 2) := by decide +kernel
theorem dX7_micro_22 : decode cX7_micro 22 = .ok (.if_icmp .lt 10, 3) := by decide +kernel
theorem dX7_micro_25 : decode cX7_micro 25 = .ok (.aload_n 0, 1) := by decide +kernel
theorem dX7_micro_26 : decode cX7_micro 26 = .ok (.bipush (-7), 2) := by decide +kernel
theorem dX7_micro_28 : decode cX7_micro 28 = .ok (.invokevirtual 86, 3) := by decide +kernel
theorem dX7_micro_31 : decode cX7_micro 31 = .ok (.ireturn, 1) := by decide +kernel
theorem dX7_micro_32 : decode cX7_micro 32 = .ok (.aload_n 0, 1) := by decide +kernel
theorem dX7_micro_33 : decode cX7_micro 33 = .ok (.getfield 33, 3) := by decide +kernel
theorem dX7_micro_36 : decode cX7_micro 36 = .ok (.iload_n 1, 1) := by decide +kernel
theorem dX7_micro_37 : decode cX7_micro 37 = .ok (.invokevirtual 299, 3) := by decide +kernel
theorem dX7_micro_40 : decode cX7_micro 40 = .ok (.ireturn, 1) := by decide +kernel
theorem dX7_sum_0 : decode cX7_sum 0 = .ok (.aload_n 0, 1) := by decide +kernel
theorem dX7_sum_1 : decode cX7_sum 1 = .ok (.getfield 33, 3) := by decide +kernel
theorem dX7_sum_4 : decode cX7_sum 4 = .ok (.iload_n 1, 1) := by decide +kernel
theorem dX7_sum_5 : decode cX7_sum 5 = .ok (.invokevirtual 301, 3) := by decide +kernel
theorem dX7_sum_8 : decode cX7_sum 8 = .ok (.ifCond .ne 9, 3) := by decide +kernel
theorem dX7_sum_11 : decode cX7_sum 11 = .ok (.aload_n 0, 1) := by decide +kernel
theorem dX7_sum_12 : decode cX7_sum 12 = .ok (.iconst (-1), 1) := by decide +kernel
theorem dX7_sum_13 : decode cX7_sum 13 = .ok (.invokevirtual 86, 3) := by decide +kernel
theorem dX7_sum_16 : decode cX7_sum 16 = .ok (.ireturn, 1) := by decide +kernel
theorem dX7_sum_17 : decode cX7_sum 17 = .ok (.aload_n 0, 1) := by decide +kernel
theorem dX7_sum_18 : decode cX7_sum 18 = .ok (.getfield 19, 3) := by decide +kernel
theorem dX7_sum_21 : decode cX7_sum 21 = .ok (.aload_n 0, 1) := by decide +kernel
theorem dX7_sum_22 : decode cX7_sum 22 = .ok (.getfield 33, 3) := by decide +kernel
theorem dX7_sum_25 : decode cX7_sum 25 = .ok (.getfield 302, 3) := by decide +kernel
theorem dX7_sum_28 : decode cX7_sum 28 = .ok (.iload_n 1, 1) := by decide +kernel
theorem dX7_sum_29 : decode cX7_sum 29 = .ok (.iaload, 1) := by decide +kernel
theorem dX7_sum_30 : decode cX7_sum 30 = .ok (.iconst 0, 1) := by decide +kernel
theorem dX7_sum_31 : decode cX7_sum 31 = .ok (.invokevirtual 305, 3) := by decide +kernel
theorem dX7_sum_34 : decode cX7_sum 34 = .ok (.ireturn, 1) := by decide +kernel
theorem dX7_gloved_0 : decode cX7_gloved 0 = .ok (.aload_n 0, 1) := by decide +kernel
theorem dX7_gloved_1 : decode cX7_gloved 1 = .ok (.getfield 33, 3) := by decide +kernel
theorem dX7_gloved_4 : decode cX7_gloved 4 = .ok (.iload_n 1, 1) := by decide +kernel
theorem dX7_gloved_5 : decode cX7_gloved 5 = .ok (.invokevirtual 301, 3) := by decide +kernel
theorem dX7_gloved_8 : decode cX7_gloved 8 = .ok (.ifCond .ne 9, 3) := by decide +kernel
theorem dX7_gloved_11 : decode cX7_gloved 11 = .ok (.aload_n 0, 1) := by decide +kernel
theorem dX7_gloved_12 : decode cX7_gloved 12 = .ok (.iconst (-1), 1) := by decide +kernel
theorem dX7_gloved_13 : decode cX7_gloved 13 = .ok (.invokevirtual 86, 3) := by decide +kernel
theorem dX7_gloved_16 : decode cX7_gloved 16 = .ok (.ireturn, 1) := by decide +kernel
theorem dX7_gloved_17 : decode cX7_gloved 17 = .ok (.aload_n 0, 1) := by decide +kernel
theorem dX7_gloved_18 : decode cX7_gloved 18 = .ok (.getfield 19, 3) := by decide +kernel
theorem dX7_gloved_21 : decode cX7_gloved 21 = .ok (.aload_n 0, 1) := by decide +kernel
theorem dX7_gloved_22 : decode cX7_gloved 22 = .ok (.getfield 33, 3) := by decide +kernel
theorem dX7_gloved_25 : decode cX7_gloved 25 = .ok (.getfield 302, 3) := by decide +kernel
theorem dX7_gloved_28 : decode cX7_gloved 28 = .ok (.iload_n 1, 1) := by decide +kernel
theorem dX7_gloved_29 : decode cX7_gloved 29 = .ok (.iaload, 1) := by decide +kernel
theorem dX7_gloved_30 : decode cX7_gloved 30 = .ok (.iconst 1, 1) := by decide +kernel
theorem dX7_gloved_31 : decode cX7_gloved 31 = .ok (.invokevirtual 305, 3) := by decide +kernel
theorem dX7_gloved_34 : decode cX7_gloved 34 = .ok (.ireturn, 1) := by decide +kernel
theorem dX7_judge_0 : decode cX7_judge 0 = .ok (.aload_n 0, 1) := by decide +kernel
theorem dX7_judge_1 : decode cX7_judge 1 = .ok (.iload_n 1, 1) := by decide +kernel
theorem dX7_judge_2 : decode cX7_judge 2 = .ok (.invokevirtual 94, 3) := by decide +kernel
theorem dX7_judge_5 : decode cX7_judge 5 = .ok (.istore_n 2, 1) := by decide +kernel
theorem dX7_judge_6 : decode cX7_judge 6 = .ok (.iload_n 2, 1) := by decide +kernel
theorem dX7_judge_7 : decode cX7_judge 7 = .ok (.ifCond .eq 12, 3) := by decide +kernel
theorem dX7_judge_10 : decode cX7_judge 10 = .ok (.aload_n 0, 1) := by decide +kernel
theorem dX7_judge_11 : decode cX7_judge 11 = .ok (.iload_n 2, 1) := by decide +kernel
theorem dX7_judge_12 : decode cX7_judge 12 = .ok (.bipush 10, 2) := by decide +kernel
theorem dX7_judge_14 : decode cX7_judge 14 = .ok (.isub, 1) := by decide +kernel
theorem dX7_judge_15 : decode cX7_judge 15 = .ok (.invokevirtual 86, 3) := by decide +kernel
theorem dX7_judge_18 : decode cX7_judge 18 = .ok (.ireturn, 1) := by decide +kernel
theorem dX7_judge_19 : decode cX7_judge 19 = .ok (.iconst 0, 1) := by decide +kernel
theorem dX7_judge_20 : decode cX7_judge 20 = .ok (.istore_n 3, 1) := by decide +kernel
theorem dX7_judge_21 : decode cX7_judge 21 = .ok (.iload_n 3, 1) := by decide +kernel
theorem dX7_judge_22 : decode cX7_judge 22 = .ok (.aload_n 0, 1) := by decide +kernel
theorem dX7_judge_23 : decode cX7_judge 23 = .ok (.getfield 33, 3) := by decide +kernel
theorem dX7_judge_26 : decode cX7_judge 26 = .ok (.getfield 298, 3) := by decide +kernel
theorem dX7_judge_29 : decode cX7_judge 29 = .ok (.if_icmp .ge 40, 3) := by decide +kernel
theorem dX7_judge_32 : decode cX7_judge 32 = .ok (.aload_n 0, 1) := by decide +kernel
theorem dX7_judge_33 : decode cX7_judge 33 = .ok (.getfield 19, 3) := by decide +kernel
theorem dX7_judge_36 : decode cX7_judge 36 = .ok (.aload_n 0, 1) := by decide +kernel
theorem dX7_judge_37 : decode cX7_judge 37 = .ok (.getfield 33, 3) := by decide +kernel
theorem dX7_judge_40 : decode cX7_judge 40 = .ok (.getfield 302, 3) := by decide +kernel
theorem dX7_judge_43 : decode cX7_judge 43 = .ok (.iload_n 3, 1) := by decide +kernel
theorem dX7_judge_44 : decode cX7_judge 44 = .ok (.iaload, 1) := by decide +kernel
theorem dX7_judge_45 : decode cX7_judge 45 = .ok (.iconst 0, 1) := by decide +kernel
theorem dX7_judge_46 : decode cX7_judge 46 = .ok (.invokevirtual 305, 3) := by decide +kernel
theorem dX7_judge_49 : decode cX7_judge 49 = .ok (.aload_n 0, 1) := by decide +kernel
theorem dX7_judge_50 : decode cX7_judge 50 = .ok (.getfield 12, 3) := by decide +kernel
theorem dX7_judge_53 : decode cX7_judge 53 = .ok (.iload_n 1, 1) := by decide +kernel
theorem dX7_judge_54 : decode cX7_judge 54 = .ok (.iload_n 3, 1) := by decide +kernel
theorem dX7_judge_55 : decode cX7_judge 55 = .ok (.invokevirtual 156, 3) := by decide +kernel
theorem dX7_judge_58 : decode cX7_judge 58 = .ok (.if_icmp .eq 5, 3) := by decide +kernel
theorem dX7_judge_61 : decode cX7_judge 61 = .ok (.iload_n 3, 1) := by decide +kernel
theorem dX7_judge_62 : decode cX7_judge 62 = .ok (.ireturn, 1) := by decide +kernel
theorem dX7_judge_63 : decode cX7_judge 63 = .ok (.iinc 3 1, 3) := by decide +kernel
theorem dX7_judge_66 : decode cX7_judge 66 = .ok (.goto (-45), 3) := by decide +kernel
theorem dX7_judge_69 : decode cX7_judge 69 = .ok (.iconst (-1), 1) := by decide +kernel
theorem dX7_judge_70 : decode cX7_judge 70 = .ok (.ireturn, 1) := by decide +kernel
theorem dX7_act_0 : decode cX7_act 0 = .ok (.aload_n 0, 1) := by decide +kernel
theorem dX7_act_1 : decode cX7_act 1 = .ok (.getfield 57, 3) := by decide +kernel
theorem dX7_act_4 : decode cX7_act 4 = .ok (.invokevirtual 309, 3) := by decide +kernel
theorem dX7_act_7 : decode cX7_act 7 = .ok (.aload_n 0, 1) := by decide +kernel
theorem dX7_act_8 : decode cX7_act 8 = .ok (.getfield 19, 3) := by decide +kernel
theorem dX7_act_11 : decode cX7_act 11 = .ok (.iload_n 1, 1) := by decide +kernel
theorem dX7_act_12 : decode cX7_act 12 = .ok (.invokevirtual 121, 3) := by decide +kernel
theorem dX7_act_15 : decode cX7_act 15 = .ok (.ifCond .eq 12, 3) := by decide +kernel
theorem dX7_act_18 : decode cX7_act 18 = .ok (.iload_n 2, 1) := by decide +kernel
theorem dX7_act_19 : decode cX7_act 19 = .ok (.ifCond .lt 8, 3) := by decide +kernel
theorem dX7_act_22 : decode cX7_act 22 = .ok (.iload_n 2, 1) := by decide +kernel
theorem dX7_act_23 : decode cX7_act 23 = .ok (.iconst 3, 1) := by decide +kernel
theorem dX7_act_24 : decode cX7_act 24 = .ok (.if_icmp .lt 5, 3) := by decide +kernel
theorem dX7_act_27 : decode cX7_act 27 = .ok (.iconst 0, 1) := by decide +kernel
theorem dX7_act_28 : decode cX7_act 28 = .ok (.ireturn, 1) := by decide +kernel
theorem dX7_act_29 : decode cX7_act 29 = .ok (.aload_n 0, 1) := by decide +kernel
theorem dX7_act_30 : decode cX7_act 30 = .ok (.getfield 57, 3) := by decide +kernel
theorem dX7_act_33 : decode cX7_act 33 = .ok (.aload_n 0, 1) := by decide +kernel
theorem dX7_act_34 : decode cX7_act 34 = .ok (.getfield 19, 3) := by decide +kernel
theorem dX7_act_37 : decode cX7_act 37 = .ok (.iload_n 1, 1) := by decide +kernel
theorem dX7_act_38 : decode cX7_act 38 = .ok (.iload_n 2, 1) := by decide +kernel
theorem dX7_act_39 : decode cX7_act 39 = .ok (.iload_n 3, 1) := by decide +kernel
theorem dX7_act_40 : decode cX7_act 40 = .ok (.invokevirtual 312, 3) := by decide +kernel
theorem dX7_act_43 : decode cX7_act 43 = .ok (.ireturn, 1) := by decide +kernel
theorem dX7_trace_0 : decode cX7_trace 0 = .ok (.iload_n 1, 1) := by decide +kernel
theorem dX7_trace_1 : decode cX7_trace 1 = .ok (.ifCond .lt 32, 3) := by decide +kernel
theorem dX7_trace_4 : decode cX7_trace 4 = .ok (.iload_n 1, 1) := by decide +kernel
theorem dX7_trace_5 : decode cX7_trace 5 = .ok (.bipush 20, 2) := by decide +kernel
theorem dX7_trace_7 : decode cX7_trace 7 = .ok (.if_icmp .ge 26, 3) := by decide +kernel
theorem dX7_trace_10 : decode cX7_trace 10 = .ok (.iload_n 1, 1) := by decide +kernel
theorem dX7_trace_11 : decode cX7_trace 11 = .ok (.aload_n 0, 1) := by decide +kernel
theorem dX7_trace_12 : decode cX7_trace 12 = .ok (.getfield 57, 3) := by decide +kernel
theorem dX7_trace_15 : decode cX7_trace 15 = .ok (.getfield 316, 3) := by decide +kernel
theorem dX7_trace_18 : decode cX7_trace 18 = .ok (.if_icmp .ge 15, 3) := by decide +kernel
theorem dX7_trace_21 : decode cX7_trace 21 = .ok (.aload_n 0, 1) := by decide +kernel
theorem dX7_trace_22 : decode cX7_trace 22 = .ok (.getfield 57, 3) := by decide +kernel
theorem dX7_trace_25 : decode cX7_trace 25 = .ok (.getfield 319, 3) := by decide +kernel
theorem dX7_trace_28 : decode cX7_trace 28 = .ok (.iload_n 1, 1) := by decide +kernel
theorem dX7_trace_29 : decode cX7_trace 29 = .ok (.iaload, 1) := by decide +kernel
theorem dX7_trace_30 : decode cX7_trace 30 = .ok (.goto 4, 3) := by decide +kernel
theorem dX7_trace_33 : decode cX7_trace 33 = .ok (.iconst (-1), 1) := by decide +kernel
theorem dX7_trace_34 : decode cX7_trace 34 = .ok (.ireturn, 1) := by decide +kernel
theorem dX7_image_0 : decode cX7_image 0 = .ok (.aload_n 0, 1) := by decide +kernel
theorem dX7_image_1 : decode cX7_image 1 = .ok (.getfield 69, 3) := by decide +kernel
theorem dX7_image_4 : decode cX7_image 4 = .ok (.aload_n 0, 1) := by decide +kernel
theorem dX7_image_5 : decode cX7_image 5 = .ok (.getfield 19, 3) := by decide +kernel
theorem dX7_image_8 : decode cX7_image 8 = .ok (.invokevirtual 322, 3) := by decide +kernel
theorem dX7_image_11 : decode cX7_image 11 = .ok (.aload_n 0, 1) := by decide +kernel
theorem dX7_image_12 : decode cX7_image 12 = .ok (.getfield 72, 3) := by decide +kernel
theorem dX7_image_15 : decode cX7_image 15 = .ok (.aload_n 0, 1) := by decide +kernel
theorem dX7_image_16 : decode cX7_image 16 = .ok (.getfield 26, 3) := by decide +kernel
theorem dX7_image_19 : decode cX7_image 19 = .ok (.invokevirtual 325, 3) := by decide +kernel
theorem dX7_image_22 : decode cX7_image 22 = .ok (.aload_n 0, 1) := by decide +kernel
theorem dX7_image_23 : decode cX7_image 23 = .ok (.getfield 75, 3) := by decide +kernel
theorem dX7_image_26 : decode cX7_image 26 = .ok (.aload_n 0, 1) := by decide +kernel
theorem dX7_image_27 : decode cX7_image 27 = .ok (.getfield 33, 3) := by decide +kernel
theorem dX7_image_30 : decode cX7_image 30 = .ok (.invokevirtual 328, 3) := by decide +kernel
theorem dX7_image_33 : decode cX7_image 33 = .ok (.aload_n 0, 1) := by decide +kernel
theorem dX7_image_34 : decode cX7_image 34 = .ok (.iconst 1, 1) := by decide +kernel
theorem dX7_image_35 : decode cX7_image 35 = .ok (.putfield 78, 3) := by decide +kernel
theorem dX7_image_38 : decode cX7_image 38 = .ok (.aload_n 0, 1) := by decide +kernel
theorem dX7_image_39 : decode cX7_image 39 = .ok (.getfield 19, 3) := by decide +kernel
theorem dX7_image_42 : decode cX7_image 42 = .ok (.getfield 207, 3) := by decide +kernel
theorem dX7_image_45 : decode cX7_image 45 = .ok (.ireturn, 1) := by decide +kernel
theorem dX7_restore_0 : decode cX7_restore 0 = .ok (.aload_n 0, 1) := by decide +kernel
theorem dX7_restore_1 : decode cX7_restore 1 = .ok (.getfield 78, 3) := by decide +kernel
theorem dX7_restore_4 : decode cX7_restore 4 = .ok (.ifCond .ne 10, 3) := by decide +kernel
theorem dX7_restore_7 : decode cX7_restore 7 = .ok (.aload_n 0, 1) := by decide +kernel
theorem dX7_restore_8 : decode cX7_restore 8 = .ok (.bipush (-6), 2) := by decide +kernel
theorem dX7_restore_10 : decode cX7_restore 10 = .ok (.invokevirtual 86, 3) := by decide +kernel
theorem dX7_restore_13 : decode cX7_restore 13 = .ok (.ireturn, 1) := by decide +kernel
theorem dX7_restore_14 : decode cX7_restore 14 = .ok (.aload_n 0, 1) := by decide +kernel
theorem dX7_restore_15 : decode cX7_restore 15 = .ok (.getfield 19, 3) := by decide +kernel
theorem dX7_restore_18 : decode cX7_restore 18 = .ok (.aload_n 0, 1) := by decide +kernel
theorem dX7_restore_19 : decode cX7_restore 19 = .ok (.getfield 69, 3) := by decide +kernel
theorem dX7_restore_22 : decode cX7_restore 22 = .ok (.invokevirtual 322, 3) := by decide +kernel
theorem dX7_restore_25 : decode cX7_restore 25 = .ok (.aload_n 0, 1) := by decide +kernel
theorem dX7_restore_26 : decode cX7_restore 26 = .ok (.getfield 26, 3) := by decide +kernel
theorem dX7_restore_29 : decode cX7_restore 29 = .ok (.aload_n 0, 1) := by decide +kernel
theorem dX7_restore_30 : decode cX7_restore 30 = .ok (.getfield 72, 3) := by decide +kernel
theorem dX7_restore_33 : decode cX7_restore 33 = .ok (.invokevirtual 325, 3) := by decide +kernel
theorem dX7_restore_36 : decode cX7_restore 36 = .ok (.aload_n 0, 1) := by decide +kernel
theorem dX7_restore_37 : decode cX7_restore 37 = .ok (.getfield 33, 3) := by decide +kernel
theorem dX7_restore_40 : decode cX7_restore 40 = .ok (.aload_n 0, 1) := by decide +kernel
theorem dX7_restore_41 : decode cX7_restore 41 = .ok (.getfield 75, 3) := by decide +kernel
theorem dX7_restore_44 : decode cX7_restore 44 = .ok (.invokevirtual 328, 3) := by decide +kernel
theorem dX7_restore_47 : decode cX7_restore 47 = .ok (.aload_n 0, 1) := by decide +kernel
theorem dX7_restore_48 : decode cX7_restore 48 = .ok (.getfield 12, 3) := by decide +kernel
theorem dX7_restore_51 : decode cX7_restore 51 = .ok (.aload_n 0, 1) := by decide +kernel
theorem dX7_restore_52 : decode cX7_restore 52 = .ok (.getfield 19, 3) := by decide +kernel
theorem dX7_restore_55 : decode cX7_restore 55 = .ok (.getfield 146, 3) := by decide +kernel
theorem dX7_restore_58 : decode cX7_restore 58 = .ok (.invokevirtual 331, 3) := by decide +kernel
theorem dX7_restore_61 : decode cX7_restore 61 = .ok (.aload_n 0, 1) := by decide +kernel
theorem dX7_restore_62 : decode cX7_restore 62 = .ok (.getfield 19, 3) := by decide +kernel
theorem dX7_restore_65 : decode cX7_restore 65 = .ok (.getfield 207, 3) := by decide +kernel
theorem dX7_restore_68 : decode cX7_restore 68 = .ok (.ireturn, 1) := by decide +kernel
theorem dX7_status_0 : decode cX7_status 0 = .ok (.iload_n 1, 1) := by decide +kernel
theorem dX7_status_1 : decode cX7_status 1 = .ok (.bipush 10, 2) := by decide +kernel
theorem dX7_status_3 : decode cX7_status 3 = .ok (.if_icmp .le 21, 3) := by decide +kernel
theorem dX7_status_6 : decode cX7_status 6 = .ok (.iload_n 1, 1) := by decide +kernel
theorem dX7_status_7 : decode cX7_status 7 = .ok (.bipush 17, 2) := by decide +kernel
theorem dX7_status_9 : decode cX7_status 9 = .ok (.if_icmp .gt 15, 3) := by decide +kernel
theorem dX7_status_12 : decode cX7_status 12 = .ok (.aload_n 0, 1) := by decide +kernel
theorem dX7_status_13 : decode cX7_status 13 = .ok (.getfield 61, 3) := by decide +kernel
theorem dX7_status_16 : decode cX7_status 16 = .ok (.iload_n 1, 1) := by decide +kernel
theorem dX7_status_17 : decode cX7_status 17 = .ok (.bipush 10, 2) := by decide +kernel
theorem dX7_status_19 : decode cX7_status 19 = .ok (.isub, 1) := by decide +kernel
theorem dX7_status_20 : decode cX7_status 20 = .ok (.iconst 1, 1) := by decide +kernel
theorem dX7_status_21 : decode cX7_status 21 = .ok (.isub, 1) := by decide +kernel
theorem dX7_status_22 : decode cX7_status 22 = .ok (.iaload, 1) := by decide +kernel
theorem dX7_status_23 : decode cX7_status 23 = .ok (.ireturn, 1) := by decide +kernel
theorem dX7_status_24 : decode cX7_status 24 = .ok (.iload_n 1, 1) := by decide +kernel
theorem dX7_status_25 : decode cX7_status 25 = .ok (.tableswitch 87 0 5 #[39, 47, 55, 63, 71, 79], 39) := by decide +kernel
theorem dX7_status_64 : decode cX7_status 64 = .ok (.aload_n 0, 1) := by decide +kernel
theorem dX7_status_65 : decode cX7_status 65 = .ok (.getfield 19, 3) := by decide +kernel
theorem dX7_status_68 : decode cX7_status 68 = .ok (.getfield 146, 3) := by decide +kernel
theorem dX7_status_71 : decode cX7_status 71 = .ok (.ireturn, 1) := by decide +kernel
theorem dX7_status_72 : decode cX7_status 72 = .ok (.aload_n 0, 1) := by decide +kernel
theorem dX7_status_73 : decode cX7_status 73 = .ok (.getfield 26, 3) := by decide +kernel
theorem dX7_status_76 : decode cX7_status 76 = .ok (.getfield 185, 3) := by decide +kernel
theorem dX7_status_79 : decode cX7_status 79 = .ok (.ireturn, 1) := by decide +kernel
theorem dX7_status_80 : decode cX7_status 80 = .ok (.aload_n 0, 1) := by decide +kernel
theorem dX7_status_81 : decode cX7_status 81 = .ok (.getfield 33, 3) := by decide +kernel
theorem dX7_status_84 : decode cX7_status 84 = .ok (.getfield 298, 3) := by decide +kernel
theorem dX7_status_87 : decode cX7_status 87 = .ok (.ireturn, 1) := by decide +kernel
theorem dX7_status_88 : decode cX7_status 88 = .ok (.aload_n 0, 1) := by decide +kernel
theorem dX7_status_89 : decode cX7_status 89 = .ok (.getfield 19, 3) := by decide +kernel
theorem dX7_status_92 : decode cX7_status 92 = .ok (.getfield 207, 3) := by decide +kernel
theorem dX7_status_95 : decode cX7_status 95 = .ok (.ireturn, 1) := by decide +kernel
theorem dX7_status_96 : decode cX7_status 96 = .ok (.aload_n 0, 1) := by decide +kernel
theorem dX7_status_97 : decode cX7_status 97 = .ok (.getfield 19, 3) := by decide +kernel
theorem dX7_status_100 : decode cX7_status 100 = .ok (.getfield 204, 3) := by decide +kernel
theorem dX7_status_103 : decode cX7_status 103 = .ok (.ireturn, 1) := by decide +kernel
theorem dX7_status_104 : decode cX7_status 104 = .ok (.aload_n 0, 1) := by decide +kernel
theorem dX7_status_105 : decode cX7_status 105 = .ok (.getfield 57, 3) := by decide +kernel
theorem dX7_status_108 : decode cX7_status 108 = .ok (.getfield 316, 3) := by decide +kernel
theorem dX7_status_111 : decode cX7_status 111 = .ok (.ireturn, 1) := by decide +kernel
theorem dX7_status_112 : decode cX7_status 112 = .ok (.iconst (-1), 1) := by decide +kernel
theorem dX7_status_113 : decode cX7_status 113 = .ok (.ireturn, 1) := by decide +kernel
theorem dX7_refuse_0 : decode cX7_refuse 0 = .ok (.iload_n 1, 1) := by decide +kernel
theorem dX7_refuse_1 : decode cX7_refuse 1 = .ok (.ineg, 1) := by decide +kernel
theorem dX7_refuse_2 : decode cX7_refuse 2 = .ok (.bipush 10, 2) := by decide +kernel
theorem dX7_refuse_4 : decode cX7_refuse 4 = .ok (.irem, 1) := by decide +kernel
theorem dX7_refuse_5 : decode cX7_refuse 5 = .ok (.istore_n 2, 1) := by decide +kernel
theorem dX7_refuse_6 : decode cX7_refuse 6 = .ok (.iload_n 2, 1) := by decide +kernel
theorem dX7_refuse_7 : decode cX7_refuse 7 = .ok (.iconst 1, 1) := by decide +kernel
theorem dX7_refuse_8 : decode cX7_refuse 8 = .ok (.if_icmp .lt 21, 3) := by decide +kernel
theorem dX7_refuse_11 : decode cX7_refuse 11 = .ok (.iload_n 2, 1) := by decide +kernel
theorem dX7_refuse_12 : decode cX7_refuse 12 = .ok (.bipush 7, 2) := by decide +kernel
theorem dX7_refuse_14 : decode cX7_refuse 14 = .ok (.if_icmp .gt 15, 3) := by decide +kernel
theorem dX7_refuse_17 : decode cX7_refuse 17 = .ok (.aload_n 0, 1) := by decide +kernel
theorem dX7_refuse_18 : decode cX7_refuse 18 = .ok (.getfield 61, 3) := by decide +kernel
theorem dX7_refuse_21 : decode cX7_refuse 21 = .ok (.iload_n 2, 1) := by decide +kernel
theorem dX7_refuse_22 : decode cX7_refuse 22 = .ok (.iconst 1, 1) := by decide +kernel
theorem dX7_refuse_23 : decode cX7_refuse 23 = .ok (.isub, 1) := by decide +kernel
theorem dX7_refuse_24 : decode cX7_refuse 24 = .ok (.dup2, 1) := by decide +kernel
theorem dX7_refuse_25 : decode cX7_refuse 25 = .ok (.iaload, 1) := by decide +kernel
theorem dX7_refuse_26 : decode cX7_refuse 26 = .ok (.iconst 1, 1) := by decide +kernel
theorem dX7_refuse_27 : decode cX7_refuse 27 = .ok (.iadd, 1) := by decide +kernel
theorem dX7_refuse_28 : decode cX7_refuse 28 = .ok (.iastore, 1) := by decide +kernel
theorem dX7_refuse_29 : decode cX7_refuse 29 = .ok (.iload_n 1, 1) := by decide +kernel
theorem dX7_refuse_30 : decode cX7_refuse 30 = .ok (.ireturn, 1) := by decide +kernel
theorem dX7_refusalOfRow_0 : decode cX7_refusalOfRow 0 = .ok (.iload_n 1, 1) := by decide +kernel
theorem dX7_refusalOfRow_1 : decode cX7_refusalOfRow 1 = .ok (.invokestatic 82, 3) := by decide +kernel
theorem dX7_refusalOfRow_4 : decode cX7_refusalOfRow 4 = .ok (.ifCond .ne 5, 3) := by decide +kernel
theorem dX7_refusalOfRow_7 : decode cX7_refusalOfRow 7 = .ok (.iconst (-1), 1) := by decide +kernel
theorem dX7_refusalOfRow_8 : decode cX7_refusalOfRow 8 = .ok (.ireturn, 1) := by decide +kernel
theorem dX7_refusalOfRow_9 : decode cX7_refusalOfRow 9 = .ok (.aload_n 0, 1) := by decide +kernel
theorem dX7_refusalOfRow_10 : decode cX7_refusalOfRow 10 = .ok (.getfield 12, 3) := by decide +kernel
theorem dX7_refusalOfRow_13 : decode cX7_refusalOfRow 13 = .ok (.iload_n 1, 1) := by decide +kernel
theorem dX7_refusalOfRow_14 : decode cX7_refusalOfRow 14 = .ok (.invokevirtual 334, 3) := by decide +kernel
theorem dX7_refusalOfRow_17 : decode cX7_refusalOfRow 17 = .ok (.ifCond .eq 6, 3) := by decide +kernel
theorem dX7_refusalOfRow_20 : decode cX7_refusalOfRow 20 = .ok (.bipush (-2), 2) := by decide +kernel
theorem dX7_refusalOfRow_22 : decode cX7_refusalOfRow 22 = .ok (.ireturn, 1) := by decide +kernel
theorem dX7_refusalOfRow_23 : decode cX7_refusalOfRow 23 = .ok (.aload_n 0, 1) := by decide +kernel
theorem dX7_refusalOfRow_24 : decode cX7_refusalOfRow 24 = .ok (.getfield 12, 3) := by decide +kernel
theorem dX7_refusalOfRow_27 : decode cX7_refusalOfRow 27 = .ok (.iload_n 1, 1) := by decide +kernel
theorem dX7_refusalOfRow_28 : decode cX7_refusalOfRow 28 = .ok (.invokevirtual 337, 3) := by decide +kernel
theorem dX7_refusalOfRow_31 : decode cX7_refusalOfRow 31 = .ok (.ifCond .eq 7, 3) := by decide +kernel
theorem dX7_refusalOfRow_34 : decode cX7_refusalOfRow 34 = .ok (.iconst 0, 1) := by decide +kernel
theorem dX7_refusalOfRow_35 : decode cX7_refusalOfRow 35 = .ok (.goto 5, 3) := by decide +kernel
theorem dX7_refusalOfRow_38 : decode cX7_refusalOfRow 38 = .ok (.bipush (-3), 2) := by decide +kernel
theorem dX7_refusalOfRow_40 : decode cX7_refusalOfRow 40 = .ok (.ireturn, 1) := by decide +kernel
theorem dX7_refusalOfTwoRows_0 : decode cX7_refusalOfTwoRows 0 = .ok (.iload_n 1, 1) := by decide +kernel
theorem dX7_refusalOfTwoRows_1 : decode cX7_refusalOfTwoRows 1 = .ok (.invokestatic 82, 3) := by decide +kernel
theorem dX7_refusalOfTwoRows_4 : decode cX7_refusalOfTwoRows 4 = .ok (.ifCond .eq 10, 3) := by decide +kernel
theorem dX7_refusalOfTwoRows_7 : decode cX7_refusalOfTwoRows 7 = .ok (.iload_n 2, 1) := by decide +kernel
theorem dX7_refusalOfTwoRows_8 : decode cX7_refusalOfTwoRows 8 = .ok (.invokestatic 82, 3) := by decide +kernel
theorem dX7_refusalOfTwoRows_11 : decode cX7_refusalOfTwoRows 11 = .ok (.ifCond .ne 5, 3) := by decide +kernel
theorem dX7_refusalOfTwoRows_14 : decode cX7_refusalOfTwoRows 14 = .ok (.iconst (-1), 1) := by decide +kernel
theorem dX7_refusalOfTwoRows_15 : decode cX7_refusalOfTwoRows 15 = .ok (.ireturn, 1) := by decide +kernel
theorem dX7_refusalOfTwoRows_16 : decode cX7_refusalOfTwoRows 16 = .ok (.aload_n 0, 1) := by decide +kernel
theorem dX7_refusalOfTwoRows_17 : decode cX7_refusalOfTwoRows 17 = .ok (.getfield 12, 3) := by decide +kernel
theorem dX7_refusalOfTwoRows_20 : decode cX7_refusalOfTwoRows 20 = .ok (.iload_n 1, 1) := by decide +kernel
theorem dX7_refusalOfTwoRows_21 : decode cX7_refusalOfTwoRows 21 = .ok (.invokevirtual 334, 3) := by decide +kernel
theorem dX7_refusalOfTwoRows_24 : decode cX7_refusalOfTwoRows 24 = .ok (.ifCond .ne 14, 3) := by decide +kernel
theorem dX7_refusalOfTwoRows_27 : decode cX7_refusalOfTwoRows 27 = .ok (.aload_n 0, 1) := by decide +kernel
theorem dX7_refusalOfTwoRows_28 : decode cX7_refusalOfTwoRows 28 = .ok (.getfield 12, 3) := by decide +kernel
theorem dX7_refusalOfTwoRows_31 : decode cX7_refusalOfTwoRows 31 = .ok (.iload_n 2, 1) := by decide +kernel
theorem dX7_refusalOfTwoRows_32 : decode cX7_refusalOfTwoRows 32 = .ok (.invokevirtual 334, 3) := by decide +kernel
theorem dX7_refusalOfTwoRows_35 : decode cX7_refusalOfTwoRows 35 = .ok (.ifCond .eq 6, 3) := by decide +kernel
theorem dX7_refusalOfTwoRows_38 : decode cX7_refusalOfTwoRows 38 = .ok (.bipush (-2), 2) := by decide +kernel
theorem dX7_refusalOfTwoRows_40 : decode cX7_refusalOfTwoRows 40 = .ok (.ireturn, 1) := by decide +kernel
theorem dX7_refusalOfTwoRows_41 : decode cX7_refusalOfTwoRows 41 = .ok (.aload_n 0, 1) := by decide +kernel
theorem dX7_refusalOfTwoRows_42 : decode cX7_refusalOfTwoRows 42 = .ok (.getfield 12, 3) := by decide +kernel
theorem dX7_refusalOfTwoRows_45 : decode cX7_refusalOfTwoRows 45 = .ok (.iload_n 1, 1) := by decide +kernel
theorem dX7_refusalOfTwoRows_46 : decode cX7_refusalOfTwoRows 46 = .ok (.invokevirtual 337, 3) := by decide +kernel
theorem dX7_refusalOfTwoRows_49 : decode cX7_refusalOfTwoRows 49 = .ok (.ifCond .eq 14, 3) := by decide +kernel
theorem dX7_refusalOfTwoRows_52 : decode cX7_refusalOfTwoRows 52 = .ok (.aload_n 0, 1) := by decide +kernel
theorem dX7_refusalOfTwoRows_53 : decode cX7_refusalOfTwoRows 53 = .ok (.getfield 12, 3) := by decide +kernel
theorem dX7_refusalOfTwoRows_56 : decode cX7_refusalOfTwoRows 56 = .ok (.iload_n 2, 1) := by decide +kernel
theorem dX7_refusalOfTwoRows_57 : decode cX7_refusalOfTwoRows 57 = .ok (.invokevirtual 337, 3) := by decide +kernel
theorem dX7_refusalOfTwoRows_60 : decode cX7_refusalOfTwoRows 60 = .ok (.ifCond .ne 6, 3) := by decide +kernel
theorem dX7_refusalOfTwoRows_63 : decode cX7_refusalOfTwoRows 63 = .ok (.bipush (-3), 2) := by decide +kernel
theorem dX7_refusalOfTwoRows_65 : decode cX7_refusalOfTwoRows 65 = .ok (.ireturn, 1) := by decide +kernel
theorem dX7_refusalOfTwoRows_66 : decode cX7_refusalOfTwoRows 66 = .ok (.aload_n 0, 1) := by decide +kernel
theorem dX7_refusalOfTwoRows_67 : decode cX7_refusalOfTwoRows 67 = .ok (.getfield 12, 3) := by decide +kernel
theorem dX7_refusalOfTwoRows_70 : decode cX7_refusalOfTwoRows 70 = .ok (.getfield 124, 3) := by decide +kernel
theorem dX7_refusalOfTwoRows_73 : decode cX7_refusalOfTwoRows 73 = .ok (.iload_n 1, 1) := by decide +kernel
theorem dX7_refusalOfTwoRows_74 : decode cX7_refusalOfTwoRows 74 = .ok (.iaload, 1) := by decide +kernel
theorem dX7_refusalOfTwoRows_75 : decode cX7_refusalOfTwoRows 75 = .ok (.aload_n 0, 1) := by decide +kernel
theorem dX7_refusalOfTwoRows_76 : decode cX7_refusalOfTwoRows 76 = .ok (.getfield 12, 3) := by decide +kernel
theorem dX7_refusalOfTwoRows_79 : decode cX7_refusalOfTwoRows 79 = .ok (.getfield 124, 3) := by decide +kernel
theorem dX7_refusalOfTwoRows_82 : decode cX7_refusalOfTwoRows 82 = .ok (.iload_n 2, 1) := by decide +kernel
theorem dX7_refusalOfTwoRows_83 : decode cX7_refusalOfTwoRows 83 = .ok (.iaload, 1) := by decide +kernel
theorem dX7_refusalOfTwoRows_84 : decode cX7_refusalOfTwoRows 84 = .ok (.if_icmp .ne 7, 3) := by decide +kernel
theorem dX7_refusalOfTwoRows_87 : decode cX7_refusalOfTwoRows 87 = .ok (.iconst 0, 1) := by decide +kernel
theorem dX7_refusalOfTwoRows_88 : decode cX7_refusalOfTwoRows 88 = .ok (.goto 5, 3) := by decide +kernel
theorem dX7_refusalOfTwoRows_91 : decode cX7_refusalOfTwoRows 91 = .ok (.bipush (-2), 2) := by decide +kernel
theorem dX7_refusalOfTwoRows_93 : decode cX7_refusalOfTwoRows 93 = .ok (.ireturn, 1) := by decide +kernel
theorem dX7_isShelf_0 : decode cX7_isShelf 0 = .ok (.iload_n 0, 1) := by decide +kernel
theorem dX7_isShelf_1 : decode cX7_isShelf 1 = .ok (.ifCond .lt 13, 3) := by decide +kernel
theorem dX7_isShelf_4 : decode cX7_isShelf 4 = .ok (.iload_n 0, 1) := by decide +kernel
theorem dX7_isShelf_5 : decode cX7_isShelf 5 = .ok (.bipush 8, 2) := by decide +kernel
theorem dX7_isShelf_7 : decode cX7_isShelf 7 = .ok (.if_icmp .ge 7, 3) := by decide +kernel
theorem dX7_isShelf_10 : decode cX7_isShelf 10 = .ok (.iconst 1, 1) := by decide +kernel
theorem dX7_isShelf_11 : decode cX7_isShelf 11 = .ok (.goto 4, 3) := by decide +kernel
theorem dX7_isShelf_14 : decode cX7_isShelf 14 = .ok (.iconst 0, 1) := by decide +kernel
theorem dX7_isShelf_15 : decode cX7_isShelf 15 = .ok (.ireturn, 1) := by decide +kernel
theorem dX7_isSeat_0 : decode cX7_isSeat 0 = .ok (.iload_n 0, 1) := by decide +kernel
theorem dX7_isSeat_1 : decode cX7_isSeat 1 = .ok (.ifCond .lt 13, 3) := by decide +kernel
theorem dX7_isSeat_4 : decode cX7_isSeat 4 = .ok (.iload_n 0, 1) := by decide +kernel
theorem dX7_isSeat_5 : decode cX7_isSeat 5 = .ok (.bipush 48, 2) := by decide +kernel
theorem dX7_isSeat_7 : decode cX7_isSeat 7 = .ok (.if_icmp .ge 7, 3) := by decide +kernel
theorem dX7_isSeat_10 : decode cX7_isSeat 10 = .ok (.iconst 1, 1) := by decide +kernel
theorem dX7_isSeat_11 : decode cX7_isSeat 11 = .ok (.goto 4, 3) := by decide +kernel
theorem dX7_isSeat_14 : decode cX7_isSeat 14 = .ok (.iconst 0, 1) := by decide +kernel
theorem dX7_isSeat_15 : decode cX7_isSeat 15 = .ok (.ireturn, 1) := by decide +kernel
theorem dX7_isKind_0 : decode cX7_isKind 0 = .ok (.iload_n 0, 1) := by decide +kernel
theorem dX7_isKind_1 : decode cX7_isKind 1 = .ok (.ifCond .lt 13, 3) := by decide +kernel
theorem dX7_isKind_4 : decode cX7_isKind 4 = .ok (.iload_n 0, 1) := by decide +kernel
theorem dX7_isKind_5 : decode cX7_isKind 5 = .ok (.bipush 7, 2) := by decide +kernel
theorem dX7_isKind_7 : decode cX7_isKind 7 = .ok (.if_icmp .ge 7, 3) := by decide +kernel
theorem dX7_isKind_10 : decode cX7_isKind 10 = .ok (.iconst 1, 1) := by decide +kernel
theorem dX7_isKind_11 : decode cX7_isKind 11 = .ok (.goto 4, 3) := by decide +kernel
theorem dX7_isKind_14 : decode cX7_isKind 14 = .ok (.iconst 0, 1) := by decide +kernel
theorem dX7_isKind_15 : decode cX7_isKind 15 = .ok (.ireturn, 1) := by decide +kernel
theorem dX7_isEvening_0 : decode cX7_isEvening 0 = .ok (.iload_n 0, 1) := by decide +kernel
theorem dX7_isEvening_1 : decode cX7_isEvening 1 = .ok (.ifCond .lt 14, 3) := by decide +kernel
theorem dX7_isEvening_4 : decode cX7_isEvening 4 = .ok (.iload_n 0, 1) := by decide +kernel
theorem dX7_isEvening_5 : decode cX7_isEvening 5 = .ok (.sipush 200, 3) := by decide +kernel
theorem dX7_isEvening_8 : decode cX7_isEvening 8 = .ok (.if_icmp .gt 7, 3) := by decide +kernel
theorem dX7_isEvening_11 : decode cX7_isEvening 11 = .ok (.iconst 1, 1) := by decide +kernel
theorem dX7_isEvening_12 : decode cX7_isEvening 12 = .ok (.goto 4, 3) := by decide +kernel
theorem dX7_isEvening_15 : decode cX7_isEvening 15 = .ok (.iconst 0, 1) := by decide +kernel
theorem dX7_isEvening_16 : decode cX7_isEvening 16 = .ok (.ireturn, 1) := by decide +kernel
theorem dX7_isWithin_0 : decode cX7_isWithin 0 = .ok (.iload_n 0, 1) := by decide +kernel
theorem dX7_isWithin_1 : decode cX7_isWithin 1 = .ok (.iload_n 1, 1) := by decide +kernel
theorem dX7_isWithin_2 : decode cX7_isWithin 2 = .ok (.if_icmp .lt 12, 3) := by decide +kernel
theorem dX7_isWithin_5 : decode cX7_isWithin 5 = .ok (.iload_n 0, 1) := by decide +kernel
theorem dX7_isWithin_6 : decode cX7_isWithin 6 = .ok (.iload_n 2, 1) := by decide +kernel
theorem dX7_isWithin_7 : decode cX7_isWithin 7 = .ok (.if_icmp .gt 7, 3) := by decide +kernel
theorem dX7_isWithin_10 : decode cX7_isWithin 10 = .ok (.iconst 1, 1) := by decide +kernel
theorem dX7_isWithin_11 : decode cX7_isWithin 11 = .ok (.goto 4, 3) := by decide +kernel
theorem dX7_isWithin_14 : decode cX7_isWithin 14 = .ok (.iconst 0, 1) := by decide +kernel
theorem dX7_isWithin_15 : decode cX7_isWithin 15 = .ok (.ireturn, 1) := by decide +kernel
theorem dX7_modulo_0 : decode cX7_modulo 0 = .ok (.iload_n 1, 1) := by decide +kernel
theorem dX7_modulo_1 : decode cX7_modulo 1 = .ok (.ifCond .le 9, 3) := by decide +kernel
theorem dX7_modulo_4 : decode cX7_modulo 4 = .ok (.iload_n 0, 1) := by decide +kernel
theorem dX7_modulo_5 : decode cX7_modulo 5 = .ok (.iload_n 1, 1) := by decide +kernel
theorem dX7_modulo_6 : decode cX7_modulo 6 = .ok (.irem, 1) := by decide +kernel
theorem dX7_modulo_7 : decode cX7_modulo 7 = .ok (.goto 4, 3) := by decide +kernel
theorem dX7_modulo_10 : decode cX7_modulo 10 = .ok (.iconst 0, 1) := by decide +kernel
theorem dX7_modulo_11 : decode cX7_modulo 11 = .ok (.ireturn, 1) := by decide +kernel
theorem dX7_kindAbove_0 : decode cX7_kindAbove 0 = .ok (.iload_n 0, 1) := by decide +kernel
theorem dX7_kindAbove_1 : decode cX7_kindAbove 1 = .ok (.tableswitch 45 1 6 #[39, 39, 41, 41, 41, 43], 39) := by decide +kernel
theorem dX7_kindAbove_40 : decode cX7_kindAbove 40 = .ok (.iconst 0, 1) := by decide +kernel
theorem dX7_kindAbove_41 : decode cX7_kindAbove 41 = .ok (.ireturn, 1) := by decide +kernel
theorem dX7_kindAbove_42 : decode cX7_kindAbove 42 = .ok (.iconst 2, 1) := by decide +kernel
theorem dX7_kindAbove_43 : decode cX7_kindAbove 43 = .ok (.ireturn, 1) := by decide +kernel
theorem dX7_kindAbove_44 : decode cX7_kindAbove 44 = .ok (.iconst 1, 1) := by decide +kernel
theorem dX7_kindAbove_45 : decode cX7_kindAbove 45 = .ok (.ireturn, 1) := by decide +kernel
theorem dX7_kindAbove_46 : decode cX7_kindAbove 46 = .ok (.iconst (-1), 1) := by decide +kernel
theorem dX7_kindAbove_47 : decode cX7_kindAbove 47 = .ok (.ireturn, 1) := by decide +kernel
theorem dX7_isKindOrUnder_0 : decode cX7_isKindOrUnder 0 = .ok (.iload_n 0, 1) := by decide +kernel
theorem dX7_isKindOrUnder_1 : decode cX7_isKindOrUnder 1 = .ok (.istore_n 2, 1) := by decide +kernel
theorem dX7_isKindOrUnder_2 : decode cX7_isKindOrUnder 2 = .ok (.iconst 0, 1) := by decide +kernel
theorem dX7_isKindOrUnder_3 : decode cX7_isKindOrUnder 3 = .ok (.istore_n 3, 1) := by decide +kernel
theorem dX7_isKindOrUnder_4 : decode cX7_isKindOrUnder 4 = .ok (.iload_n 3, 1) := by decide +kernel
theorem dX7_isKindOrUnder_5 : decode cX7_isKindOrUnder 5 = .ok (.bipush 7, 2) := by decide +kernel
theorem dX7_isKindOrUnder_7 : decode cX7_isKindOrUnder 7 = .ok (.if_icmp .ge 24, 3) := by decide +kernel
theorem dX7_isKindOrUnder_10 : decode cX7_isKindOrUnder 10 = .ok (.iload_n 2, 1) := by decide +kernel
theorem dX7_isKindOrUnder_11 : decode cX7_isKindOrUnder 11 = .ok (.iconst (-1), 1) := by decide +kernel
theorem dX7_isKindOrUnder_12 : decode cX7_isKindOrUnder 12 = .ok (.if_icmp .eq 19, 3) := by decide +kernel
theorem dX7_isKindOrUnder_15 : decode cX7_isKindOrUnder 15 = .ok (.iload_n 2, 1) := by decide +kernel
theorem dX7_isKindOrUnder_16 : decode cX7_isKindOrUnder 16 = .ok (.iload_n 1, 1) := by decide +kernel
theorem dX7_isKindOrUnder_17 : decode cX7_isKindOrUnder 17 = .ok (.if_icmp .eq 14, 3) := by decide +kernel
theorem dX7_isKindOrUnder_20 : decode cX7_isKindOrUnder 20 = .ok (.iload_n 2, 1) := by decide +kernel
theorem dX7_isKindOrUnder_21 : decode cX7_isKindOrUnder 21 = .ok (.invokestatic 340, 3) := by decide +kernel
theorem dX7_isKindOrUnder_24 : decode cX7_isKindOrUnder 24 = .ok (.istore_n 2, 1) := by decide +kernel
theorem dX7_isKindOrUnder_25 : decode cX7_isKindOrUnder 25 = .ok (.iinc 3 1, 3) := by decide +kernel
theorem dX7_isKindOrUnder_28 : decode cX7_isKindOrUnder 28 = .ok (.goto (-24), 3) := by decide +kernel
theorem dX7_isKindOrUnder_31 : decode cX7_isKindOrUnder 31 = .ok (.iload_n 2, 1) := by decide +kernel
theorem dX7_isKindOrUnder_32 : decode cX7_isKindOrUnder 32 = .ok (.iload_n 1, 1) := by decide +kernel
theorem dX7_isKindOrUnder_33 : decode cX7_isKindOrUnder 33 = .ok (.if_icmp .ne 7, 3) := by decide +kernel
theorem dX7_isKindOrUnder_36 : decode cX7_isKindOrUnder 36 = .ok (.iconst 1, 1) := by decide +kernel
theorem dX7_isKindOrUnder_37 : decode cX7_isKindOrUnder 37 = .ok (.goto 4, 3) := by decide +kernel
theorem dX7_isKindOrUnder_40 : decode cX7_isKindOrUnder 40 = .ok (.iconst 0, 1) := by decide +kernel
theorem dX7_isKindOrUnder_41 : decode cX7_isKindOrUnder 41 = .ok (.ireturn, 1) := by decide +kernel
theorem dX7_farOf_0 : decode cX7_farOf 0 = .ok (.iload_n 0, 1) := by decide +kernel
theorem dX7_farOf_1 : decode cX7_farOf 1 = .ok (.bipush 8, 2) := by decide +kernel
theorem dX7_farOf_3 : decode cX7_farOf 3 = .ok (.idiv, 1) := by decide +kernel
theorem dX7_farOf_4 : decode cX7_farOf 4 = .ok (.iload_n 1, 1) := by decide +kernel
theorem dX7_farOf_5 : decode cX7_farOf 5 = .ok (.bipush 8, 2) := by decide +kernel
theorem dX7_farOf_7 : decode cX7_farOf 7 = .ok (.idiv, 1) := by decide +kernel
theorem dX7_farOf_8 : decode cX7_farOf 8 = .ok (.isub, 1) := by decide +kernel
theorem dX7_farOf_9 : decode cX7_farOf 9 = .ok (.invokestatic 343, 3) := by decide +kernel
theorem dX7_farOf_12 : decode cX7_farOf 12 = .ok (.iload_n 0, 1) := by decide +kernel
theorem dX7_farOf_13 : decode cX7_farOf 13 = .ok (.bipush 8, 2) := by decide +kernel
theorem dX7_farOf_15 : decode cX7_farOf 15 = .ok (.irem, 1) := by decide +kernel
theorem dX7_farOf_16 : decode cX7_farOf 16 = .ok (.iload_n 1, 1) := by decide +kernel
theorem dX7_farOf_17 : decode cX7_farOf 17 = .ok (.bipush 8, 2) := by decide +kernel
theorem dX7_farOf_19 : decode cX7_farOf 19 = .ok (.irem, 1) := by decide +kernel
theorem dX7_farOf_20 : decode cX7_farOf 20 = .ok (.isub, 1) := by decide +kernel
theorem dX7_farOf_21 : decode cX7_farOf 21 = .ok (.invokestatic 343, 3) := by decide +kernel
theorem dX7_farOf_24 : decode cX7_farOf 24 = .ok (.iadd, 1) := by decide +kernel
theorem dX7_farOf_25 : decode cX7_farOf 25 = .ok (.ireturn, 1) := by decide +kernel
theorem dX7_loudnessAt_0 : decode cX7_loudnessAt 0 = .ok (.iload_n 0, 1) := by decide +kernel
theorem dX7_loudnessAt_1 : decode cX7_loudnessAt 1 = .ok (.ifCond .lt 12, 3) := by decide +kernel
theorem dX7_loudnessAt_4 : decode cX7_loudnessAt 4 = .ok (.bipush 12, 2) := by decide +kernel
theorem dX7_loudnessAt_6 : decode cX7_loudnessAt 6 = .ok (.iconst 1, 1) := by decide +kernel
theorem dX7_loudnessAt_7 : decode cX7_loudnessAt 7 = .ok (.iload_n 0, 1) := by decide +kernel
theorem dX7_loudnessAt_8 : decode cX7_loudnessAt 8 = .ok (.iadd, 1) := by decide +kernel
theorem dX7_loudnessAt_9 : decode cX7_loudnessAt 9 = .ok (.idiv, 1) := by decide +kernel
theorem dX7_loudnessAt_10 : decode cX7_loudnessAt 10 = .ok (.goto 4, 3) := by decide +kernel
theorem dX7_loudnessAt_13 : decode cX7_loudnessAt 13 = .ok (.iconst 0, 1) := by decide +kernel
theorem dX7_loudnessAt_14 : decode cX7_loudnessAt 14 = .ok (.ireturn, 1) := by decide +kernel
