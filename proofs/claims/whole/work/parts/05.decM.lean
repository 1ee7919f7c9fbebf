theorem dX7_init_0 : decode cX7_init 0 = .ok (.aload_n 0, 1) := by decide +kernel
theorem dX7_init_1 : decode cX7_init 1 = .ok (.aload_n 1, 1) := by decide +kernel
theorem dX7_init_2 : decode cX7_init 2 = .ok (.putfield 3, 3) := by decide +kernel
theorem dX7_init_5 : decode cX7_init 5 = .ok (.aload_n 0, 1) := by decide +kernel
theorem dX7_init_6 : decode cX7_init 6 = .ok (.invokespecial 9, 3) := by decide +kernel
theorem dX7_init_9 : decode cX7_init 9 = .ok (.aload_n 0, 1) := by decide +kernel
theorem dX7_init_10 : decode cX7_init 10 = .ok (.sipush 160, 3) := by decide +kernel
theorem dX7_init_13 : decode cX7_init 13 = .ok (.newarray .int, 2) := by decide +kernel
theorem dX7_init_15 : decode cX7_init 15 = .ok (.putfield 15, 3) := by decide +kernel
theorem dX7_init_18 : decode cX7_init 18 = .ok (.aload_n 0, 1) := by decide +kernel
theorem dX7_init_19 : decode cX7_init 19 = .ok (.bipush 30, 2) := by decide +kernel
theorem dX7_init_21 : decode cX7_init 21 = .ok (.newarray .int, 2) := by decide +kernel
theorem dX7_init_23 : decode cX7_init 23 = .ok (.putfield 19, 3) := by decide +kernel
theorem dX7_init_26 : decode cX7_init 26 = .ok (.aload_n 0, 1) := by decide +kernel
theorem dX7_init_27 : decode cX7_init 27 = .ok (.bipush 32, 2) := by decide +kernel
theorem dX7_init_29 : decode cX7_init 29 = .ok (.newarray .int, 2) := by decide +kernel
theorem dX7_init_31 : decode cX7_init 31 = .ok (.putfield 22, 3) := by decide +kernel
theorem dX7_init_34 : decode cX7_init 34 = .ok (.aload_n 0, 1) := by decide +kernel
theorem dX7_init_35 : decode cX7_init 35 = .ok (.bipush 10, 2) := by decide +kernel
theorem dX7_init_37 : decode cX7_init 37 = .ok (.newarray .int, 2) := by decide +kernel
theorem dX7_init_39 : decode cX7_init 39 = .ok (.putfield 25, 3) := by decide +kernel
theorem dX7_init_42 : decode cX7_init 42 = .ok (.iconst 0, 1) := by decide +kernel
theorem dX7_init_43 : decode cX7_init 43 = .ok (.istore_n 2, 1) := by decide +kernel
theorem dX7_init_44 : decode cX7_init 44 = .ok (.iload_n 2, 1) := by decide +kernel
theorem dX7_init_45 : decode cX7_init 45 = .ok (.bipush 30, 2) := by decide +kernel
theorem dX7_init_47 : decode cX7_init 47 = .ok (.if_icmp .ge 16, 3) := by decide +kernel
theorem dX7_init_50 : decode cX7_init 50 = .ok (.aload_n 0, 1) := by decide +kernel
theorem dX7_init_51 : decode cX7_init 51 = .ok (.getfield 19, 3) := by decide +kernel
theorem dX7_init_54 : decode cX7_init 54 = .ok (.iload_n 2, 1) := by decide +kernel
theorem dX7_init_55 : decode cX7_init 55 = .ok (.iconst (-1), 1) := by decide +kernel
theorem dX7_init_56 : decode cX7_init 56 = .ok (.iastore, 1) := by decide +kernel
theorem dX7_init_57 : decode cX7_init 57 = .ok (.iinc 2 1, 3) := by decide +kernel
theorem dX7_init_60 : decode cX7_init 60 = .ok (.goto (-16), 3) := by decide +kernel
theorem dX7_init_63 : decode cX7_init 63 = .ok (.return_, 1) := by decide +kernel
theorem dX7_copy_0 : decode cX7_copy 0 = .ok (.aload_n 1, 1) := by decide +kernel
theorem dX7_copy_1 : decode cX7_copy 1 = .ok (.iconst 0, 1) := by decide +kernel
theorem dX7_copy_2 : decode cX7_copy 2 = .ok (.aload_n 2, 1) := by decide +kernel
theorem dX7_copy_3 : decode cX7_copy 3 = .ok (.iconst 0, 1) := by decide +kernel
theorem dX7_copy_4 : decode cX7_copy 4 = .ok (.aload_n 1, 1) := by decide +kernel
theorem dX7_copy_5 : decode cX7_copy 5 = .ok (.arraylength, 1) := by decide +kernel
theorem dX7_copy_6 : decode cX7_copy 6 = .ok (.invokestatic 28, 3) := by decide +kernel
theorem dX7_copy_9 : decode cX7_copy 9 = .ok (.return_, 1) := by decide +kernel
theorem dX7_become_0 : decode cX7_become 0 = .ok (.aload_n 0, 1) := by decide +kernel
theorem dX7_become_1 : decode cX7_become 1 = .ok (.aload_n 1, 1) := by decide +kernel
theorem dX7_become_2 : decode cX7_become 2 = .ok (.getfield 34, 3) := by decide +kernel
theorem dX7_become_5 : decode cX7_become 5 = .ok (.putfield 34, 3) := by decide +kernel
theorem dX7_become_8 : decode cX7_become 8 = .ok (.aload_n 0, 1) := by decide +kernel
theorem dX7_become_9 : decode cX7_become 9 = .ok (.aload_n 1, 1) := by decide +kernel
theorem dX7_become_10 : decode cX7_become 10 = .ok (.getfield 38, 3) := by decide +kernel
theorem dX7_become_13 : decode cX7_become 13 = .ok (.putfield 38, 3) := by decide +kernel
theorem dX7_become_16 : decode cX7_become 16 = .ok (.aload_n 0, 1) := by decide +kernel
theorem dX7_become_17 : decode cX7_become 17 = .ok (.aload_n 1, 1) := by decide +kernel
theorem dX7_become_18 : decode cX7_become 18 = .ok (.getfield 41, 3) := by decide +kernel
theorem dX7_become_21 : decode cX7_become 21 = .ok (.putfield 41, 3) := by decide +kernel
theorem dX7_become_24 : decode cX7_become 24 = .ok (.aload_n 0, 1) := by decide +kernel
theorem dX7_become_25 : decode cX7_become 25 = .ok (.aload_n 1, 1) := by decide +kernel
theorem dX7_become_26 : decode cX7_become 26 = .ok (.getfield 15, 3) := by decide +kernel
theorem dX7_become_29 : decode cX7_become 29 = .ok (.aload_n 0, 1) := by decide +kernel
theorem dX7_become_30 : decode cX7_become 30 = .ok (.getfield 15, 3) := by decide +kernel
theorem dX7_become_33 : decode cX7_become 33 = .ok (.invokevirtual 44, 3) := by decide +kernel
theorem dX7_become_36 : decode cX7_become 36 = .ok (.aload_n 0, 1) := by decide +kernel
theorem dX7_become_37 : decode cX7_become 37 = .ok (.aload_n 1, 1) := by decide +kernel
theorem dX7_become_38 : decode cX7_become 38 = .ok (.getfield 19, 3) := by decide +kernel
theorem dX7_become_41 : decode cX7_become 41 = .ok (.aload_n 0, 1) := by decide +kernel
theorem dX7_become_42 : decode cX7_become 42 = .ok (.getfield 19, 3) := by decide +kernel
theorem dX7_become_45 : decode cX7_become 45 = .ok (.invokevirtual 44, 3) := by decide +kernel
theorem dX7_become_48 : decode cX7_become 48 = .ok (.aload_n 0, 1) := by decide +kernel
theorem dX7_become_49 : decode cX7_become 49 = .ok (.aload_n 1, 1) := by decide +kernel
theorem dX7_become_50 : decode cX7_become 50 = .ok (.getfield 22, 3) := by decide +kernel
theorem dX7_become_53 : decode cX7_become 53 = .ok (.aload_n 0, 1) := by decide +kernel
theorem dX7_become_54 : decode cX7_become 54 = .ok (.getfield 22, 3) := by decide +kernel
theorem dX7_become_57 : decode cX7_become 57 = .ok (.invokevirtual 44, 3) := by decide +kernel
theorem dX7_become_60 : decode cX7_become 60 = .ok (.aload_n 0, 1) := by decide +kernel
theorem dX7_become_61 : decode cX7_become 61 = .ok (.aload_n 1, 1) := by decide +kernel
theorem dX7_become_62 : decode cX7_become 62 = .ok (.getfield 25, 3) := by decide +kernel
theorem dX7_become_65 : decode cX7_become 65 = .ok (.aload_n 0, 1) := by decide +kernel
theorem dX7_become_66 : decode cX7_become 66 = .ok (.getfield 25, 3) := by decide +kernel
theorem dX7_become_69 : decode cX7_become 69 = .ok (.invokevirtual 44, 3) := by decide +kernel
theorem dX7_become_72 : decode cX7_become 72 = .ok (.return_, 1) := by decide +kernel
theorem dX7_own_0 : decode cX7_own 0 = .ok (.aload_n 0, 1) := by decide +kernel
theorem dX7_own_1 : decode cX7_own 1 = .ok (.getfield 15, 3) := by decide +kernel
theorem dX7_own_4 : decode cX7_own 4 = .ok (.bipush 10, 2) := by decide +kernel
theorem dX7_own_6 : decode cX7_own 6 = .ok (.iload_n 1, 1) := by decide +kernel
theorem dX7_own_7 : decode cX7_own 7 = .ok (.imul, 1) := by decide +kernel
theorem dX7_own_8 : decode cX7_own 8 = .ok (.iload_n 2, 1) := by decide +kernel
theorem dX7_own_9 : decode cX7_own 9 = .ok (.iadd, 1) := by decide +kernel
theorem dX7_own_10 : decode cX7_own 10 = .ok (.iaload, 1) := by decide +kernel
theorem dX7_own_11 : decode cX7_own 11 = .ok (.ireturn, 1) := by decide +kernel
theorem dX7_set_0 : decode cX7_set 0 = .ok (.aload_n 0, 1) := by decide +kernel
theorem dX7_set_1 : decode cX7_set 1 = .ok (.getfield 15, 3) := by decide +kernel
theorem dX7_set_4 : decode cX7_set 4 = .ok (.bipush 10, 2) := by decide +kernel
theorem dX7_set_6 : decode cX7_set 6 = .ok (.iload_n 1, 1) := by decide +kernel
theorem dX7_set_7 : decode cX7_set 7 = .ok (.imul, 1) := by decide +kernel
theorem dX7_set_8 : decode cX7_set 8 = .ok (.iload_n 2, 1) := by decide +kernel
theorem dX7_set_9 : decode cX7_set 9 = .ok (.iadd, 1) := by decide +kernel
theorem dX7_set_10 : decode cX7_set 10 = .ok (.iload_n 3, 1) := by decide +kernel
theorem dX7_set_11 : decode cX7_set 11 = .ok (.iastore, 1) := by decide +kernel
theorem dX7_set_12 : decode cX7_set 12 = .ok (.return_, 1) := by decide +kernel
theorem dX7_line_0 : decode cX7_line 0 = .ok (.bipush 16, 2) := by decide +kernel
theorem dX7_line_2 : decode cX7_line 2 = .ok (.iload_n 2, 1) := by decide +kernel
theorem dX7_line_3 : decode cX7_line 3 = .ok (.imul, 1) := by decide +kernel
theorem dX7_line_4 : decode cX7_line 4 = .ok (.iload_n 3, 1) := by decide +kernel
theorem dX7_line_5 : decode cX7_line 5 = .ok (.iadd, 1) := by decide +kernel
theorem dX7_line_6 : decode cX7_line 6 = .ok (.istore 4, 2) := by decide +kernel
theorem dX7_line_8 : decode cX7_line 8 = .ok (.aload_n 0, 1) := by decide +kernel
theorem dX7_line_9 : decode cX7_line 9 = .ok (.getfield 22, 3) := by decide +kernel
theorem dX7_line_12 : decode cX7_line 12 = .ok (.iload 4, 2) := by decide +kernel
theorem dX7_line_14 : decode cX7_line 14 = .ok (.aload_n 0, 1) := by decide +kernel
theorem dX7_line_15 : decode cX7_line 15 = .ok (.getfield 22, 3) := by decide +kernel
theorem dX7_line_18 : decode cX7_line 18 = .ok (.iload 4, 2) := by decide +kernel
theorem dX7_line_20 : decode cX7_line 20 = .ok (.iconst 1, 1) := by decide +kernel
theorem dX7_line_21 : decode cX7_line 21 = .ok (.iadd, 1) := by decide +kernel
theorem dX7_line_22 : decode cX7_line 22 = .ok (.aload_n 0, 1) := by decide +kernel
theorem dX7_line_23 : decode cX7_line 23 = .ok (.getfield 25, 3) := by decide +kernel
theorem dX7_line_26 : decode cX7_line 26 = .ok (.iconst 5, 1) := by decide +kernel
theorem dX7_line_27 : decode cX7_line 27 = .ok (.iload_n 2, 1) := by decide +kernel
theorem dX7_line_28 : decode cX7_line 28 = .ok (.imul, 1) := by decide +kernel
theorem dX7_line_29 : decode cX7_line 29 = .ok (.iconst 3, 1) := by decide +kernel
theorem dX7_line_30 : decode cX7_line 30 = .ok (.iadd, 1) := by decide +kernel
theorem dX7_line_31 : decode cX7_line 31 = .ok (.iaload, 1) := by decide +kernel
theorem dX7_line_32 : decode cX7_line 32 = .ok (.iload_n 3, 1) := by decide +kernel
theorem dX7_line_33 : decode cX7_line 33 = .ok (.isub, 1) := by decide +kernel
theorem dX7_line_34 : decode cX7_line 34 = .ok (.invokestatic 28, 3) := by decide +kernel
theorem dX7_line_37 : decode cX7_line 37 = .ok (.aload_n 0, 1) := by decide +kernel
theorem dX7_line_38 : decode cX7_line 38 = .ok (.getfield 22, 3) := by decide +kernel
theorem dX7_line_41 : decode cX7_line 41 = .ok (.iload 4, 2) := by decide +kernel
theorem dX7_line_43 : decode cX7_line 43 = .ok (.iload_n 1, 1) := by decide +kernel
theorem dX7_line_44 : decode cX7_line 44 = .ok (.iastore, 1) := by decide +kernel
theorem dX7_line_45 : decode cX7_line 45 = .ok (.aload_n 0, 1) := by decide +kernel
theorem dX7_line_46 : decode cX7_line 46 = .ok (.getfield 25, 3) := by decide +kernel
theorem dX7_line_49 : decode cX7_line 49 = .ok (.iconst 5, 1) := by decide +kernel
theorem dX7_line_50 : decode cX7_line 50 = .ok (.iload_n 2, 1) := by decide +kernel
theorem dX7_line_51 : decode cX7_line 51 = .ok (.imul, 1) := by decide +kernel
theorem dX7_line_52 : decode cX7_line 52 = .ok (.iconst 3, 1) := by decide +kernel
theorem dX7_line_53 : decode cX7_line 53 = .ok (.iadd, 1) := by decide +kernel
theorem dX7_line_54 : decode cX7_line 54 = .ok (.dup2, 1) := by decide +kernel
theorem dX7_line_55 : decode cX7_line 55 = .ok (.iaload, 1) := by decide +kernel
theorem dX7_line_56 : decode cX7_line 56 = .ok (.iconst 1, 1) := by decide +kernel
theorem dX7_line_57 : decode cX7_line 57 = .ok (.iadd, 1) := by decide +kernel
theorem dX7_line_58 : decode cX7_line 58 = .ok (.iastore, 1) := by decide +kernel
theorem dX7_line_59 : decode cX7_line 59 = .ok (.aload_n 0, 1) := by decide +kernel
theorem dX7_line_60 : decode cX7_line 60 = .ok (.iload_n 1, 1) := by decide +kernel
theorem dX7_line_61 : decode cX7_line 61 = .ok (.iconst 5, 1) := by decide +kernel
theorem dX7_line_62 : decode cX7_line 62 = .ok (.iconst 0, 1) := by decide +kernel
theorem dX7_line_63 : decode cX7_line 63 = .ok (.invokevirtual 48, 3) := by decide +kernel
theorem dX7_line_66 : decode cX7_line 66 = .ok (.aload_n 0, 1) := by decide +kernel
theorem dX7_line_67 : decode cX7_line 67 = .ok (.iload_n 1, 1) := by decide +kernel
theorem dX7_line_68 : decode cX7_line 68 = .ok (.bipush 6, 2) := by decide +kernel
theorem dX7_line_70 : decode cX7_line 70 = .ok (.iconst (-1), 1) := by decide +kernel
theorem dX7_line_71 : decode cX7_line 71 = .ok (.invokevirtual 48, 3) := by decide +kernel
theorem dX7_line_74 : decode cX7_line 74 = .ok (.return_, 1) := by decide +kernel
theorem dX7_first_0 : decode cX7_first 0 = .ok (.aload_n 0, 1) := by decide +kernel
theorem dX7_first_1 : decode cX7_first 1 = .ok (.getfield 22, 3) := by decide +kernel
theorem dX7_first_4 : decode cX7_first 4 = .ok (.bipush 16, 2) := by decide +kernel
theorem dX7_first_6 : decode cX7_first 6 = .ok (.iload_n 1, 1) := by decide +kernel
theorem dX7_first_7 : decode cX7_first 7 = .ok (.imul, 1) := by decide +kernel
theorem dX7_first_8 : decode cX7_first 8 = .ok (.iaload, 1) := by decide +kernel
theorem dX7_first_9 : decode cX7_first 9 = .ok (.istore_n 2, 1) := by decide +kernel
theorem dX7_first_10 : decode cX7_first 10 = .ok (.aload_n 0, 1) := by decide +kernel
theorem dX7_first_11 : decode cX7_first 11 = .ok (.getfield 25, 3) := by decide +kernel
theorem dX7_first_14 : decode cX7_first 14 = .ok (.iconst 5, 1) := by decide +kernel
theorem dX7_first_15 : decode cX7_first 15 = .ok (.iload_n 1, 1) := by decide +kernel
theorem dX7_first_16 : decode cX7_first 16 = .ok (.imul, 1) := by decide +kernel
theorem dX7_first_17 : decode cX7_first 17 = .ok (.iconst 3, 1) := by decide +kernel
theorem dX7_first_18 : decode cX7_first 18 = .ok (.iadd, 1) := by decide +kernel
theorem dX7_first_19 : decode cX7_first 19 = .ok (.dup2, 1) := by decide +kernel
theorem dX7_first_20 : decode cX7_first 20 = .ok (.iaload, 1) := by decide +kernel
theorem dX7_first_21 : decode cX7_first 21 = .ok (.iconst 1, 1) := by decide +kernel
theorem dX7_first_22 : decode cX7_first 22 = .ok (.isub, 1) := by decide +kernel
theorem dX7_first_23 : decode cX7_first 23 = .ok (.iastore, 1) := by decide +kernel
theorem dX7_first_24 : decode cX7_first 24 = .ok (.aload_n 0, 1) := by decide +kernel
theorem dX7_first_25 : decode cX7_first 25 = .ok (.getfield 22, 3) := by decide +kernel
theorem dX7_first_28 : decode cX7_first 28 = .ok (.bipush 16, 2) := by decide +kernel
theorem dX7_first_30 : decode cX7_first 30 = .ok (.iload_n 1, 1) := by decide +kernel
theorem dX7_first_31 : decode cX7_first 31 = .ok (.imul, 1) := by decide +kernel
theorem dX7_first_32 : decode cX7_first 32 = .ok (.iconst 1, 1) := by decide +kernel
theorem dX7_first_33 : decode cX7_first 33 = .ok (.iadd, 1) := by decide +kernel
theorem dX7_first_34 : decode cX7_first 34 = .ok (.aload_n 0, 1) := by decide +kernel
theorem dX7_first_35 : decode cX7_first 35 = .ok (.getfield 22, 3) := by decide +kernel
theorem dX7_first_38 : decode cX7_first 38 = .ok (.bipush 16, 2) := by decide +kernel
theorem dX7_first_40 : decode cX7_first 40 = .ok (.iload_n 1, 1) := by decide +kernel
theorem dX7_first_41 : decode cX7_first 41 = .ok (.imul, 1) := by decide +kernel
theorem dX7_first_42 : decode cX7_first 42 = .ok (.aload_n 0, 1) := by decide +kernel
theorem dX7_first_43 : decode cX7_first 43 = .ok (.getfield 25, 3) := by decide +kernel
theorem dX7_first_46 : decode cX7_first 46 = .ok (.iconst 5, 1) := by decide +kernel
theorem dX7_first_47 : decode cX7_first 47 = .ok (.iload_n 1, 1) := by decide +kernel
theorem dX7_first_48 : decode cX7_first 48 = .ok (.imul, 1) := by decide +kernel
theorem dX7_first_49 : decode cX7_first 49 = .ok (.iconst 3, 1) := by decide +kernel
theorem dX7_first_50 : decode cX7_first 50 = .ok (.iadd, 1) := by decide +kernel
theorem dX7_first_51 : decode cX7_first 51 = .ok (.iaload, 1) := by decide +kernel
theorem dX7_first_52 : decode cX7_first 52 = .ok (.invokestatic 28, 3) := by decide +kernel
theorem dX7_first_55 : decode cX7_first 55 = .ok (.iload_n 2, 1) := by decide +kernel
theorem dX7_first_56 : decode cX7_first 56 = .ok (.ireturn, 1) := by decide +kernel
theorem dX7_leave_0 : decode cX7_leave 0 = .ok (.aload_n 0, 1) := by decide +kernel
theorem dX7_leave_1 : decode cX7_leave 1 = .ok (.iload_n 1, 1) := by decide +kernel
theorem dX7_leave_2 : decode cX7_leave 2 = .ok (.iconst 4, 1) := by decide +kernel
theorem dX7_leave_3 : decode cX7_leave 3 = .ok (.invokevirtual 52, 3) := by decide +kernel
theorem dX7_leave_6 : decode cX7_leave 6 = .ok (.aload_n 0, 1) := by decide +kernel
theorem dX7_leave_7 : decode cX7_leave 7 = .ok (.getfield 38, 3) := by decide +kernel
theorem dX7_leave_10 : decode cX7_leave 10 = .ok (.if_icmp .eq 16, 3) := by decide +kernel
theorem dX7_leave_13 : decode cX7_leave 13 = .ok (.aload_n 0, 1) := by decide +kernel
theorem dX7_leave_14 : decode cX7_leave 14 = .ok (.iload_n 1, 1) := by decide +kernel
theorem dX7_leave_15 : decode cX7_leave 15 = .ok (.aload_n 0, 1) := by decide +kernel
theorem dX7_leave_16 : decode cX7_leave 16 = .ok (.iload_n 1, 1) := by decide +kernel
theorem dX7_leave_17 : decode cX7_leave 17 = .ok (.iconst 4, 1) := by decide +kernel
theorem dX7_leave_18 : decode cX7_leave 18 = .ok (.invokevirtual 52, 3) := by decide +kernel
theorem dX7_leave_21 : decode cX7_leave 21 = .ok (.iconst 0, 1) := by decide +kernel
theorem dX7_leave_22 : decode cX7_leave 22 = .ok (.invokevirtual 56, 3) := by decide +kernel
theorem dX7_leave_25 : decode cX7_leave 25 = .ok (.return_, 1) := by decide +kernel
theorem dX7_leave_26 : decode cX7_leave 26 = .ok (.aload_n 0, 1) := by decide +kernel
theorem dX7_leave_27 : decode cX7_leave 27 = .ok (.iload_n 1, 1) := by decide +kernel
theorem dX7_leave_28 : decode cX7_leave 28 = .ok (.iconst 5, 1) := by decide +kernel
theorem dX7_leave_29 : decode cX7_leave 29 = .ok (.iconst 2, 1) := by decide +kernel
theorem dX7_leave_30 : decode cX7_leave 30 = .ok (.invokevirtual 48, 3) := by decide +kernel
theorem dX7_leave_33 : decode cX7_leave 33 = .ok (.aload_n 0, 1) := by decide +kernel
theorem dX7_leave_34 : decode cX7_leave 34 = .ok (.iload_n 1, 1) := by decide +kernel
theorem dX7_leave_35 : decode cX7_leave 35 = .ok (.bipush 6, 2) := by decide +kernel
theorem dX7_leave_37 : decode cX7_leave 37 = .ok (.iconst (-1), 1) := by decide +kernel
theorem dX7_leave_38 : decode cX7_leave 38 = .ok (.invokevirtual 48, 3) := by decide +kernel
theorem dX7_leave_41 : decode cX7_leave 41 = .ok (.aload_n 0, 1) := by decide +kernel
theorem dX7_leave_42 : decode cX7_leave 42 = .ok (.iload_n 1, 1) := by decide +kernel
theorem dX7_leave_43 : decode cX7_leave 43 = .ok (.bipush 8, 2) := by decide +kernel
theorem dX7_leave_45 : decode cX7_leave 45 = .ok (.aload_n 0, 1) := by decide +kernel
theorem dX7_leave_46 : decode cX7_leave 46 = .ok (.getfield 34, 3) := by decide +kernel
theorem dX7_leave_49 : decode cX7_leave 49 = .ok (.invokevirtual 48, 3) := by decide +kernel
theorem dX7_leave_52 : decode cX7_leave 52 = .ok (.return_, 1) := by decide +kernel
theorem dX7_move_0 : decode cX7_move 0 = .ok (.aload_n 0, 1) := by decide +kernel
theorem dX7_move_1 : decode cX7_move 1 = .ok (.getfield 38, 3) := by decide +kernel
theorem dX7_move_4 : decode cX7_move 4 = .ok (.ifCond .ne 7, 3) := by decide +kernel
theorem dX7_move_7 : decode cX7_move 7 = .ok (.iconst 1, 1) := by decide +kernel
theorem dX7_move_8 : decode cX7_move 8 = .ok (.goto 4, 3) := by decide +kernel
theorem dX7_move_11 : decode cX7_move 11 = .ok (.iconst (-1), 1) := by decide +kernel
theorem dX7_move_12 : decode cX7_move 12 = .ok (.istore_n 2, 1) := by decide +kernel
theorem dX7_move_13 : decode cX7_move 13 = .ok (.aload_n 0, 1) := by decide +kernel
theorem dX7_move_14 : decode cX7_move 14 = .ok (.iload_n 1, 1) := by decide +kernel
theorem dX7_move_15 : decode cX7_move 15 = .ok (.iconst 4, 1) := by decide +kernel
theorem dX7_move_16 : decode cX7_move 16 = .ok (.invokevirtual 52, 3) := by decide +kernel
theorem dX7_move_19 : decode cX7_move 19 = .ok (.aload_n 0, 1) := by decide +kernel
theorem dX7_move_20 : decode cX7_move 20 = .ok (.getfield 38, 3) := by decide +kernel
theorem dX7_move_23 : decode cX7_move 23 = .ok (.if_icmp .ne 12, 3) := by decide +kernel
theorem dX7_move_26 : decode cX7_move 26 = .ok (.aload_n 0, 1) := by decide +kernel
theorem dX7_move_27 : decode cX7_move 27 = .ok (.iload_n 1, 1) := by decide +kernel
theorem dX7_move_28 : decode cX7_move 28 = .ok (.iconst 2, 1) := by decide +kernel
theorem dX7_move_29 : decode cX7_move 29 = .ok (.invokevirtual 52, 3) := by decide +kernel
theorem dX7_move_32 : decode cX7_move 32 = .ok (.goto 4, 3) := by decide +kernel
theorem dX7_move_35 : decode cX7_move 35 = .ok (.iconst 1, 1) := by decide +kernel
theorem dX7_move_36 : decode cX7_move 36 = .ok (.istore_n 3, 1) := by decide +kernel
theorem dX7_move_37 : decode cX7_move 37 = .ok (.aload_n 0, 1) := by decide +kernel
theorem dX7_move_38 : decode cX7_move 38 = .ok (.iload_n 1, 1) := by decide +kernel
theorem dX7_move_39 : decode cX7_move 39 = .ok (.bipush 6, 2) := by decide +kernel
theorem dX7_move_41 : decode cX7_move 41 = .ok (.invokevirtual 52, 3) := by decide +kernel
theorem dX7_move_44 : decode cX7_move 44 = .ok (.istore 4, 2) := by decide +kernel
theorem dX7_move_46 : decode cX7_move 46 = .ok (.aload_n 0, 1) := by decide +kernel
theorem dX7_move_47 : decode cX7_move 47 = .ok (.getfield 19, 3) := by decide +kernel
theorem dX7_move_50 : decode cX7_move 50 = .ok (.iload 4, 2) := by decide +kernel
theorem dX7_move_52 : decode cX7_move 52 = .ok (.iconst (-1), 1) := by decide +kernel
theorem dX7_move_53 : decode cX7_move 53 = .ok (.iastore, 1) := by decide +kernel
theorem dX7_move_54 : decode cX7_move 54 = .ok (.iload_n 3, 1) := by decide +kernel
theorem dX7_move_55 : decode cX7_move 55 = .ok (.ifCond .le 56, 3) := by decide +kernel
theorem dX7_move_58 : decode cX7_move 58 = .ok (.iload 4, 2) := by decide +kernel
theorem dX7_move_60 : decode cX7_move 60 = .ok (.iload_n 2, 1) := by decide +kernel
theorem dX7_move_61 : decode cX7_move 61 = .ok (.iadd, 1) := by decide +kernel
theorem dX7_move_62 : decode cX7_move 62 = .ok (.istore 5, 2) := by decide +kernel
theorem dX7_move_64 : decode cX7_move 64 = .ok (.iload 5, 2) := by decide +kernel
theorem dX7_move_66 : decode cX7_move 66 = .ok (.ifCond .lt 15, 3) := by decide +kernel
theorem dX7_move_69 : decode cX7_move 69 = .ok (.iload 5, 2) := by decide +kernel
theorem dX7_move_71 : decode cX7_move 71 = .ok (.aload_n 0, 1) := by decide +kernel
theorem dX7_move_72 : decode cX7_move 72 = .ok (.getfield 3, 3) := by decide +kernel
theorem dX7_move_75 : decode cX7_move 75 = .ok (.getfield 59, 3) := by decide +kernel
theorem dX7_move_78 : decode cX7_move 78 = .ok (.if_icmp .ne 9, 3) := by decide +kernel
theorem dX7_move_81 : decode cX7_move 81 = .ok (.aload_n 0, 1) := by decide +kernel
theorem dX7_move_82 : decode cX7_move 82 = .ok (.iload_n 1, 1) := by decide +kernel
theorem dX7_move_83 : decode cX7_move 83 = .ok (.invokevirtual 62, 3) := by decide +kernel
theorem dX7_move_86 : decode cX7_move 86 = .ok (.return_, 1) := by decide +kernel
theorem dX7_move_87 : decode cX7_move 87 = .ok (.aload_n 0, 1) := by decide +kernel
theorem dX7_move_88 : decode cX7_move 88 = .ok (.getfield 19, 3) := by decide +kernel
theorem dX7_move_91 : decode cX7_move 91 = .ok (.iload 5, 2) := by decide +kernel
theorem dX7_move_93 : decode cX7_move 93 = .ok (.iaload, 1) := by decide +kernel
theorem dX7_move_94 : decode cX7_move 94 = .ok (.iconst (-1), 1) := by decide +kernel
theorem dX7_move_95 : decode cX7_move 95 = .ok (.if_icmp .eq 6, 3) := by decide +kernel
theorem dX7_move_98 : decode cX7_move 98 = .ok (.goto 13, 3) := by decide +kernel
theorem dX7_move_101 : decode cX7_move 101 = .ok (.iload 5, 2) := by decide +kernel
theorem dX7_move_103 : decode cX7_move 103 = .ok (.istore 4, 2) := by decide +kernel
theorem dX7_move_105 : decode cX7_move 105 = .ok (.iinc 3 (-1), 3) := by decide +kernel
theorem dX7_move_108 : decode cX7_move 108 = .ok (.goto (-54), 3) := by decide +kernel
theorem dX7_move_111 : decode cX7_move 111 = .ok (.aload_n 0, 1) := by decide +kernel
theorem dX7_move_112 : decode cX7_move 112 = .ok (.getfield 19, 3) := by decide +kernel
theorem dX7_move_115 : decode cX7_move 115 = .ok (.iload 4, 2) := by decide +kernel
theorem dX7_move_117 : decode cX7_move 117 = .ok (.iload_n 1, 1) := by decide +kernel
theorem dX7_move_118 : decode cX7_move 118 = .ok (.iastore, 1) := by decide +kernel
theorem dX7_move_119 : decode cX7_move 119 = .ok (.aload_n 0, 1) := by decide +kernel
theorem dX7_move_120 : decode cX7_move 120 = .ok (.iload_n 1, 1) := by decide +kernel
theorem dX7_move_121 : decode cX7_move 121 = .ok (.bipush 6, 2) := by decide +kernel
theorem dX7_move_123 : decode cX7_move 123 = .ok (.iload 4, 2) := by decide +kernel
theorem dX7_move_125 : decode cX7_move 125 = .ok (.invokevirtual 48, 3) := by decide +kernel
theorem dX7_move_128 : decode cX7_move 128 = .ok (.return_, 1) := by decide +kernel
theorem dX7_weight_0 : decode cX7_weight 0 = .ok (.iconst 0, 1) := by decide +kernel
theorem dX7_weight_1 : decode cX7_weight 1 = .ok (.istore_n 1, 1) := by decide +kernel
theorem dX7_weight_2 : decode cX7_weight 2 = .ok (.iconst 0, 1) := by decide +kernel
theorem dX7_weight_3 : decode cX7_weight 3 = .ok (.istore_n 2, 1) := by decide +kernel
theorem dX7_weight_4 : decode cX7_weight 4 = .ok (.iload_n 2, 1) := by decide +kernel
theorem dX7_weight_5 : decode cX7_weight 5 = .ok (.aload_n 0, 1) := by decide +kernel
theorem dX7_weight_6 : decode cX7_weight 6 = .ok (.getfield 3, 3) := by decide +kernel
theorem dX7_weight_9 : decode cX7_weight 9 = .ok (.getfield 59, 3) := by decide +kernel
theorem dX7_weight_12 : decode cX7_weight 12 = .ok (.if_icmp .ge 33, 3) := by decide +kernel
theorem dX7_weight_15 : decode cX7_weight 15 = .ok (.aload_n 0, 1) := by decide +kernel
theorem dX7_weight_16 : decode cX7_weight 16 = .ok (.getfield 19, 3) := by decide +kernel
theorem dX7_weight_19 : decode cX7_weight 19 = .ok (.iload_n 2, 1) := by decide +kernel
theorem dX7_weight_20 : decode cX7_weight 20 = .ok (.iaload, 1) := by decide +kernel
theorem dX7_weight_21 : decode cX7_weight 21 = .ok (.iconst (-1), 1) := by decide +kernel
theorem dX7_weight_22 : decode cX7_weight 22 = .ok (.if_icmp .eq 17, 3) := by decide +kernel
theorem dX7_weight_25 : decode cX7_weight 25 = .ok (.iload_n 1, 1) := by decide +kernel
theorem dX7_weight_26 : decode cX7_weight 26 = .ok (.aload_n 0, 1) := by decide +kernel
theorem dX7_weight_27 : decode cX7_weight 27 = .ok (.aload_n 0, 1) := by decide +kernel
theorem dX7_weight_28 : decode cX7_weight 28 = .ok (.getfield 19, 3) := by decide +kernel
theorem dX7_weight_31 : decode cX7_weight 31 = .ok (.iload_n 2, 1) := by decide +kernel
theorem dX7_weight_32 : decode cX7_weight 32 = .ok (.iaload, 1) := by decide +kernel
theorem dX7_weight_33 : decode cX7_weight 33 = .ok (.iconst 1, 1) := by decide +kernel
theorem dX7_weight_34 : decode cX7_weight 34 = .ok (.invokevirtual 52, 3) := by decide +kernel
theorem dX7_weight_37 : decode cX7_weight 37 = .ok (.iadd, 1) := by decide +kernel
theorem dX7_weight_38 : decode cX7_weight 38 = .ok (.istore_n 1, 1) := by decide +kernel
theorem dX7_weight_39 : decode cX7_weight 39 = .ok (.iinc 2 1, 3) := by decide +kernel
theorem dX7_weight_42 : decode cX7_weight 42 = .ok (.goto (-38), 3) := by decide +kernel
theorem dX7_weight_45 : decode cX7_weight 45 = .ok (.iload_n 1, 1) := by decide +kernel
theorem dX7_weight_46 : decode cX7_weight 46 = .ok (.ireturn, 1) := by decide +kernel
theorem dX7_isBack_0 : decode cX7_isBack 0 = .ok (.iconst 0, 1) := by decide +kernel
theorem dX7_isBack_1 : decode cX7_isBack 1 = .ok (.istore_n 1, 1) := by decide +kernel
theorem dX7_isBack_2 : decode cX7_isBack 2 = .ok (.iconst 0, 1) := by decide +kernel
theorem dX7_isBack_3 : decode cX7_isBack 3 = .ok (.istore_n 2, 1) := by decide +kernel
theorem dX7_isBack_4 : decode cX7_isBack 4 = .ok (.iload_n 2, 1) := by decide +kernel
theorem dX7_isBack_5 : decode cX7_isBack 5 = .ok (.aload_n 0, 1) := by decide +kernel
theorem dX7_isBack_6 : decode cX7_isBack 6 = .ok (.getfield 3, 3) := by decide +kernel
theorem dX7_isBack_9 : decode cX7_isBack 9 = .ok (.getfield 59, 3) := by decide +kernel
theorem dX7_isBack_12 : decode cX7_isBack 12 = .ok (.if_icmp .ge 45, 3) := by decide +kernel
theorem dX7_isBack_15 : decode cX7_isBack 15 = .ok (.iload_n 1, 1) := by decide +kernel
theorem dX7_isBack_16 : decode cX7_isBack 16 = .ok (.aload_n 0, 1) := by decide +kernel
theorem dX7_isBack_17 : decode cX7_isBack 17 = .ok (.getfield 19, 3) := by decide +kernel
theorem dX7_isBack_20 : decode cX7_isBack 20 = .ok (.iload_n 2, 1) := by decide +kernel
theorem dX7_isBack_21 : decode cX7_isBack 21 = .ok (.iaload, 1) := by decide +kernel
theorem dX7_isBack_22 : decode cX7_isBack 22 = .ok (.iconst (-1), 1) := by decide +kernel
theorem dX7_isBack_23 : decode cX7_isBack 23 = .ok (.if_icmp .eq 25, 3) := by decide +kernel
theorem dX7_isBack_26 : decode cX7_isBack 26 = .ok (.aload_n 0, 1) := by decide +kernel
theorem dX7_isBack_27 : decode cX7_isBack 27 = .ok (.aload_n 0, 1) := by decide +kernel
theorem dX7_isBack_28 : decode cX7_isBack 28 = .ok (.getfield 19, 3) := by decide +kernel
theorem dX7_isBack_31 : decode cX7_isBack 31 = .ok (.iload_n 2, 1) := by decide +kernel
theorem dX7_isBack_32 : decode cX7_isBack 32 = .ok (.iaload, 1) := by decide +kernel
theorem dX7_isBack_33 : decode cX7_isBack 33 = .ok (.iconst 4, 1) := by decide +kernel
theorem dX7_isBack_34 : decode cX7_isBack 34 = .ok (.invokevirtual 52, 3) := by decide +kernel
theorem dX7_isBack_37 : decode cX7_isBack 37 = .ok (.aload_n 0, 1) := by decide +kernel
theorem dX7_isBack_38 : decode cX7_isBack 38 = .ok (.getfield 38, 3) := by decide +kernel
theorem dX7_isBack_41 : decode cX7_isBack 41 = .ok (.if_icmp .eq 7, 3) := by decide +kernel
theorem dX7_isBack_44 : decode cX7_isBack 44 = .ok (.iconst 1, 1) := by decide +kernel
theorem dX7_isBack_45 : decode cX7_isBack 45 = .ok (.goto 4, 3) := by decide +kernel
theorem dX7_isBack_48 : decode cX7_isBack 48 = .ok (.iconst 0, 1) := by decide +kernel
theorem dX7_isBack_49 : decode cX7_isBack 49 = .ok (.ior, 1) := by decide +kernel
theorem dX7_isBack_50 : decode cX7_isBack 50 = .ok (.istore_n 1, 1) := by decide +kernel
theorem dX7_isBack_51 : decode cX7_isBack 51 = .ok (.iinc 2 1, 3) := by decide +kernel
theorem dX7_isBack_54 : decode cX7_isBack 54 = .ok (.goto (-50), 3) := by decide +kernel
theorem dX7_isBack_57 : decode cX7_isBack 57 = .ok (.iload_n 1, 1) := by decide +kernel
theorem dX7_isBack_58 : decode cX7_isBack 58 = .ok (.ireturn, 1) := by decide +kernel
theorem dX7_comeOn_0 : decode cX7_comeOn 0 = .ok (.aload_n 0, 1) := by decide +kernel
theorem dX7_comeOn_1 : decode cX7_comeOn 1 = .ok (.getfield 38, 3) := by decide +kernel
theorem dX7_comeOn_4 : decode cX7_comeOn 4 = .ok (.ifCond .ne 7, 3) := by decide +kernel
theorem dX7_comeOn_7 : decode cX7_comeOn 7 = .ok (.iconst 0, 1) := by decide +kernel
theorem dX7_comeOn_8 : decode cX7_comeOn 8 = .ok (.goto 12, 3) := by decide +kernel
theorem dX7_comeOn_11 : decode cX7_comeOn 11 = .ok (.aload_n 0, 1) := by decide +kernel
theorem dX7_comeOn_12 : decode cX7_comeOn 12 = .ok (.getfield 3, 3) := by decide +kernel
theorem dX7_comeOn_15 : decode cX7_comeOn 15 = .ok (.getfield 59, 3) := by decide +kernel
theorem dX7_comeOn_18 : decode cX7_comeOn 18 = .ok (.iconst 1, 1) := by decide +kernel
theorem dX7_comeOn_19 : decode cX7_comeOn 19 = .ok (.isub, 1) := by decide +kernel
theorem dX7_comeOn_20 : decode cX7_comeOn 20 = .ok (.istore_n 1, 1) := by decide +kernel
theorem dX7_comeOn_21 : decode cX7_comeOn 21 = .ok (.aload_n 0, 1) := by decide +kernel
theorem dX7_comeOn_22 : decode cX7_comeOn 22 = .ok (.getfield 25, 3) := by decide +kernel
theorem dX7_comeOn_25 : decode cX7_comeOn 25 = .ok (.iconst 5, 1) := by decide +kernel
theorem dX7_comeOn_26 : decode cX7_comeOn 26 = .ok (.aload_n 0, 1) := by decide +kernel
theorem dX7_comeOn_27 : decode cX7_comeOn 27 = .ok (.getfield 38, 3) := by decide +kernel
theorem dX7_comeOn_30 : decode cX7_comeOn 30 = .ok (.imul, 1) := by decide +kernel
theorem dX7_comeOn_31 : decode cX7_comeOn 31 = .ok (.iconst 3, 1) := by decide +kernel
theorem dX7_comeOn_32 : decode cX7_comeOn 32 = .ok (.iadd, 1) := by decide +kernel
theorem dX7_comeOn_33 : decode cX7_comeOn 33 = .ok (.iaload, 1) := by decide +kernel
theorem dX7_comeOn_34 : decode cX7_comeOn 34 = .ok (.ifCond .eq 20, 3) := by decide +kernel
theorem dX7_comeOn_37 : decode cX7_comeOn 37 = .ok (.aload_n 0, 1) := by decide +kernel
theorem dX7_comeOn_38 : decode cX7_comeOn 38 = .ok (.getfield 19, 3) := by decide +kernel
theorem dX7_comeOn_41 : decode cX7_comeOn 41 = .ok (.iload_n 1, 1) := by decide +kernel
theorem dX7_comeOn_42 : decode cX7_comeOn 42 = .ok (.iaload, 1) := by decide +kernel
theorem dX7_comeOn_43 : decode cX7_comeOn 43 = .ok (.iconst (-1), 1) := by decide +kernel
theorem dX7_comeOn_44 : decode cX7_comeOn 44 = .ok (.if_icmp .ne 10, 3) := by decide +kernel
theorem dX7_comeOn_47 : decode cX7_comeOn 47 = .ok (.aload_n 0, 1) := by decide +kernel
theorem dX7_comeOn_48 : decode cX7_comeOn 48 = .ok (.invokevirtual 66, 3) := by decide +kernel
theorem dX7_comeOn_51 : decode cX7_comeOn 51 = .ok (.ifCond .eq 4, 3) := by decide +kernel
theorem dX7_comeOn_54 : decode cX7_comeOn 54 = .ok (.return_, 1) := by decide +kernel
theorem dX7_comeOn_55 : decode cX7_comeOn 55 = .ok (.aload_n 0, 1) := by decide +kernel
theorem dX7_comeOn_56 : decode cX7_comeOn 56 = .ok (.getfield 22, 3) := by decide +kernel
theorem dX7_comeOn_59 : decode cX7_comeOn 59 = .ok (.bipush 16, 2) := by decide +kernel
theorem dX7_comeOn_61 : decode cX7_comeOn 61 = .ok (.aload_n 0, 1) := by decide +kernel
theorem dX7_comeOn_62 : decode cX7_comeOn 62 = .ok (.getfield 38, 3) := by decide +kernel
theorem dX7_comeOn_65 : decode cX7_comeOn 65 = .ok (.imul, 1) := by decide +kernel
theorem dX7_comeOn_66 : decode cX7_comeOn 66 = .ok (.iaload, 1) := by decide +kernel
theorem dX7_comeOn_67 : decode cX7_comeOn 67 = .ok (.istore_n 2, 1) := by decide +kernel
theorem dX7_comeOn_68 : decode cX7_comeOn 68 = .ok (.aload_n 0, 1) := by decide +kernel
theorem dX7_comeOn_69 : decode cX7_comeOn 69 = .ok (.invokevirtual 70, 3) := by decide +kernel
theorem dX7_comeOn_72 : decode cX7_comeOn 72 = .ok (.aload_n 0, 1) := by decide +kernel
theorem dX7_comeOn_73 : decode cX7_comeOn 73 = .ok (.iload_n 2, 1) := by decide +kernel
theorem dX7_comeOn_74 : decode cX7_comeOn 74 = .ok (.iconst 1, 1) := by decide +kernel
theorem dX7_comeOn_75 : decode cX7_comeOn 75 = .ok (.invokevirtual 52, 3) := by decide +kernel
theorem dX7_comeOn_78 : decode cX7_comeOn 78 = .ok (.iadd, 1) := by decide +kernel
theorem dX7_comeOn_79 : decode cX7_comeOn 79 = .ok (.aload_n 0, 1) := by decide +kernel
theorem dX7_comeOn_80 : decode cX7_comeOn 80 = .ok (.getfield 3, 3) := by decide +kernel
theorem dX7_comeOn_83 : decode cX7_comeOn 83 = .ok (.getfield 74, 3) := by decide +kernel
theorem dX7_comeOn_86 : decode cX7_comeOn 86 = .ok (.if_icmp .le 4, 3) := by decide +kernel
theorem dX7_comeOn_89 : decode cX7_comeOn 89 = .ok (.return_, 1) := by decide +kernel
theorem dX7_comeOn_90 : decode cX7_comeOn 90 = .ok (.aload_n 0, 1) := by decide +kernel
theorem dX7_comeOn_91 : decode cX7_comeOn 91 = .ok (.aload_n 0, 1) := by decide +kernel
theorem dX7_comeOn_92 : decode cX7_comeOn 92 = .ok (.getfield 38, 3) := by decide +kernel
theorem dX7_comeOn_95 : decode cX7_comeOn 95 = .ok (.invokevirtual 77, 3) := by decide +kernel
theorem dX7_comeOn_98 : decode cX7_comeOn 98 = .ok (.pop, 1) := by decide +kernel
theorem dX7_comeOn_99 : decode cX7_comeOn 99 = .ok (.aload_n 0, 1) := by decide +kernel
theorem dX7_comeOn_100 : decode cX7_comeOn 100 = .ok (.iload_n 2, 1) := by decide +kernel
theorem dX7_comeOn_101 : decode cX7_comeOn 101 = .ok (.bipush 9, 2) := by decide +kernel
theorem dX7_comeOn_103 : decode cX7_comeOn 103 = .ok (.invokevirtual 52, 3) := by decide +kernel
theorem dX7_comeOn_106 : decode cX7_comeOn 106 = .ok (.ifCond .ne 183, 3) := by decide +kernel
theorem dX7_comeOn_109 : decode cX7_comeOn 109 = .ok (.aload_n 0, 1) := by decide +kernel
theorem dX7_comeOn_110 : decode cX7_comeOn 110 = .ok (.iload_n 2, 1) := by decide +kernel
theorem dX7_comeOn_111 : decode cX7_comeOn 111 = .ok (.iconst 0, 1) := by decide +kernel
theorem dX7_comeOn_112 : decode cX7_comeOn 112 = .ok (.invokevirtual 52, 3) := by decide +kernel
theorem dX7_comeOn_115 : decode cX7_comeOn 115 = .ok (.aload_n 0, 1) := by decide +kernel
theorem dX7_comeOn_116 : decode cX7_comeOn 116 = .ok (.getfield 3, 3) := by decide +kernel
theorem dX7_comeOn_119 : decode cX7_comeOn 119 = .ok (.getfield 81, 3) := by decide +kernel
theorem dX7_comeOn_122 : decode cX7_comeOn 122 = .ok (.imul, 1) := by decide +kernel
theorem dX7_comeOn_123 : decode cX7_comeOn 123 = .ok (.aload_n 0, 1) := by decide +kernel
theorem dX7_comeOn_124 : decode cX7_comeOn 124 = .ok (.iload_n 2, 1) := by decide +kernel
theorem dX7_comeOn_125 : decode cX7_comeOn 125 = .ok (.iconst 1, 1) := by decide +kernel
theorem dX7_comeOn_126 : decode cX7_comeOn 126 = .ok (.invokevirtual 52, 3) := by decide +kernel
theorem dX7_comeOn_129 : decode cX7_comeOn 129 = .ok (.bipush 10, 2) := by decide +kernel
theorem dX7_comeOn_131 : decode cX7_comeOn 131 = .ok (.idiv, 1) := by decide +kernel
theorem dX7_comeOn_132 : decode cX7_comeOn 132 = .ok (.aload_n 0, 1) := by decide +kernel
theorem dX7_comeOn_133 : decode cX7_comeOn 133 = .ok (.getfield 3, 3) := by decide +kernel
theorem dX7_comeOn_136 : decode cX7_comeOn 136 = .ok (.getfield 84, 3) := by decide +kernel
theorem dX7_comeOn_139 : decode cX7_comeOn 139 = .ok (.imul, 1) := by decide +kernel
theorem dX7_comeOn_140 : decode cX7_comeOn 140 = .ok (.iadd, 1) := by decide +kernel
theorem dX7_comeOn_141 : decode cX7_comeOn 141 = .ok (.istore_n 3, 1) := by decide +kernel
theorem dX7_comeOn_142 : decode cX7_comeOn 142 = .ok (.aload_n 0, 1) := by decide +kernel
theorem dX7_comeOn_143 : decode cX7_comeOn 143 = .ok (.iload_n 2, 1) := by decide +kernel
theorem dX7_comeOn_144 : decode cX7_comeOn 144 = .ok (.bipush 7, 2) := by decide +kernel
theorem dX7_comeOn_146 : decode cX7_comeOn 146 = .ok (.invokevirtual 52, 3) := by decide +kernel
theorem dX7_comeOn_149 : decode cX7_comeOn 149 = .ok (.aload_n 0, 1) := by decide +kernel
theorem dX7_comeOn_150 : decode cX7_comeOn 150 = .ok (.iload_n 2, 1) := by decide +kernel
theorem dX7_comeOn_151 : decode cX7_comeOn 151 = .ok (.iconst 0, 1) := by decide +kernel
theorem dX7_comeOn_152 : decode cX7_comeOn 152 = .ok (.invokevirtual 52, 3) := by decide +kernel
theorem dX7_comeOn_155 : decode cX7_comeOn 155 = .ok (.iconst 1, 1) := by decide +kernel
theorem dX7_comeOn_156 : decode cX7_comeOn 156 = .ok (.isub, 1) := by decide +kernel
theorem dX7_comeOn_157 : decode cX7_comeOn 157 = .ok (.imul, 1) := by decide +kernel
theorem dX7_comeOn_158 : decode cX7_comeOn 158 = .ok (.aload_n 0, 1) := by decide +kernel
theorem dX7_comeOn_159 : decode cX7_comeOn 159 = .ok (.getfield 3, 3) := by decide +kernel
theorem dX7_comeOn_162 : decode cX7_comeOn 162 = .ok (.getfield 81, 3) := by decide +kernel
theorem dX7_comeOn_165 : decode cX7_comeOn 165 = .ok (.imul, 1) := by decide +kernel
theorem dX7_comeOn_166 : decode cX7_comeOn 166 = .ok (.istore 4, 2) := by decide +kernel
theorem dX7_comeOn_168 : decode cX7_comeOn 168 = .ok (.iload_n 3, 1) := by decide +kernel
theorem dX7_comeOn_169 : decode cX7_comeOn 169 = .ok (.iload 4, 2) := by decide +kernel
theorem dX7_comeOn_171 : decode cX7_comeOn 171 = .ok (.isub, 1) := by decide +kernel
theorem dX7_comeOn_172 : decode cX7_comeOn 172 = .ok (.aload_n 0, 1) := by decide +kernel
theorem dX7_comeOn_173 : decode cX7_comeOn 173 = .ok (.iload_n 2, 1) := by decide +kernel
theorem dX7_comeOn_174 : decode cX7_comeOn 174 = .ok (.iconst 3, 1) := by decide +kernel
theorem dX7_comeOn_175 : decode cX7_comeOn 175 = .ok (.invokevirtual 52, 3) := by decide +kernel
theorem dX7_comeOn_178 : decode cX7_comeOn 178 = .ok (.if_icmp .le 11, 3) := by decide +kernel
theorem dX7_comeOn_181 : decode cX7_comeOn 181 = .ok (.aload_n 0, 1) := by decide +kernel
theorem dX7_comeOn_182 : decode cX7_comeOn 182 = .ok (.iload_n 2, 1) := by decide +kernel
theorem dX7_comeOn_183 : decode cX7_comeOn 183 = .ok (.iconst 5, 1) := by decide +kernel
theorem dX7_comeOn_184 : decode cX7_comeOn 184 = .ok (.iconst 3, 1) := by decide +kernel
theorem dX7_comeOn_185 : decode cX7_comeOn 185 = .ok (.invokevirtual 48, 3) := by decide +kernel
theorem dX7_comeOn_188 : decode cX7_comeOn 188 = .ok (.return_, 1) := by decide +kernel
theorem dX7_comeOn_189 : decode cX7_comeOn 189 = .ok (.aload_n 0, 1) := by decide +kernel
theorem dX7_comeOn_190 : decode cX7_comeOn 190 = .ok (.iload_n 2, 1) := by decide +kernel
theorem dX7_comeOn_191 : decode cX7_comeOn 191 = .ok (.iconst 3, 1) := by decide +kernel
theorem dX7_comeOn_192 : decode cX7_comeOn 192 = .ok (.aload_n 0, 1) := by decide +kernel
theorem dX7_comeOn_193 : decode cX7_comeOn 193 = .ok (.iload_n 2, 1) := by decide +kernel
theorem dX7_comeOn_194 : decode cX7_comeOn 194 = .ok (.iconst 3, 1) := by decide +kernel
theorem dX7_comeOn_195 : decode cX7_comeOn 195 = .ok (.invokevirtual 52, 3) := by decide +kernel
theorem dX7_comeOn_198 : decode cX7_comeOn 198 = .ok (.iload_n 3, 1) := by decide +kernel
theorem dX7_comeOn_199 : decode cX7_comeOn 199 = .ok (.isub, 1) := by decide +kernel
theorem dX7_comeOn_200 : decode cX7_comeOn 200 = .ok (.iload 4, 2) := by decide +kernel
theorem dX7_comeOn_202 : decode cX7_comeOn 202 = .ok (.iadd, 1) := by decide +kernel
theorem dX7_comeOn_203 : decode cX7_comeOn 203 = .ok (.invokevirtual 48, 3) := by decide +kernel
theorem dX7_comeOn_206 : decode cX7_comeOn 206 = .ok (.aload_n 0, 1) := by decide +kernel
theorem dX7_comeOn_207 : decode cX7_comeOn 207 = .ok (.iload_n 2, 1) := by decide +kernel
theorem dX7_comeOn_208 : decode cX7_comeOn 208 = .ok (.bipush 9, 2) := by decide +kernel
theorem dX7_comeOn_210 : decode cX7_comeOn 210 = .ok (.iconst 1, 1) := by decide +kernel
theorem dX7_comeOn_211 : decode cX7_comeOn 211 = .ok (.invokevirtual 48, 3) := by decide +kernel
theorem dX7_comeOn_214 : decode cX7_comeOn 214 = .ok (.aload_n 0, 1) := by decide +kernel
theorem dX7_comeOn_215 : decode cX7_comeOn 215 = .ok (.getfield 25, 3) := by decide +kernel
theorem dX7_comeOn_218 : decode cX7_comeOn 218 = .ok (.iconst 5, 1) := by decide +kernel
theorem dX7_comeOn_219 : decode cX7_comeOn 219 = .ok (.aload_n 0, 1) := by decide +kernel
theorem dX7_comeOn_220 : decode cX7_comeOn 220 = .ok (.getfield 38, 3) := by decide +kernel
theorem dX7_comeOn_223 : decode cX7_comeOn 223 = .ok (.imul, 1) := by decide +kernel
theorem dX7_comeOn_224 : decode cX7_comeOn 224 = .ok (.dup2, 1) := by decide +kernel
theorem dX7_comeOn_225 : decode cX7_comeOn 225 = .ok (.iaload, 1) := by decide +kernel
theorem dX7_comeOn_226 : decode cX7_comeOn 226 = .ok (.iload_n 3, 1) := by decide +kernel
theorem dX7_comeOn_227 : decode cX7_comeOn 227 = .ok (.iload 4, 2) := by decide +kernel
theorem dX7_comeOn_229 : decode cX7_comeOn 229 = .ok (.isub, 1) := by decide +kernel
theorem dX7_comeOn_230 : decode cX7_comeOn 230 = .ok (.iadd, 1) := by decide +kernel
theorem dX7_comeOn_231 : decode cX7_comeOn 231 = .ok (.iastore, 1) := by decide +kernel
theorem dX7_comeOn_232 : decode cX7_comeOn 232 = .ok (.aload_n 0, 1) := by decide +kernel
theorem dX7_comeOn_233 : decode cX7_comeOn 233 = .ok (.getfield 25, 3) := by decide +kernel
theorem dX7_comeOn_236 : decode cX7_comeOn 236 = .ok (.iconst 5, 1) := by decide +kernel
theorem dX7_comeOn_237 : decode cX7_comeOn 237 = .ok (.aload_n 0, 1) := by decide +kernel
theorem dX7_comeOn_238 : decode cX7_comeOn 238 = .ok (.getfield 38, 3) := by decide +kernel
theorem dX7_comeOn_241 : decode cX7_comeOn 241 = .ok (.imul, 1) := by decide +kernel
theorem dX7_comeOn_242 : decode cX7_comeOn 242 = .ok (.iconst 1, 1) := by decide +kernel
theorem dX7_comeOn_243 : decode cX7_comeOn 243 = .ok (.iadd, 1) := by decide +kernel
theorem dX7_comeOn_244 : decode cX7_comeOn 244 = .ok (.dup2, 1) := by decide +kernel
theorem dX7_comeOn_245 : decode cX7_comeOn 245 = .ok (.iaload, 1) := by decide +kernel
theorem dX7_comeOn_246 : decode cX7_comeOn 246 = .ok (.iconst 1, 1) := by decide +kernel
theorem dX7_comeOn_247 : decode cX7_comeOn 247 = .ok (.iadd, 1) := by decide +kernel
theorem dX7_comeOn_248 : decode cX7_comeOn 248 = .ok (.iastore, 1) := by decide +kernel
theorem dX7_comeOn_249 : decode cX7_comeOn 249 = .ok (.aload_n 0, 1) := by decide +kernel
theorem dX7_comeOn_250 : decode cX7_comeOn 250 = .ok (.getfield 25, 3) := by decide +kernel
theorem dX7_comeOn_253 : decode cX7_comeOn 253 = .ok (.iconst 5, 1) := by decide +kernel
theorem dX7_comeOn_254 : decode cX7_comeOn 254 = .ok (.aload_n 0, 1) := by decide +kernel
theorem dX7_comeOn_255 : decode cX7_comeOn 255 = .ok (.getfield 38, 3) := by decide +kernel
theorem dX7_comeOn_258 : decode cX7_comeOn 258 = .ok (.imul, 1) := by decide +kernel
theorem dX7_comeOn_259 : decode cX7_comeOn 259 = .ok (.iconst 2, 1) := by decide +kernel
theorem dX7_comeOn_260 : decode cX7_comeOn 260 = .ok (.iadd, 1) := by decide +kernel
theorem dX7_comeOn_261 : decode cX7_comeOn 261 = .ok (.dup2, 1) := by decide +kernel
theorem dX7_comeOn_262 : decode cX7_comeOn 262 = .ok (.iaload, 1) := by decide +kernel
theorem dX7_comeOn_263 : decode cX7_comeOn 263 = .ok (.aload_n 0, 1) := by decide +kernel
theorem dX7_comeOn_264 : decode cX7_comeOn 264 = .ok (.iload_n 2, 1) := by decide +kernel
theorem dX7_comeOn_265 : decode cX7_comeOn 265 = .ok (.iconst 0, 1) := by decide +kernel
theorem dX7_comeOn_266 : decode cX7_comeOn 266 = .ok (.invokevirtual 52, 3) := by decide +kernel
theorem dX7_comeOn_269 : decode cX7_comeOn 269 = .ok (.iadd, 1) := by decide +kernel
theorem dX7_comeOn_270 : decode cX7_comeOn 270 = .ok (.iastore, 1) := by decide +kernel
theorem dX7_comeOn_271 : decode cX7_comeOn 271 = .ok (.aload_n 0, 1) := by decide +kernel
theorem dX7_comeOn_272 : decode cX7_comeOn 272 = .ok (.getfield 25, 3) := by decide +kernel
theorem dX7_comeOn_275 : decode cX7_comeOn 275 = .ok (.iconst 5, 1) := by decide +kernel
theorem dX7_comeOn_276 : decode cX7_comeOn 276 = .ok (.aload_n 0, 1) := by decide +kernel
theorem dX7_comeOn_277 : decode cX7_comeOn 277 = .ok (.getfield 38, 3) := by decide +kernel
theorem dX7_comeOn_280 : decode cX7_comeOn 280 = .ok (.imul, 1) := by decide +kernel
theorem dX7_comeOn_281 : decode cX7_comeOn 281 = .ok (.iconst 4, 1) := by decide +kernel
theorem dX7_comeOn_282 : decode cX7_comeOn 282 = .ok (.iadd, 1) := by decide +kernel
theorem dX7_comeOn_283 : decode cX7_comeOn 283 = .ok (.dup2, 1) := by decide +kernel
theorem dX7_comeOn_284 : decode cX7_comeOn 284 = .ok (.iaload, 1) := by decide +kernel
theorem dX7_comeOn_285 : decode cX7_comeOn 285 = .ok (.iload 4, 2) := by decide +kernel
theorem dX7_comeOn_287 : decode cX7_comeOn 287 = .ok (.iadd, 1) := by decide +kernel
theorem dX7_comeOn_288 : decode cX7_comeOn 288 = .ok (.iastore, 1) := by decide +kernel
theorem dX7_comeOn_289 : decode cX7_comeOn 289 = .ok (.aload_n 0, 1) := by decide +kernel
theorem dX7_comeOn_290 : decode cX7_comeOn 290 = .ok (.getfield 19, 3) := by decide +kernel
theorem dX7_comeOn_293 : decode cX7_comeOn 293 = .ok (.iload_n 1, 1) := by decide +kernel
theorem dX7_comeOn_294 : decode cX7_comeOn 294 = .ok (.iload_n 2, 1) := by decide +kernel
theorem dX7_comeOn_295 : decode cX7_comeOn 295 = .ok (.iastore, 1) := by decide +kernel
theorem dX7_comeOn_296 : decode cX7_comeOn 296 = .ok (.aload_n 0, 1) := by decide +kernel
theorem dX7_comeOn_297 : decode cX7_comeOn 297 = .ok (.iload_n 2, 1) := by decide +kernel
theorem dX7_comeOn_298 : decode cX7_comeOn 298 = .ok (.iconst 5, 1) := by decide +kernel
theorem dX7_comeOn_299 : decode cX7_comeOn 299 = .ok (.iconst 1, 1) := by decide +kernel
theorem dX7_comeOn_300 : decode cX7_comeOn 300 = .ok (.invokevirtual 48, 3) := by decide +kernel
theorem dX7_comeOn_303 : decode cX7_comeOn 303 = .ok (.aload_n 0, 1) := by decide +kernel
theorem dX7_comeOn_304 : decode cX7_comeOn 304 = .ok (.iload_n 2, 1) := by decide +kernel
theorem dX7_comeOn_305 : decode cX7_comeOn 305 = .ok (.bipush 6, 2) := by decide +kernel
theorem dX7_comeOn_307 : decode cX7_comeOn 307 = .ok (.iload_n 1, 1) := by decide +kernel
theorem dX7_comeOn_308 : decode cX7_comeOn 308 = .ok (.invokevirtual 48, 3) := by decide +kernel
theorem dX7_comeOn_311 : decode cX7_comeOn 311 = .ok (.return_, 1) := by decide +kernel
theorem dX7_pass_0 : decode cX7_pass 0 = .ok (.aload_n 0, 1) := by decide +kernel
theorem dX7_pass_1 : decode cX7_pass 1 = .ok (.iconst 2, 1) := by decide +kernel
theorem dX7_pass_2 : decode cX7_pass 2 = .ok (.invokevirtual 87, 3) := by decide +kernel
theorem dX7_pass_5 : decode cX7_pass 5 = .ok (.istore_n 1, 1) := by decide +kernel
theorem dX7_pass_6 : decode cX7_pass 6 = .ok (.iconst 0, 1) := by decide +kernel
theorem dX7_pass_7 : decode cX7_pass 7 = .ok (.istore_n 2, 1) := by decide +kernel
theorem dX7_pass_8 : decode cX7_pass 8 = .ok (.iload_n 2, 1) := by decide +kernel
theorem dX7_pass_9 : decode cX7_pass 9 = .ok (.aload_n 0, 1) := by decide +kernel
theorem dX7_pass_10 : decode cX7_pass 10 = .ok (.getfield 3, 3) := by decide +kernel
theorem dX7_pass_13 : decode cX7_pass 13 = .ok (.getfield 59, 3) := by decide +kernel
theorem dX7_pass_16 : decode cX7_pass 16 = .ok (.if_icmp .ge 47, 3) := by decide +kernel
theorem dX7_pass_19 : decode cX7_pass 19 = .ok (.aload_n 0, 1) := by decide +kernel
theorem dX7_pass_20 : decode cX7_pass 20 = .ok (.getfield 19, 3) := by decide +kernel
theorem dX7_pass_23 : decode cX7_pass 23 = .ok (.aload_n 0, 1) := by decide +kernel
theorem dX7_pass_24 : decode cX7_pass 24 = .ok (.getfield 38, 3) := by decide +kernel
theorem dX7_pass_27 : decode cX7_pass 27 = .ok (.ifCond .ne 17, 3) := by decide +kernel
theorem dX7_pass_30 : decode cX7_pass 30 = .ok (.aload_n 0, 1) := by decide +kernel
theorem dX7_pass_31 : decode cX7_pass 31 = .ok (.getfield 3, 3) := by decide +kernel
theorem dX7_pass_34 : decode cX7_pass 34 = .ok (.getfield 59, 3) := by decide +kernel
theorem dX7_pass_37 : decode cX7_pass 37 = .ok (.iconst 1, 1) := by decide +kernel
theorem dX7_pass_38 : decode cX7_pass 38 = .ok (.isub, 1) := by decide +kernel
theorem dX7_pass_39 : decode cX7_pass 39 = .ok (.iload_n 2, 1) := by decide +kernel
theorem dX7_pass_40 : decode cX7_pass 40 = .ok (.isub, 1) := by decide +kernel
theorem dX7_pass_41 : decode cX7_pass 41 = .ok (.goto 4, 3) := by decide +kernel
theorem dX7_pass_44 : decode cX7_pass 44 = .ok (.iload_n 2, 1) := by decide +kernel
theorem dX7_pass_45 : decode cX7_pass 45 = .ok (.iaload, 1) := by decide +kernel
theorem dX7_pass_46 : decode cX7_pass 46 = .ok (.istore_n 3, 1) := by decide +kernel
theorem dX7_pass_47 : decode cX7_pass 47 = .ok (.iload_n 3, 1) := by decide +kernel
theorem dX7_pass_48 : decode cX7_pass 48 = .ok (.iconst (-1), 1) := by decide +kernel
theorem dX7_pass_49 : decode cX7_pass 49 = .ok (.if_icmp .eq 8, 3) := by decide +kernel
theorem dX7_pass_52 : decode cX7_pass 52 = .ok (.aload_n 0, 1) := by decide +kernel
theorem dX7_pass_53 : decode cX7_pass 53 = .ok (.iload_n 3, 1) := by decide +kernel
theorem dX7_pass_54 : decode cX7_pass 54 = .ok (.invokevirtual 90, 3) := by decide +kernel
theorem dX7_pass_57 : decode cX7_pass 57 = .ok (.iinc 2 1, 3) := by decide +kernel
theorem dX7_pass_60 : decode cX7_pass 60 = .ok (.goto (-52), 3) := by decide +kernel
theorem dX7_pass_63 : decode cX7_pass 63 = .ok (.aload_n 0, 1) := by decide +kernel
theorem dX7_pass_64 : decode cX7_pass 64 = .ok (.invokevirtual 93, 3) := by decide +kernel
theorem dX7_pass_67 : decode cX7_pass 67 = .ok (.aload_n 0, 1) := by decide +kernel
theorem dX7_pass_68 : decode cX7_pass 68 = .ok (.dup, 1) := by decide +kernel
theorem dX7_pass_69 : decode cX7_pass 69 = .ok (.getfield 34, 3) := by decide +kernel
theorem dX7_pass_72 : decode cX7_pass 72 = .ok (.iconst 1, 1) := by decide +kernel
theorem dX7_pass_73 : decode cX7_pass 73 = .ok (.iadd, 1) := by decide +kernel
theorem dX7_pass_74 : decode cX7_pass 74 = .ok (.putfield 34, 3) := by decide +kernel
theorem dX7_pass_77 : decode cX7_pass 77 = .ok (.aload_n 0, 1) := by decide +kernel
theorem dX7_pass_78 : decode cX7_pass 78 = .ok (.iconst 2, 1) := by decide +kernel
theorem dX7_pass_79 : decode cX7_pass 79 = .ok (.invokevirtual 87, 3) := by decide +kernel
theorem dX7_pass_82 : decode cX7_pass 82 = .ok (.iload_n 1, 1) := by decide +kernel
theorem dX7_pass_83 : decode cX7_pass 83 = .ok (.isub, 1) := by decide +kernel
theorem dX7_pass_84 : decode cX7_pass 84 = .ok (.ireturn, 1) := by decide +kernel
theorem dX7_how_0 : decode cX7_how 0 = .ok (.iconst 0, 1) := by decide +kernel
theorem dX7_how_1 : decode cX7_how 1 = .ok (.istore_n 2, 1) := by decide +kernel
theorem dX7_how_2 : decode cX7_how 2 = .ok (.iconst 0, 1) := by decide +kernel
theorem dX7_how_3 : decode cX7_how 3 = .ok (.istore_n 3, 1) := by decide +kernel
theorem dX7_how_4 : decode cX7_how 4 = .ok (.iload_n 3, 1) := by decide +kernel
theorem dX7_how_5 : decode cX7_how 5 = .ok (.aload_n 0, 1) := by decide +kernel
theorem dX7_how_6 : decode cX7_how 6 = .ok (.getfield 41, 3) := by decide +kernel
theorem dX7_how_9 : decode cX7_how 9 = .ok (.if_icmp .ge 27, 3) := by decide +kernel
theorem dX7_how_12 : decode cX7_how 12 = .ok (.iload_n 2, 1) := by decide +kernel
theorem dX7_how_13 : decode cX7_how 13 = .ok (.aload_n 0, 1) := by decide +kernel
theorem dX7_how_14 : decode cX7_how 14 = .ok (.iload_n 3, 1) := by decide +kernel
theorem dX7_how_15 : decode cX7_how 15 = .ok (.iconst 5, 1) := by decide +kernel
theorem dX7_how_16 : decode cX7_how 16 = .ok (.invokevirtual 52, 3) := by decide +kernel
theorem dX7_how_19 : decode cX7_how 19 = .ok (.iload_n 1, 1) := by decide +kernel
theorem dX7_how_20 : decode cX7_how 20 = .ok (.if_icmp .ne 7, 3) := by decide +kernel
theorem dX7_how_23 : decode cX7_how 23 = .ok (.iconst 1, 1) := by decide +kernel
theorem dX7_how_24 : decode cX7_how 24 = .ok (.goto 4, 3) := by decide +kernel
theorem dX7_how_27 : decode cX7_how 27 = .ok (.iconst 0, 1) := by decide +kernel
theorem dX7_how_28 : decode cX7_how 28 = .ok (.iadd, 1) := by decide +kernel
theorem dX7_how_29 : decode cX7_how 29 = .ok (.istore_n 2, 1) := by decide +kernel
theorem dX7_how_30 : decode cX7_how 30 = .ok (.iinc 3 1, 3) := by decide +kernel
theorem dX7_how_33 : decode cX7_how 33 = .ok (.goto (-29), 3) := by decide +kernel
theorem dX7_how_36 : decode cX7_how 36 = .ok (.iload_n 2, 1) := by decide +kernel
theorem dX7_how_37 : decode cX7_how 37 = .ok (.ireturn, 1) := by decide +kernel
theorem dX8_init_0 : decode cX8_init 0 = .ok (.aload_n 0, 1) := by decide +kernel
theorem dX8_init_1 : decode cX8_init 1 = .ok (.invokespecial 1, 3) := by decide +kernel
theorem dX8_init_4 : decode cX8_init 4 = .ok (.aload_n 0, 1) := by decide +kernel
theorem dX8_init_5 : decode cX8_init 5 = .ok (.bipush 8, 2) := by decide +kernel
theorem dX8_init_7 : decode cX8_init 7 = .ok (.newarray .int, 2) := by decide +kernel
theorem dX8_init_9 : decode cX8_init 9 = .ok (.putfield 9, 3) := by decide +kernel
theorem dX8_init_12 : decode cX8_init 12 = .ok (.aload_n 0, 1) := by decide +kernel
theorem dX8_init_13 : decode cX8_init 13 = .ok (.bipush 20, 2) := by decide +kernel
theorem dX8_init_15 : decode cX8_init 15 = .ok (.newarray .int, 2) := by decide +kernel
theorem dX8_init_17 : decode cX8_init 17 = .ok (.putfield 13, 3) := by decide +kernel
theorem dX8_init_20 : decode cX8_init 20 = .ok (.aload_n 0, 1) := by decide +kernel
theorem dX8_init_21 : decode cX8_init 21 = .ok (.bipush 10, 2) := by decide +kernel
theorem dX8_init_23 : decode cX8_init 23 = .ok (.putfield 16, 3) := by decide +kernel
theorem dX8_init_26 : decode cX8_init 26 = .ok (.aload_n 0, 1) := by decide +kernel
theorem dX8_init_27 : decode cX8_init 27 = .ok (.sipush 200, 3) := by decide +kernel
theorem dX8_init_30 : decode cX8_init 30 = .ok (.putfield 20, 3) := by decide +kernel
theorem dX8_init_33 : decode cX8_init 33 = .ok (.aload_n 0, 1) := by decide +kernel
theorem dX8_init_34 : decode cX8_init 34 = .ok (.iconst 1, 1) := by decide +kernel
theorem dX8_init_35 : decode cX8_init 35 = .ok (.putfield 23, 3) := by decide +kernel
theorem dX8_init_38 : decode cX8_init 38 = .ok (.aload_n 0, 1) := by decide +kernel
theorem dX8_init_39 : decode cX8_init 39 = .ok (.iconst 1, 1) := by decide +kernel
theorem dX8_init_40 : decode cX8_init 40 = .ok (.putfield 26, 3) := by decide +kernel
theorem dX8_init_43 : decode cX8_init 43 = .ok (.aload_n 0, 1) := by decide +kernel
theorem dX8_init_44 : decode cX8_init 44 = .ok (.new 29, 3) := by decide +kernel
theorem dX8_init_47 : decode cX8_init 47 = .ok (.dup, 1) := by decide +kernel
theorem dX8_init_48 : decode cX8_init 48 = .ok (.aload_n 0, 1) := by decide +kernel
theorem dX8_init_49 : decode cX8_init 49 = .ok (.invokespecial 31, 3) := by decide +kernel
theorem dX8_init_52 : decode cX8_init 52 = .ok (.putfield 34, 3) := by decide +kernel
theorem dX8_init_55 : decode cX8_init 55 = .ok (.aload_n 0, 1) := by decide +kernel
theorem dX8_init_56 : decode cX8_init 56 = .ok (.new 29, 3) := by decide +kernel
theorem dX8_init_59 : decode cX8_init 59 = .ok (.dup, 1) := by decide +kernel
theorem dX8_init_60 : decode cX8_init 60 = .ok (.aload_n 0, 1) := by decide +kernel
theorem dX8_init_61 : decode cX8_init 61 = .ok (.invokespecial 31, 3) := by decide +kernel
theorem dX8_init_64 : decode cX8_init 64 = .ok (.putfield 38, 3) := by decide +kernel
theorem dX8_init_67 : decode cX8_init 67 = .ok (.return_, 1) := by decide +kernel
theorem dX8_thrown_0 : decode cX8_thrown 0 = .ok (.aload_n 0, 1) := by decide +kernel
theorem dX8_thrown_1 : decode cX8_thrown 1 = .ok (.getfield 41, 3) := by decide +kernel
theorem dX8_thrown_4 : decode cX8_thrown 4 = .ok (.ireturn, 1) := by decide +kernel
theorem dX8_no_0 : decode cX8_no 0 = .ok (.aload_n 0, 1) := by decide +kernel
theorem dX8_no_1 : decode cX8_no 1 = .ok (.iload_n 1, 1) := by decide +kernel
theorem dX8_no_2 : decode cX8_no 2 = .ok (.putfield 41, 3) := by decide +kernel
theorem dX8_no_5 : decode cX8_no 5 = .ok (.iconst 0, 1) := by decide +kernel
theorem dX8_no_6 : decode cX8_no 6 = .ok (.ireturn, 1) := by decide +kernel
theorem dX8_isIn_0 : decode cX8_isIn 0 = .ok (.iload_n 0, 1) := by decide +kernel
theorem dX8_isIn_1 : decode cX8_isIn 1 = .ok (.iload_n 1, 1) := by decide +kernel
theorem dX8_isIn_2 : decode cX8_isIn 2 = .ok (.if_icmp .lt 12, 3) := by decide +kernel
theorem dX8_isIn_5 : decode cX8_isIn 5 = .ok (.iload_n 0, 1) := by decide +kernel
theorem dX8_isIn_6 : decode cX8_isIn 6 = .ok (.iload_n 2, 1) := by decide +kernel
theorem dX8_isIn_7 : decode cX8_isIn 7 = .ok (.if_icmp .gt 7, 3) := by decide +kernel
theorem dX8_isIn_10 : decode cX8_isIn 10 = .ok (.iconst 1, 1) := by decide +kernel
theorem dX8_isIn_11 : decode cX8_isIn 11 = .ok (.goto 4, 3) := by decide +kernel
theorem dX8_isIn_14 : decode cX8_isIn 14 = .ok (.iconst 0, 1) := by decide +kernel
theorem dX8_isIn_15 : decode cX8_isIn 15 = .ok (.ireturn, 1) := by decide +kernel
theorem dX8_length_0 : decode cX8_length 0 = .ok (.iconst 0, 1) := by decide +kernel
theorem dX8_length_1 : decode cX8_length 1 = .ok (.istore_n 1, 1) := by decide +kernel
theorem dX8_length_2 : decode cX8_length 2 = .ok (.iload_n 0, 1) := by decide +kernel
theorem dX8_length_3 : decode cX8_length 3 = .ok (.istore_n 2, 1) := by decide +kernel
theorem dX8_length_4 : decode cX8_length 4 = .ok (.iload_n 2, 1) := by decide +kernel
theorem dX8_length_5 : decode cX8_length 5 = .ok (.ifCond .le 14, 3) := by decide +kernel
theorem dX8_length_8 : decode cX8_length 8 = .ok (.iinc 1 1, 3) := by decide +kernel
theorem dX8_length_11 : decode cX8_length 11 = .ok (.iload_n 2, 1) := by decide +kernel
theorem dX8_length_12 : decode cX8_length 12 = .ok (.bipush 10, 2) := by decide +kernel
theorem dX8_length_14 : decode cX8_length 14 = .ok (.idiv, 1) := by decide +kernel
theorem dX8_length_15 : decode cX8_length 15 = .ok (.istore_n 2, 1) := by decide +kernel
theorem dX8_length_16 : decode cX8_length 16 = .ok (.goto (-12), 3) := by decide +kernel
theorem dX8_length_19 : decode cX8_length 19 = .ok (.iload_n 1, 1) := by decide +kernel
theorem dX8_length_20 : decode cX8_length 20 = .ok (.ireturn, 1) := by decide +kernel
theorem dX8_isRow_0 : decode cX8_isRow 0 = .ok (.iload_n 0, 1) := by decide +kernel
theorem dX8_isRow_1 : decode cX8_isRow 1 = .ok (.ifCond .le 15, 3) := by decide +kernel
theorem dX8_isRow_4 : decode cX8_isRow 4 = .ok (.iload_n 0, 1) := by decide +kernel
theorem dX8_isRow_5 : decode cX8_isRow 5 = .ok (.invokestatic 44, 3) := by decide +kernel
theorem dX8_isRow_8 : decode cX8_isRow 8 = .ok (.iload_n 1, 1) := by decide +kernel
theorem dX8_isRow_9 : decode cX8_isRow 9 = .ok (.if_icmp .gt 7, 3) := by decide +kernel
theorem dX8_isRow_12 : decode cX8_isRow 12 = .ok (.iconst 1, 1) := by decide +kernel
theorem dX8_isRow_13 : decode cX8_isRow 13 = .ok (.goto 4, 3) := by decide +kernel
theorem dX8_isRow_16 : decode cX8_isRow 16 = .ok (.iconst 0, 1) := by decide +kernel
theorem dX8_isRow_17 : decode cX8_isRow 17 = .ok (.istore_n 2, 1) := by decide +kernel
theorem dX8_isRow_18 : decode cX8_isRow 18 = .ok (.iload_n 0, 1) := by decide +kernel
theorem dX8_isRow_19 : decode cX8_isRow 19 = .ok (.istore_n 3, 1) := by decide +kernel
theorem dX8_isRow_20 : decode cX8_isRow 20 = .ok (.iload_n 3, 1) := by decide +kernel
theorem dX8_isRow_21 : decode cX8_isRow 21 = .ok (.ifCond .le 25, 3) := by decide +kernel
theorem dX8_isRow_24 : decode cX8_isRow 24 = .ok (.iload_n 2, 1) := by decide +kernel
theorem dX8_isRow_25 : decode cX8_isRow 25 = .ok (.ifCond .eq 21, 3) := by decide +kernel
theorem dX8_isRow_28 : decode cX8_isRow 28 = .ok (.iload_n 3, 1) := by decide +kernel
theorem dX8_isRow_29 : decode cX8_isRow 29 = .ok (.bipush 10, 2) := by decide +kernel
theorem dX8_isRow_31 : decode cX8_isRow 31 = .ok (.irem, 1) := by decide +kernel
theorem dX8_isRow_32 : decode cX8_isRow 32 = .ok (.iconst 1, 1) := by decide +kernel
theorem dX8_isRow_33 : decode cX8_isRow 33 = .ok (.iconst 2, 1) := by decide +kernel
theorem dX8_isRow_34 : decode cX8_isRow 34 = .ok (.invokestatic 48, 3) := by decide +kernel
theorem dX8_isRow_37 : decode cX8_isRow 37 = .ok (.istore_n 2, 1) := by decide +kernel
theorem dX8_isRow_38 : decode cX8_isRow 38 = .ok (.iload_n 3, 1) := by decide +kernel
theorem dX8_isRow_39 : decode cX8_isRow 39 = .ok (.bipush 10, 2) := by decide +kernel
theorem dX8_isRow_41 : decode cX8_isRow 41 = .ok (.idiv, 1) := by decide +kernel
theorem dX8_isRow_42 : decode cX8_isRow 42 = .ok (.istore_n 3, 1) := by decide +kernel
theorem dX8_isRow_43 : decode cX8_isRow 43 = .ok (.goto (-23), 3) := by decide +kernel
theorem dX8_isRow_46 : decode cX8_isRow 46 = .ok (.iload_n 2, 1) := by decide +kernel
theorem dX8_isRow_47 : decode cX8_isRow 47 = .ok (.ireturn, 1) := by decide +kernel
theorem dX8_ten_0 : decode cX8_ten 0 = .ok (.iconst 1, 1) := by decide +kernel
theorem dX8_ten_1 : decode cX8_ten 1 = .ok (.istore_n 1, 1) := by decide +kernel
theorem dX8_ten_2 : decode cX8_ten 2 = .ok (.iconst 0, 1) := by decide +kernel
theorem dX8_ten_3 : decode cX8_ten 3 = .ok (.istore_n 2, 1) := by decide +kernel
theorem dX8_ten_4 : decode cX8_ten 4 = .ok (.iload_n 2, 1) := by decide +kernel
theorem dX8_ten_5 : decode cX8_ten 5 = .ok (.iload_n 0, 1) := by decide +kernel
theorem dX8_ten_6 : decode cX8_ten 6 = .ok (.if_icmp .ge 14, 3) := by decide +kernel
theorem dX8_ten_9 : decode cX8_ten 9 = .ok (.iload_n 1, 1) := by decide +kernel
theorem dX8_ten_10 : decode cX8_ten 10 = .ok (.bipush 10, 2) := by decide +kernel
theorem dX8_ten_12 : decode cX8_ten 12 = .ok (.imul, 1) := by decide +kernel
theorem dX8_ten_13 : decode cX8_ten 13 = .ok (.istore_n 1, 1) := by decide +kernel
theorem dX8_ten_14 : decode cX8_ten 14 = .ok (.iinc 2 1, 3) := by decide +kernel
theorem dX8_ten_17 : decode cX8_ten 17 = .ok (.goto (-13), 3) := by decide +kernel
theorem dX8_ten_20 : decode cX8_ten 20 = .ok (.iload_n 1, 1) := by decide +kernel
theorem dX8_ten_21 : decode cX8_ten 21 = .ok (.ireturn, 1) := by decide +kernel
theorem dX8_begins_0 : decode cX8_begins 0 = .ok (.iload_n 0, 1) := by decide +kernel
theorem dX8_begins_1 : decode cX8_begins 1 = .ok (.invokestatic 44, 3) := by decide +kernel
theorem dX8_begins_4 : decode cX8_begins 4 = .ok (.iload_n 1, 1) := by decide +kernel
theorem dX8_begins_5 : decode cX8_begins 5 = .ok (.invokestatic 44, 3) := by decide +kernel
theorem dX8_begins_8 : decode cX8_begins 8 = .ok (.isub, 1) := by decide +kernel
theorem dX8_begins_9 : decode cX8_begins 9 = .ok (.istore_n 2, 1) := by decide +kernel
theorem dX8_begins_10 : decode cX8_begins 10 = .ok (.iload_n 2, 1) := by decide +kernel
theorem dX8_begins_11 : decode cX8_begins 11 = .ok (.ifCond .lt 17, 3) := by decide +kernel
theorem dX8_begins_14 : decode cX8_begins 14 = .ok (.iload_n 0, 1) := by decide +kernel
theorem dX8_begins_15 : decode cX8_begins 15 = .ok (.iload_n 2, 1) := by decide +kernel
theorem dX8_begins_16 : decode cX8_begins 16 = .ok (.invokestatic 52, 3) := by decide +kernel
theorem dX8_begins_19 : decode cX8_begins 19 = .ok (.idiv, 1) := by decide +kernel
theorem dX8_begins_20 : decode cX8_begins 20 = .ok (.iload_n 1, 1) := by decide +kernel
theorem dX8_begins_21 : decode cX8_begins 21 = .ok (.if_icmp .ne 7, 3) := by decide +kernel
theorem dX8_begins_24 : decode cX8_begins 24 = .ok (.iconst 1, 1) := by decide +kernel
theorem dX8_begins_25 : decode cX8_begins 25 = .ok (.goto 4, 3) := by decide +kernel
theorem dX8_begins_28 : decode cX8_begins 28 = .ok (.iconst 0, 1) := by decide +kernel
theorem dX8_begins_29 : decode cX8_begins 29 = .ok (.ireturn, 1) := by decide +kernel
theorem dX8_addSignal_0 : decode cX8_addSignal 0 = .ok (.aload_n 0, 1) := by decide +kernel
theorem dX8_addSignal_1 : decode cX8_addSignal 1 = .ok (.iconst 0, 1) := by decide +kernel
theorem dX8_addSignal_2 : decode cX8_addSignal 2 = .ok (.putfield 41, 3) := by decide +kernel
theorem dX8_addSignal_5 : decode cX8_addSignal 5 = .ok (.iload_n 1, 1) := by decide +kernel
theorem dX8_addSignal_6 : decode cX8_addSignal 6 = .ok (.bipush 6, 2) := by decide +kernel
theorem dX8_addSignal_8 : decode cX8_addSignal 8 = .ok (.invokestatic 55, 3) := by decide +kernel
theorem dX8_addSignal_11 : decode cX8_addSignal 11 = .ok (.ifCond .ne 9, 3) := by decide +kernel
theorem dX8_addSignal_14 : decode cX8_addSignal 14 = .ok (.aload_n 0, 1) := by decide +kernel
theorem dX8_addSignal_15 : decode cX8_addSignal 15 = .ok (.iconst 1, 1) := by decide +kernel
theorem dX8_addSignal_16 : decode cX8_addSignal 16 = .ok (.invokevirtual 59, 3) := by decide +kernel
theorem dX8_addSignal_19 : decode cX8_addSignal 19 = .ok (.ireturn, 1) := by decide +kernel
theorem dX8_addSignal_20 : decode cX8_addSignal 20 = .ok (.iconst 0, 1) := by decide +kernel
theorem dX8_addSignal_21 : decode cX8_addSignal 21 = .ok (.istore_n 2, 1) := by decide +kernel
theorem dX8_addSignal_22 : decode cX8_addSignal 22 = .ok (.iload_n 2, 1) := by decide +kernel
theorem dX8_addSignal_23 : decode cX8_addSignal 23 = .ok (.aload_n 0, 1) := by decide +kernel
theorem dX8_addSignal_24 : decode cX8_addSignal 24 = .ok (.getfield 62, 3) := by decide +kernel
theorem dX8_addSignal_27 : decode cX8_addSignal 27 = .ok (.if_icmp .ge 41, 3) := by decide +kernel
theorem dX8_addSignal_30 : decode cX8_addSignal 30 = .ok (.iload_n 1, 1) := by decide +kernel
theorem dX8_addSignal_31 : decode cX8_addSignal 31 = .ok (.aload_n 0, 1) := by decide +kernel
theorem dX8_addSignal_32 : decode cX8_addSignal 32 = .ok (.getfield 9, 3) := by decide +kernel
theorem dX8_addSignal_35 : decode cX8_addSignal 35 = .ok (.iload_n 2, 1) := by decide +kernel
theorem dX8_addSignal_36 : decode cX8_addSignal 36 = .ok (.iaload, 1) := by decide +kernel
theorem dX8_addSignal_37 : decode cX8_addSignal 37 = .ok (.invokestatic 65, 3) := by decide +kernel
theorem dX8_addSignal_40 : decode cX8_addSignal 40 = .ok (.ifCond .ne 16, 3) := by decide +kernel
theorem dX8_addSignal_43 : decode cX8_addSignal 43 = .ok (.aload_n 0, 1) := by decide +kernel
theorem dX8_addSignal_44 : decode cX8_addSignal 44 = .ok (.getfield 9, 3) := by decide +kernel
theorem dX8_addSignal_47 : decode cX8_addSignal 47 = .ok (.iload_n 2, 1) := by decide +kernel
theorem dX8_addSignal_48 : decode cX8_addSignal 48 = .ok (.iaload, 1) := by decide +kernel
theorem dX8_addSignal_49 : decode cX8_addSignal 49 = .ok (.iload_n 1, 1) := by decide +kernel
theorem dX8_addSignal_50 : decode cX8_addSignal 50 = .ok (.invokestatic 65, 3) := by decide +kernel
theorem dX8_addSignal_53 : decode cX8_addSignal 53 = .ok (.ifCond .eq 9, 3) := by decide +kernel
theorem dX8_addSignal_56 : decode cX8_addSignal 56 = .ok (.aload_n 0, 1) := by decide +kernel
theorem dX8_addSignal_57 : decode cX8_addSignal 57 = .ok (.iconst 2, 1) := by decide +kernel
theorem dX8_addSignal_58 : decode cX8_addSignal 58 = .ok (.invokevirtual 59, 3) := by decide +kernel
theorem dX8_addSignal_61 : decode cX8_addSignal 61 = .ok (.ireturn, 1) := by decide +kernel
theorem dX8_addSignal_62 : decode cX8_addSignal 62 = .ok (.iinc 2 1, 3) := by decide +kernel
theorem dX8_addSignal_65 : decode cX8_addSignal 65 = .ok (.goto (-43), 3) := by decide +kernel
theorem dX8_addSignal_68 : decode cX8_addSignal 68 = .ok (.aload_n 0, 1) := by decide +kernel
theorem dX8_addSignal_69 : decode cX8_addSignal 69 = .ok (.getfield 62, 3) := by decide +kernel
theorem dX8_addSignal_72 : decode cX8_addSignal 72 = .ok (.bipush 8, 2) := by decide +kernel
theorem dX8_addSignal_74 : decode cX8_addSignal 74 = .ok (.if_icmp .ne 9, 3) := by decide +kernel
theorem dX8_addSignal_77 : decode cX8_addSignal 77 = .ok (.aload_n 0, 1) := by decide +kernel
theorem dX8_addSignal_78 : decode cX8_addSignal 78 = .ok (.iconst 2, 1) := by decide +kernel
theorem dX8_addSignal_79 : decode cX8_addSignal 79 = .ok (.invokevirtual 59, 3) := by decide +kernel
theorem dX8_addSignal_82 : decode cX8_addSignal 82 = .ok (.ireturn, 1) := by decide +kernel
theorem dX8_addSignal_83 : decode cX8_addSignal 83 = .ok (.aload_n 0, 1) := by decide +kernel
theorem dX8_addSignal_84 : decode cX8_addSignal 84 = .ok (.getfield 9, 3) := by decide +kernel
theorem dX8_addSignal_87 : decode cX8_addSignal 87 = .ok (.aload_n 0, 1) := by decide +kernel
theorem dX8_addSignal_88 : decode cX8_addSignal 88 = .ok (.getfield 62, 3) := by decide +kernel
theorem dX8_addSignal_91 : decode cX8_addSignal 91 = .ok (.iload_n 1, 1) := by decide +kernel
theorem dX8_addSignal_92 : decode cX8_addSignal 92 = .ok (.iastore, 1) := by decide +kernel
theorem dX8_addSignal_93 : decode cX8_addSignal 93 = .ok (.aload_n 0, 1) := by decide +kernel
theorem dX8_addSignal_94 : decode cX8_addSignal 94 = .ok (.dup, 1) := by decide +kernel
theorem dX8_addSignal_95 : decode cX8_addSignal 95 = .ok (.getfield 62, 3) := by decide +kernel
theorem dX8_addSignal_98 : decode cX8_addSignal 98 = .ok (.iconst 1, 1) := by decide +kernel
theorem dX8_addSignal_99 : decode cX8_addSignal 99 = .ok (.iadd, 1) := by decide +kernel
theorem dX8_addSignal_100 : decode cX8_addSignal 100 = .ok (.putfield 62, 3) := by decide +kernel
theorem dX8_addSignal_103 : decode cX8_addSignal 103 = .ok (.aload_n 0, 1) := by decide +kernel
theorem dX8_addSignal_104 : decode cX8_addSignal 104 = .ok (.getfield 62, 3) := by decide +kernel
theorem dX8_addSignal_107 : decode cX8_addSignal 107 = .ok (.iconst 1, 1) := by decide +kernel
theorem dX8_addSignal_108 : decode cX8_addSignal 108 = .ok (.isub, 1) := by decide +kernel
theorem dX8_addSignal_109 : decode cX8_addSignal 109 = .ok (.ireturn, 1) := by decide +kernel
theorem dX8_beginning_0 : decode cX8_beginning 0 = .ok (.iconst 0, 1) := by decide +kernel
theorem dX8_beginning_1 : decode cX8_beginning 1 = .ok (.istore_n 2, 1) := by decide +kernel
theorem dX8_beginning_2 : decode cX8_beginning 2 = .ok (.iload_n 2, 1) := by decide +kernel
theorem dX8_beginning_3 : decode cX8_beginning 3 = .ok (.aload_n 0, 1) := by decide +kernel
theorem dX8_beginning_4 : decode cX8_beginning 4 = .ok (.getfield 62, 3) := by decide +kernel
theorem dX8_beginning_7 : decode cX8_beginning 7 = .ok (.if_icmp .ge 28, 3) := by decide +kernel
theorem dX8_beginning_10 : decode cX8_beginning 10 = .ok (.iload_n 1, 1) := by decide +kernel
theorem dX8_beginning_11 : decode cX8_beginning 11 = .ok (.ifCond .le 18, 3) := by decide +kernel
theorem dX8_beginning_14 : decode cX8_beginning 14 = .ok (.iload_n 1, 1) := by decide +kernel
theorem dX8_beginning_15 : decode cX8_beginning 15 = .ok (.aload_n 0, 1) := by decide +kernel
theorem dX8_beginning_16 : decode cX8_beginning 16 = .ok (.getfield 9, 3) := by decide +kernel
theorem dX8_beginning_19 : decode cX8_beginning 19 = .ok (.iload_n 2, 1) := by decide +kernel
theorem dX8_beginning_20 : decode cX8_beginning 20 = .ok (.iaload, 1) := by decide +kernel
theorem dX8_beginning_21 : decode cX8_beginning 21 = .ok (.invokestatic 65, 3) := by decide +kernel
theorem dX8_beginning_24 : decode cX8_beginning 24 = .ok (.ifCond .eq 5, 3) := by decide +kernel
theorem dX8_beginning_27 : decode cX8_beginning 27 = .ok (.iload_n 2, 1) := by decide +kernel
theorem dX8_beginning_28 : decode cX8_beginning 28 = .ok (.ireturn, 1) := by decide +kernel
theorem dX8_beginning_29 : decode cX8_beginning 29 = .ok (.iinc 2 1, 3) := by decide +kernel
theorem dX8_beginning_32 : decode cX8_beginning 32 = .ok (.goto (-30), 3) := by decide +kernel
theorem dX8_beginning_35 : decode cX8_beginning 35 = .ok (.iconst (-1), 1) := by decide +kernel
theorem dX8_beginning_36 : decode cX8_beginning 36 = .ok (.ireturn, 1) := by decide +kernel
theorem dX8_behind_0 : decode cX8_behind 0 = .ok (.iload_n 1, 1) := by decide +kernel
theorem dX8_behind_1 : decode cX8_behind 1 = .ok (.iload_n 1, 1) := by decide +kernel
theorem dX8_behind_2 : decode cX8_behind 2 = .ok (.invokestatic 44, 3) := by decide +kernel
theorem dX8_behind_5 : decode cX8_behind 5 = .ok (.aload_n 0, 1) := by decide +kernel
theorem dX8_behind_6 : decode cX8_behind 6 = .ok (.getfield 9, 3) := by decide +kernel
theorem dX8_behind_9 : decode cX8_behind 9 = .ok (.iload_n 2, 1) := by decide +kernel
theorem dX8_behind_10 : decode cX8_behind 10 = .ok (.iaload, 1) := by decide +kernel
theorem dX8_behind_11 : decode cX8_behind 11 = .ok (.invokestatic 44, 3) := by decide +kernel
theorem dX8_behind_14 : decode cX8_behind 14 = .ok (.isub, 1) := by decide +kernel
theorem dX8_behind_15 : decode cX8_behind 15 = .ok (.invokestatic 52, 3) := by decide +kernel
theorem dX8_behind_18 : decode cX8_behind 18 = .ok (.irem, 1) := by decide +kernel
theorem dX8_behind_19 : decode cX8_behind 19 = .ok (.ireturn, 1) := by decide +kernel
theorem dX8_isWhole_0 : decode cX8_isWhole 0 = .ok (.iload_n 1, 1) := by decide +kernel
theorem dX8_isWhole_1 : decode cX8_isWhole 1 = .ok (.istore_n 2, 1) := by decide +kernel
theorem dX8_isWhole_2 : decode cX8_isWhole 2 = .ok (.aload_n 0, 1) := by decide +kernel
theorem dX8_isWhole_3 : decode cX8_isWhole 3 = .ok (.iload_n 2, 1) := by decide +kernel
theorem dX8_isWhole_4 : decode cX8_isWhole 4 = .ok (.invokevirtual 68, 3) := by decide +kernel
theorem dX8_isWhole_7 : decode cX8_isWhole 7 = .ok (.istore_n 3, 1) := by decide +kernel
theorem dX8_isWhole_8 : decode cX8_isWhole 8 = .ok (.iload_n 3, 1) := by decide +kernel
theorem dX8_isWhole_9 : decode cX8_isWhole 9 = .ok (.iconst (-1), 1) := by decide +kernel
theorem dX8_isWhole_10 : decode cX8_isWhole 10 = .ok (.if_icmp .eq 19, 3) := by decide +kernel
theorem dX8_isWhole_13 : decode cX8_isWhole 13 = .ok (.aload_n 0, 1) := by decide +kernel
theorem dX8_isWhole_14 : decode cX8_isWhole 14 = .ok (.iload_n 2, 1) := by decide +kernel
theorem dX8_isWhole_15 : decode cX8_isWhole 15 = .ok (.iload_n 3, 1) := by decide +kernel
theorem dX8_isWhole_16 : decode cX8_isWhole 16 = .ok (.invokevirtual 71, 3) := by decide +kernel
theorem dX8_isWhole_19 : decode cX8_isWhole 19 = .ok (.istore_n 2, 1) := by decide +kernel
theorem dX8_isWhole_20 : decode cX8_isWhole 20 = .ok (.aload_n 0, 1) := by decide +kernel
theorem dX8_isWhole_21 : decode cX8_isWhole 21 = .ok (.iload_n 2, 1) := by decide +kernel
theorem dX8_isWhole_22 : decode cX8_isWhole 22 = .ok (.invokevirtual 68, 3) := by decide +kernel
theorem dX8_isWhole_25 : decode cX8_isWhole 25 = .ok (.istore_n 3, 1) := by decide +kernel
theorem dX8_isWhole_26 : decode cX8_isWhole 26 = .ok (.goto (-18), 3) := by decide +kernel
theorem dX8_isWhole_29 : decode cX8_isWhole 29 = .ok (.iload_n 1, 1) := by decide +kernel
theorem dX8_isWhole_30 : decode cX8_isWhole 30 = .ok (.ifCond .le 11, 3) := by decide +kernel
theorem dX8_isWhole_33 : decode cX8_isWhole 33 = .ok (.iload_n 2, 1) := by decide +kernel
theorem dX8_isWhole_34 : decode cX8_isWhole 34 = .ok (.ifCond .ne 7, 3) := by decide +kernel
theorem dX8_isWhole_37 : decode cX8_isWhole 37 = .ok (.iconst 1, 1) := by decide +kernel
theorem dX8_isWhole_38 : decode cX8_isWhole 38 = .ok (.goto 4, 3) := by decide +kernel
theorem dX8_isWhole_41 : decode cX8_isWhole 41 = .ok (.iconst 0, 1) := by decide +kernel
theorem dX8_isWhole_42 : decode cX8_isWhole 42 = .ok (.ireturn, 1) := by decide +kernel
theorem dX8_read_0 : decode cX8_read 0 = .ok (.aload_n 0, 1) := by decide +kernel
theorem dX8_read_1 : decode cX8_read 1 = .ok (.iconst 0, 1) := by decide +kernel
theorem dX8_read_2 : decode cX8_read 2 = .ok (.putfield 41, 3) := by decide +kernel
theorem dX8_read_5 : decode cX8_read 5 = .ok (.iload_n 1, 1) := by decide +kernel
theorem dX8_read_6 : decode cX8_read 6 = .ok (.ifCond .eq 18, 3) := by decide +kernel
theorem dX8_read_9 : decode cX8_read 9 = .ok (.iload_n 1, 1) := by decide +kernel
theorem dX8_read_10 : decode cX8_read 10 = .ok (.bipush 9, 2) := by decide +kernel
theorem dX8_read_12 : decode cX8_read 12 = .ok (.invokestatic 55, 3) := by decide +kernel
theorem dX8_read_15 : decode cX8_read 15 = .ok (.ifCond .ne 9, 3) := by decide +kernel
theorem dX8_read_18 : decode cX8_read 18 = .ok (.aload_n 0, 1) := by decide +kernel
theorem dX8_read_19 : decode cX8_read 19 = .ok (.iconst 1, 1) := by decide +kernel
theorem dX8_read_20 : decode cX8_read 20 = .ok (.invokevirtual 59, 3) := by decide +kernel
theorem dX8_read_23 : decode cX8_read 23 = .ok (.ireturn, 1) := by decide +kernel
theorem dX8_read_24 : decode cX8_read 24 = .ok (.iload_n 2, 1) := by decide +kernel
theorem dX8_read_25 : decode cX8_read 25 = .ok (.iconst 0, 1) := by decide +kernel
theorem dX8_read_26 : decode cX8_read 26 = .ok (.iconst 2, 1) := by decide +kernel
theorem dX8_read_27 : decode cX8_read 27 = .ok (.invokestatic 48, 3) := by decide +kernel
theorem dX8_read_30 : decode cX8_read 30 = .ok (.ifCond .ne 9, 3) := by decide +kernel
theorem dX8_read_33 : decode cX8_read 33 = .ok (.aload_n 0, 1) := by decide +kernel
theorem dX8_read_34 : decode cX8_read 34 = .ok (.iconst 2, 1) := by decide +kernel
theorem dX8_read_35 : decode cX8_read 35 = .ok (.invokevirtual 59, 3) := by decide +kernel
theorem dX8_read_38 : decode cX8_read 38 = .ok (.ireturn, 1) := by decide +kernel
theorem dX8_read_39 : decode cX8_read 39 = .ok (.iconst 0, 1) := by decide +kernel
theorem dX8_read_40 : decode cX8_read 40 = .ok (.istore_n 3, 1) := by decide +kernel
theorem dX8_read_41 : decode cX8_read 41 = .ok (.iconst (-1), 1) := by decide +kernel
theorem dX8_read_42 : decode cX8_read 42 = .ok (.istore 4, 2) := by decide +kernel
theorem dX8_read_44 : decode cX8_read 44 = .ok (.iload_n 1, 1) := by decide +kernel
theorem dX8_read_45 : decode cX8_read 45 = .ok (.istore 5, 2) := by decide +kernel
theorem dX8_read_47 : decode cX8_read 47 = .ok (.aload_n 0, 1) := by decide +kernel
theorem dX8_read_48 : decode cX8_read 48 = .ok (.iload 5, 2) := by decide +kernel
theorem dX8_read_50 : decode cX8_read 50 = .ok (.invokevirtual 68, 3) := by decide +kernel
theorem dX8_read_53 : decode cX8_read 53 = .ok (.istore 6, 2) := by decide +kernel
theorem dX8_read_55 : decode cX8_read 55 = .ok (.iload 6, 2) := by decide +kernel
theorem dX8_read_57 : decode cX8_read 57 = .ok (.iconst (-1), 1) := by decide +kernel
theorem dX8_read_58 : decode cX8_read 58 = .ok (.if_icmp .eq 31, 3) := by decide +kernel
theorem dX8_read_61 : decode cX8_read 61 = .ok (.aload_n 0, 1) := by decide +kernel
theorem dX8_read_62 : decode cX8_read 62 = .ok (.iload 5, 2) := by decide +kernel
theorem dX8_read_64 : decode cX8_read 64 = .ok (.iload 6, 2) := by decide +kernel
theorem dX8_read_66 : decode cX8_read 66 = .ok (.invokevirtual 71, 3) := by decide +kernel
theorem dX8_read_69 : decode cX8_read 69 = .ok (.istore 5, 2) := by decide +kernel
theorem dX8_read_71 : decode cX8_read 71 = .ok (.iload 6, 2) := by decide +kernel
theorem dX8_read_73 : decode cX8_read 73 = .ok (.istore 4, 2) := by decide +kernel
theorem dX8_read_75 : decode cX8_read 75 = .ok (.iinc 3 1, 3) := by decide +kernel
theorem dX8_read_78 : decode cX8_read 78 = .ok (.aload_n 0, 1) := by decide +kernel
theorem dX8_read_79 : decode cX8_read 79 = .ok (.iload 5, 2) := by decide +kernel
theorem dX8_read_81 : decode cX8_read 81 = .ok (.invokevirtual 68, 3) := by decide +kernel
theorem dX8_read_84 : decode cX8_read 84 = .ok (.istore 6, 2) := by decide +kernel
theorem dX8_read_86 : decode cX8_read 86 = .ok (.goto (-31), 3) := by decide +kernel
theorem dX8_read_89 : decode cX8_read 89 = .ok (.iload_n 2, 1) := by decide +kernel
theorem dX8_read_90 : decode cX8_read 90 = .ok (.ifCond .ne 7, 3) := by decide +kernel
theorem dX8_read_93 : decode cX8_read 93 = .ok (.iload_n 3, 1) := by decide +kernel
theorem dX8_read_94 : decode cX8_read 94 = .ok (.goto 18, 3) := by decide +kernel
theorem dX8_read_97 : decode cX8_read 97 = .ok (.iload_n 2, 1) := by decide +kernel
theorem dX8_read_98 : decode cX8_read 98 = .ok (.iconst 1, 1) := by decide +kernel
theorem dX8_read_99 : decode cX8_read 99 = .ok (.if_icmp .ne 8, 3) := by decide +kernel
theorem dX8_read_102 : decode cX8_read 102 = .ok (.iload 4, 2) := by decide +kernel
theorem dX8_read_104 : decode cX8_read 104 = .ok (.goto 8, 3) := by decide +kernel
theorem dX8_read_107 : decode cX8_read 107 = .ok (.iload 5, 2) := by decide +kernel
theorem dX8_read_109 : decode cX8_read 109 = .ok (.invokestatic 44, 3) := by decide +kernel
theorem dX8_read_112 : decode cX8_read 112 = .ok (.ireturn, 1) := by decide +kernel
theorem dX8_isSignal_0 : decode cX8_isSignal 0 = .ok (.iload_n 1, 1) := by decide +kernel
theorem dX8_isSignal_1 : decode cX8_isSignal 1 = .ok (.iconst 0, 1) := by decide +kernel
theorem dX8_isSignal_2 : decode cX8_isSignal 2 = .ok (.aload_n 0, 1) := by decide +kernel
theorem dX8_isSignal_3 : decode cX8_isSignal 3 = .ok (.getfield 62, 3) := by decide +kernel
theorem dX8_isSignal_6 : decode cX8_isSignal 6 = .ok (.iconst 1, 1) := by decide +kernel
theorem dX8_isSignal_7 : decode cX8_isSignal 7 = .ok (.isub, 1) := by decide +kernel
theorem dX8_isSignal_8 : decode cX8_isSignal 8 = .ok (.invokestatic 48, 3) := by decide +kernel
theorem dX8_isSignal_11 : decode cX8_isSignal 11 = .ok (.ireturn, 1) := by decide +kernel
theorem dX8_heard_0 : decode cX8_heard 0 = .ok (.aload_n 0, 1) := by decide +kernel
theorem dX8_heard_1 : decode cX8_heard 1 = .ok (.iconst 0, 1) := by decide +kernel
theorem dX8_heard_2 : decode cX8_heard 2 = .ok (.putfield 41, 3) := by decide +kernel
theorem dX8_heard_5 : decode cX8_heard 5 = .ok (.aload_n 0, 1) := by decide +kernel
theorem dX8_heard_6 : decode cX8_heard 6 = .ok (.iload_n 1, 1) := by decide +kernel
theorem dX8_heard_7 : decode cX8_heard 7 = .ok (.invokevirtual 75, 3) := by decide +kernel
theorem dX8_heard_10 : decode cX8_heard 10 = .ok (.ifCond .ne 9, 3) := by decide +kernel
theorem dX8_heard_13 : decode cX8_heard 13 = .ok (.aload_n 0, 1) := by decide +kernel
theorem dX8_heard_14 : decode cX8_heard 14 = .ok (.iconst 1, 1) := by decide +kernel
theorem dX8_heard_15 : decode cX8_heard 15 = .ok (.invokevirtual 59, 3) := by decide +kernel
theorem dX8_heard_18 : decode cX8_heard 18 = .ok (.ireturn, 1) := by decide +kernel
theorem dX8_heard_19 : decode cX8_heard 19 = .ok (.aload_n 0, 1) := by decide +kernel
theorem dX8_heard_20 : decode cX8_heard 20 = .ok (.getfield 9, 3) := by decide +kernel
theorem dX8_heard_23 : decode cX8_heard 23 = .ok (.iload_n 1, 1) := by decide +kernel
theorem dX8_heard_24 : decode cX8_heard 24 = .ok (.iaload, 1) := by decide +kernel
theorem dX8_heard_25 : decode cX8_heard 25 = .ok (.invokestatic 44, 3) := by decide +kernel
theorem dX8_heard_28 : decode cX8_heard 28 = .ok (.istore_n 2, 1) := by decide +kernel
theorem dX8_heard_29 : decode cX8_heard 29 = .ok (.iconst 0, 1) := by decide +kernel
theorem dX8_heard_30 : decode cX8_heard 30 = .ok (.istore_n 3, 1) := by decide +kernel
theorem dX8_heard_31 : decode cX8_heard 31 = .ok (.iconst 0, 1) := by decide +kernel
theorem dX8_heard_32 : decode cX8_heard 32 = .ok (.istore 4, 2) := by decide +kernel
theorem dX8_heard_34 : decode cX8_heard 34 = .ok (.iload 4, 2) := by decide +kernel
theorem dX8_heard_36 : decode cX8_heard 36 = .ok (.iload_n 2, 1) := by decide +kernel
theorem dX8_heard_37 : decode cX8_heard 37 = .ok (.if_icmp .ge 71, 3) := by decide +kernel
theorem dX8_heard_40 : decode cX8_heard 40 = .ok (.aload_n 0, 1) := by decide +kernel
theorem dX8_heard_41 : decode cX8_heard 41 = .ok (.getfield 9, 3) := by decide +kernel
theorem dX8_heard_44 : decode cX8_heard 44 = .ok (.iload_n 1, 1) := by decide +kernel
theorem dX8_heard_45 : decode cX8_heard 45 = .ok (.iaload, 1) := by decide +kernel
theorem dX8_heard_46 : decode cX8_heard 46 = .ok (.iload_n 2, 1) := by decide +kernel
theorem dX8_heard_47 : decode cX8_heard 47 = .ok (.iconst 1, 1) := by decide +kernel
theorem dX8_heard_48 : decode cX8_heard 48 = .ok (.isub, 1) := by decide +kernel
theorem dX8_heard_49 : decode cX8_heard 49 = .ok (.iload 4, 2) := by decide +kernel
theorem dX8_heard_51 : decode cX8_heard 51 = .ok (.isub, 1) := by decide +kernel
theorem dX8_heard_52 : decode cX8_heard 52 = .ok (.invokestatic 52, 3) := by decide +kernel
theorem dX8_heard_55 : decode cX8_heard 55 = .ok (.idiv, 1) := by decide +kernel
theorem dX8_heard_56 : decode cX8_heard 56 = .ok (.bipush 10, 2) := by decide +kernel
theorem dX8_heard_58 : decode cX8_heard 58 = .ok (.irem, 1) := by decide +kernel
theorem dX8_heard_59 : decode cX8_heard 59 = .ok (.istore 5, 2) := by decide +kernel
theorem dX8_heard_61 : decode cX8_heard 61 = .ok (.aload_n 0, 1) := by decide +kernel
theorem dX8_heard_62 : decode cX8_heard 62 = .ok (.getfield 13, 3) := by decide +kernel
theorem dX8_heard_65 : decode cX8_heard 65 = .ok (.aload_n 0, 1) := by decide +kernel
theorem dX8_heard_66 : decode cX8_heard 66 = .ok (.getfield 34, 3) := by decide +kernel
theorem dX8_heard_69 : decode cX8_heard 69 = .ok (.getfield 79, 3) := by decide +kernel
theorem dX8_heard_72 : decode cX8_heard 72 = .ok (.iload 4, 2) := by decide +kernel
theorem dX8_heard_74 : decode cX8_heard 74 = .ok (.iadd, 1) := by decide +kernel
theorem dX8_heard_75 : decode cX8_heard 75 = .ok (.bipush 20, 2) := by decide +kernel
theorem dX8_heard_77 : decode cX8_heard 77 = .ok (.irem, 1) := by decide +kernel
theorem dX8_heard_78 : decode cX8_heard 78 = .ok (.iaload, 1) := by decide +kernel
theorem dX8_heard_79 : decode cX8_heard 79 = .ok (.iload 5, 2) := by decide +kernel
theorem dX8_heard_81 : decode cX8_heard 81 = .ok (.iconst 1, 1) := by decide +kernel
theorem dX8_heard_82 : decode cX8_heard 82 = .ok (.if_icmp .ne 7, 3) := by decide +kernel
theorem dX8_heard_85 : decode cX8_heard 85 = .ok (.iconst 4, 1) := by decide +kernel
theorem dX8_heard_86 : decode cX8_heard 86 = .ok (.goto 5, 3) := by decide +kernel
theorem dX8_heard_89 : decode cX8_heard 89 = .ok (.bipush 7, 2) := by decide +kernel
theorem dX8_heard_91 : decode cX8_heard 91 = .ok (.if_icmp .ge 11, 3) := by decide +kernel
theorem dX8_heard_94 : decode cX8_heard 94 = .ok (.bipush 10, 2) := by decide +kernel
theorem dX8_heard_96 : decode cX8_heard 96 = .ok (.iload_n 3, 1) := by decide +kernel
theorem dX8_heard_97 : decode cX8_heard 97 = .ok (.imul, 1) := by decide +kernel
theorem dX8_heard_98 : decode cX8_heard 98 = .ok (.iload 5, 2) := by decide +kernel
theorem dX8_heard_100 : decode cX8_heard 100 = .ok (.iadd, 1) := by decide +kernel
theorem dX8_heard_101 : decode cX8_heard 101 = .ok (.istore_n 3, 1) := by decide +kernel
theorem dX8_heard_102 : decode cX8_heard 102 = .ok (.iinc 4 1, 3) := by decide +kernel
theorem dX8_heard_105 : decode cX8_heard 105 = .ok (.goto (-71), 3) := by decide +kernel
theorem dX8_heard_108 : decode cX8_heard 108 = .ok (.iload_n 3, 1) := by decide +kernel
theorem dX8_heard_109 : decode cX8_heard 109 = .ok (.ireturn, 1) := by decide +kernel
theorem dX8_safe_0 : decode cX8_safe 0 = .ok (.aload_n 0, 1) := by decide +kernel
theorem dX8_safe_1 : decode cX8_safe 1 = .ok (.iconst 0, 1) := by decide +kernel
theorem dX8_safe_2 : decode cX8_safe 2 = .ok (.putfield 41, 3) := by decide +kernel
theorem dX8_safe_5 : decode cX8_safe 5 = .ok (.aload_n 0, 1) := by decide +kernel
theorem dX8_safe_6 : decode cX8_safe 6 = .ok (.iload_n 1, 1) := by decide +kernel
theorem dX8_safe_7 : decode cX8_safe 7 = .ok (.invokevirtual 75, 3) := by decide +kernel
theorem dX8_safe_10 : decode cX8_safe 10 = .ok (.ifCond .ne 9, 3) := by decide +kernel
theorem dX8_safe_13 : decode cX8_safe 13 = .ok (.aload_n 0, 1) := by decide +kernel
theorem dX8_safe_14 : decode cX8_safe 14 = .ok (.iconst 1, 1) := by decide +kernel
theorem dX8_safe_15 : decode cX8_safe 15 = .ok (.invokevirtual 59, 3) := by decide +kernel
theorem dX8_safe_18 : decode cX8_safe 18 = .ok (.ireturn, 1) := by decide +kernel
theorem dX8_safe_19 : decode cX8_safe 19 = .ok (.iconst 0, 1) := by decide +kernel
theorem dX8_safe_20 : decode cX8_safe 20 = .ok (.istore_n 2, 1) := by decide +kernel
theorem dX8_safe_21 : decode cX8_safe 21 = .ok (.iconst 0, 1) := by decide +kernel
theorem dX8_safe_22 : decode cX8_safe 22 = .ok (.istore_n 3, 1) := by decide +kernel
theorem dX8_safe_23 : decode cX8_safe 23 = .ok (.iload_n 3, 1) := by decide +kernel
theorem dX8_safe_24 : decode cX8_safe 24 = .ok (.aload_n 0, 1) := by decide +kernel
theorem dX8_safe_25 : decode cX8_safe 25 = .ok (.getfield 9, 3) := by decide +kernel
theorem dX8_safe_28 : decode cX8_safe 28 = .ok (.iload_n 1, 1) := by decide +kernel
theorem dX8_safe_29 : decode cX8_safe 29 = .ok (.iaload, 1) := by decide +kernel
theorem dX8_safe_30 : decode cX8_safe 30 = .ok (.invokestatic 44, 3) := by decide +kernel
theorem dX8_safe_33 : decode cX8_safe 33 = .ok (.if_icmp .ge 54, 3) := by decide +kernel
theorem dX8_safe_36 : decode cX8_safe 36 = .ok (.iload_n 2, 1) := by decide +kernel
theorem dX8_safe_37 : decode cX8_safe 37 = .ok (.aload_n 0, 1) := by decide +kernel
theorem dX8_safe_38 : decode cX8_safe 38 = .ok (.aload_n 0, 1) := by decide +kernel
theorem dX8_safe_39 : decode cX8_safe 39 = .ok (.getfield 9, 3) := by decide +kernel
theorem dX8_safe_42 : decode cX8_safe 42 = .ok (.iload_n 1, 1) := by decide +kernel
theorem dX8_safe_43 : decode cX8_safe 43 = .ok (.iaload, 1) := by decide +kernel
theorem dX8_safe_44 : decode cX8_safe 44 = .ok (.iload_n 3, 1) := by decide +kernel
theorem dX8_safe_45 : decode cX8_safe 45 = .ok (.iconst 1, 1) := by decide +kernel
theorem dX8_safe_46 : decode cX8_safe 46 = .ok (.iadd, 1) := by decide +kernel
theorem dX8_safe_47 : decode cX8_safe 47 = .ok (.invokestatic 52, 3) := by decide +kernel
theorem dX8_safe_50 : decode cX8_safe 50 = .ok (.idiv, 1) := by decide +kernel
theorem dX8_safe_51 : decode cX8_safe 51 = .ok (.iload_n 3, 1) := by decide +kernel
theorem dX8_safe_52 : decode cX8_safe 52 = .ok (.invokestatic 52, 3) := by decide +kernel
theorem dX8_safe_55 : decode cX8_safe 55 = .ok (.imul, 1) := by decide +kernel
theorem dX8_safe_56 : decode cX8_safe 56 = .ok (.aload_n 0, 1) := by decide +kernel
theorem dX8_safe_57 : decode cX8_safe 57 = .ok (.getfield 9, 3) := by decide +kernel
theorem dX8_safe_60 : decode cX8_safe 60 = .ok (.iload_n 1, 1) := by decide +kernel
theorem dX8_safe_61 : decode cX8_safe 61 = .ok (.iaload, 1) := by decide +kernel
theorem dX8_safe_62 : decode cX8_safe 62 = .ok (.iload_n 3, 1) := by decide +kernel
theorem dX8_safe_63 : decode cX8_safe 63 = .ok (.invokestatic 52, 3) := by decide +kernel
theorem dX8_safe_66 : decode cX8_safe 66 = .ok (.irem, 1) := by decide +kernel
theorem dX8_safe_67 : decode cX8_safe 67 = .ok (.iadd, 1) := by decide +kernel
theorem dX8_safe_68 : decode cX8_safe 68 = .ok (.invokevirtual 82, 3) := by decide +kernel
theorem dX8_safe_71 : decode cX8_safe 71 = .ok (.ifCond .eq 7, 3) := by decide +kernel
theorem dX8_safe_74 : decode cX8_safe 74 = .ok (.iconst 0, 1) := by decide +kernel
theorem dX8_safe_75 : decode cX8_safe 75 = .ok (.goto 4, 3) := by decide +kernel
theorem dX8_safe_78 : decode cX8_safe 78 = .ok (.iconst 1, 1) := by decide +kernel
theorem dX8_safe_79 : decode cX8_safe 79 = .ok (.iadd, 1) := by decide +kernel
theorem dX8_safe_80 : decode cX8_safe 80 = .ok (.istore_n 2, 1) := by decide +kernel
theorem dX8_safe_81 : decode cX8_safe 81 = .ok (.iinc 3 1, 3) := by decide +kernel
theorem dX8_safe_84 : decode cX8_safe 84 = .ok (.goto (-61), 3) := by decide +kernel
theorem dX8_safe_87 : decode cX8_safe 87 = .ok (.iload_n 2, 1) := by decide +kernel
theorem dX8_safe_88 : decode cX8_safe 88 = .ok (.ireturn, 1) := by decide +kernel
theorem dX8_rows_0 : decode cX8_rows 0 = .ok (.aload_n 0, 1) := by decide +kernel
theorem dX8_rows_1 : decode cX8_rows 1 = .ok (.iconst 0, 1) := by decide +kernel
theorem dX8_rows_2 : decode cX8_rows 2 = .ok (.putfield 41, 3) := by decide +kernel
theorem dX8_rows_5 : decode cX8_rows 5 = .ok (.iload_n 1, 1) := by decide +kernel
theorem dX8_rows_6 : decode cX8_rows 6 = .ok (.iconst 0, 1) := by decide +kernel
theorem dX8_rows_7 : decode cX8_rows 7 = .ok (.bipush 20, 2) := by decide +kernel
theorem dX8_rows_9 : decode cX8_rows 9 = .ok (.invokestatic 48, 3) := by decide +kernel
theorem dX8_rows_12 : decode cX8_rows 12 = .ok (.ifCond .ne 9, 3) := by decide +kernel
theorem dX8_rows_15 : decode cX8_rows 15 = .ok (.aload_n 0, 1) := by decide +kernel
theorem dX8_rows_16 : decode cX8_rows 16 = .ok (.iconst 1, 1) := by decide +kernel
theorem dX8_rows_17 : decode cX8_rows 17 = .ok (.invokevirtual 59, 3) := by decide +kernel
theorem dX8_rows_20 : decode cX8_rows 20 = .ok (.ireturn, 1) := by decide +kernel
theorem dX8_rows_21 : decode cX8_rows 21 = .ok (.bipush 21, 2) := by decide +kernel
theorem dX8_rows_23 : decode cX8_rows 23 = .ok (.newarray .int, 2) := by decide +kernel
theorem dX8_rows_25 : decode cX8_rows 25 = .ok (.astore_n 2, 1) := by decide +kernel
theorem dX8_rows_26 : decode cX8_rows 26 = .ok (.aload_n 2, 1) := by decide +kernel
theorem dX8_rows_27 : decode cX8_rows 27 = .ok (.iconst 0, 1) := by decide +kernel
theorem dX8_rows_28 : decode cX8_rows 28 = .ok (.iconst 1, 1) := by decide +kernel
theorem dX8_rows_29 : decode cX8_rows 29 = .ok (.iastore, 1) := by decide +kernel
theorem dX8_rows_30 : decode cX8_rows 30 = .ok (.iconst 1, 1) := by decide +kernel
theorem dX8_rows_31 : decode cX8_rows 31 = .ok (.istore_n 3, 1) := by decide +kernel
theorem dX8_rows_32 : decode cX8_rows 32 = .ok (.iload_n 3, 1) := by decide +kernel
theorem dX8_rows_33 : decode cX8_rows 33 = .ok (.iload_n 1, 1) := by decide +kernel
theorem dX8_rows_34 : decode cX8_rows 34 = .ok (.if_icmp .gt 65, 3) := by decide +kernel
theorem dX8_rows_37 : decode cX8_rows 37 = .ok (.iconst 0, 1) := by decide +kernel
theorem dX8_rows_38 : decode cX8_rows 38 = .ok (.istore 4, 2) := by decide +kernel
theorem dX8_rows_40 : decode cX8_rows 40 = .ok (.iload 4, 2) := by decide +kernel
theorem dX8_rows_42 : decode cX8_rows 42 = .ok (.aload_n 0, 1) := by decide +kernel
theorem dX8_rows_43 : decode cX8_rows 43 = .ok (.getfield 62, 3) := by decide +kernel
theorem dX8_rows_46 : decode cX8_rows 46 = .ok (.if_icmp .ge 47, 3) := by decide +kernel
theorem dX8_rows_49 : decode cX8_rows 49 = .ok (.aload_n 2, 1) := by decide +kernel
theorem dX8_rows_50 : decode cX8_rows 50 = .ok (.iload_n 3, 1) := by decide +kernel
theorem dX8_rows_51 : decode cX8_rows 51 = .ok (.dup2, 1) := by decide +kernel
theorem dX8_rows_52 : decode cX8_rows 52 = .ok (.iaload, 1) := by decide +kernel
theorem dX8_rows_53 : decode cX8_rows 53 = .ok (.aload_n 0, 1) := by decide +kernel
theorem dX8_rows_54 : decode cX8_rows 54 = .ok (.getfield 9, 3) := by decide +kernel
theorem dX8_rows_57 : decode cX8_rows 57 = .ok (.iload 4, 2) := by decide +kernel
theorem dX8_rows_59 : decode cX8_rows 59 = .ok (.iaload, 1) := by decide +kernel
theorem dX8_rows_60 : decode cX8_rows 60 = .ok (.invokestatic 44, 3) := by decide +kernel
theorem dX8_rows_63 : decode cX8_rows 63 = .ok (.iload_n 3, 1) := by decide +kernel
theorem dX8_rows_64 : decode cX8_rows 64 = .ok (.if_icmp .le 7, 3) := by decide +kernel
theorem dX8_rows_67 : decode cX8_rows 67 = .ok (.iconst 0, 1) := by decide +kernel
theorem dX8_rows_68 : decode cX8_rows 68 = .ok (.goto 17, 3) := by decide +kernel
theorem dX8_rows_71 : decode cX8_rows 71 = .ok (.aload_n 2, 1) := by decide +kernel
theorem dX8_rows_72 : decode cX8_rows 72 = .ok (.iload_n 3, 1) := by decide +kernel
theorem dX8_rows_73 : decode cX8_rows 73 = .ok (.aload_n 0, 1) := by decide +kernel
theorem dX8_rows_74 : decode cX8_rows 74 = .ok (.getfield 9, 3) := by decide +kernel
theorem dX8_rows_77 : decode cX8_rows 77 = .ok (.iload 4, 2) := by decide +kernel
theorem dX8_rows_79 : decode cX8_rows 79 = .ok (.iaload, 1) := by decide +kernel
theorem dX8_rows_80 : decode cX8_rows 80 = .ok (.invokestatic 44, 3) := by decide +kernel
theorem dX8_rows_83 : decode cX8_rows 83 = .ok (.isub, 1) := by decide +kernel
theorem dX8_rows_84 : decode cX8_rows 84 = .ok (.iaload, 1) := by decide +kernel
theorem dX8_rows_85 : decode cX8_rows 85 = .ok (.iadd, 1) := by decide +kernel
theorem dX8_rows_86 : decode cX8_rows 86 = .ok (.iastore, 1) := by decide +kernel
theorem dX8_rows_87 : decode cX8_rows 87 = .ok (.iinc 4 1, 3) := by decide +kernel
theorem dX8_rows_90 : decode cX8_rows 90 = .ok (.goto (-50), 3) := by decide +kernel
theorem dX8_rows_93 : decode cX8_rows 93 = .ok (.iinc 3 1, 3) := by decide +kernel
theorem dX8_rows_96 : decode cX8_rows 96 = .ok (.goto (-64), 3) := by decide +kernel
theorem dX8_rows_99 : decode cX8_rows 99 = .ok (.aload_n 2, 1) := by decide +kernel
theorem dX8_rows_100 : decode cX8_rows 100 = .ok (.iload_n 1, 1) := by decide +kernel
theorem dX8_rows_101 : decode cX8_rows 101 = .ok (.iaload, 1) := by decide +kernel
theorem dX8_rows_102 : decode cX8_rows 102 = .ok (.ireturn, 1) := by decide +kernel
theorem dX8_setFog_0 : decode cX8_setFog 0 = .ok (.aload_n 0, 1) := by decide +kernel
theorem dX8_setFog_1 : decode cX8_setFog 1 = .ok (.iconst 0, 1) := by decide +kernel
theorem dX8_setFog_2 : decode cX8_setFog 2 = .ok (.putfield 41, 3) := by decide +kernel
theorem dX8_setFog_5 : decode cX8_setFog 5 = .ok (.iload_n 1, 1) := by decide +kernel
theorem dX8_setFog_6 : decode cX8_setFog 6 = .ok (.iconst 0, 1) := by decide +kernel
theorem dX8_setFog_7 : decode cX8_setFog 7 = .ok (.bipush 19, 2) := by decide +kernel
theorem dX8_setFog_9 : decode cX8_setFog 9 = .ok (.invokestatic 48, 3) := by decide +kernel
theorem dX8_setFog_12 : decode cX8_setFog 12 = .ok (.ifCond .ne 9, 3) := by decide +kernel
theorem dX8_setFog_15 : decode cX8_setFog 15 = .ok (.aload_n 0, 1) := by decide +kernel
theorem dX8_setFog_16 : decode cX8_setFog 16 = .ok (.iconst 1, 1) := by decide +kernel
theorem dX8_setFog_17 : decode cX8_setFog 17 = .ok (.invokevirtual 59, 3) := by decide +kernel
theorem dX8_setFog_20 : decode cX8_setFog 20 = .ok (.ireturn, 1) := by decide +kernel
theorem dX8_setFog_21 : decode cX8_setFog 21 = .ok (.iload_n 2, 1) := by decide +kernel
theorem dX8_setFog_22 : decode cX8_setFog 22 = .ok (.iconst 0, 1) := by decide +kernel
theorem dX8_setFog_23 : decode cX8_setFog 23 = .ok (.bipush 9, 2) := by decide +kernel
theorem dX8_setFog_25 : decode cX8_setFog 25 = .ok (.invokestatic 48, 3) := by decide +kernel
theorem dX8_setFog_28 : decode cX8_setFog 28 = .ok (.ifCond .ne 9, 3) := by decide +kernel
theorem dX8_setFog_31 : decode cX8_setFog 31 = .ok (.aload_n 0, 1) := by decide +kernel
theorem dX8_setFog_32 : decode cX8_setFog 32 = .ok (.iconst 2, 1) := by decide +kernel
theorem dX8_setFog_33 : decode cX8_setFog 33 = .ok (.invokevirtual 59, 3) := by decide +kernel
theorem dX8_setFog_36 : decode cX8_setFog 36 = .ok (.ireturn, 1) := by decide +kernel
theorem dX8_setFog_37 : decode cX8_setFog 37 = .ok (.aload_n 0, 1) := by decide +kernel
theorem dX8_setFog_38 : decode cX8_setFog 38 = .ok (.getfield 13, 3) := by decide +kernel
theorem dX8_setFog_41 : decode cX8_setFog 41 = .ok (.iload_n 1, 1) := by decide +kernel
theorem dX8_setFog_42 : decode cX8_setFog 42 = .ok (.iaload, 1) := by decide +kernel
theorem dX8_setFog_43 : decode cX8_setFog 43 = .ok (.istore_n 3, 1) := by decide +kernel
theorem dX8_setFog_44 : decode cX8_setFog 44 = .ok (.aload_n 0, 1) := by decide +kernel
theorem dX8_setFog_45 : decode cX8_setFog 45 = .ok (.getfield 13, 3) := by decide +kernel
theorem dX8_setFog_48 : decode cX8_setFog 48 = .ok (.iload_n 1, 1) := by decide +kernel
theorem dX8_setFog_49 : decode cX8_setFog 49 = .ok (.iload_n 2, 1) := by decide +kernel
theorem dX8_setFog_50 : decode cX8_setFog 50 = .ok (.iastore, 1) := by decide +kernel
theorem dX8_setFog_51 : decode cX8_setFog 51 = .ok (.iload_n 3, 1) := by decide +kernel
theorem dX8_setFog_52 : decode cX8_setFog 52 = .ok (.ireturn, 1) := by decide +kernel
theorem dX8_rebuild_0 : decode cX8_rebuild 0 = .ok (.aload_n 0, 1) := by decide +kernel
theorem dX8_rebuild_1 : decode cX8_rebuild 1 = .ok (.iconst 0, 1) := by decide +kernel
theorem dX8_rebuild_2 : decode cX8_rebuild 2 = .ok (.putfield 41, 3) := by decide +kernel
theorem dX8_rebuild_5 : decode cX8_rebuild 5 = .ok (.iload_n 1, 1) := by decide +kernel
theorem dX8_rebuild_6 : decode cX8_rebuild 6 = .ok (.iconst 4, 1) := by decide +kernel
theorem dX8_rebuild_7 : decode cX8_rebuild 7 = .ok (.bipush 30, 2) := by decide +kernel
theorem dX8_rebuild_9 : decode cX8_rebuild 9 = .ok (.invokestatic 48, 3) := by decide +kernel
theorem dX8_rebuild_12 : decode cX8_rebuild 12 = .ok (.ifCond .eq 15, 3) := by decide +kernel
theorem dX8_rebuild_15 : decode cX8_rebuild 15 = .ok (.iload_n 2, 1) := by decide +kernel
theorem dX8_rebuild_16 : decode cX8_rebuild 16 = .ok (.bipush 10, 2) := by decide +kernel
theorem dX8_rebuild_18 : decode cX8_rebuild 18 = .ok (.sipush 500, 3) := by decide +kernel
theorem dX8_rebuild_21 : decode cX8_rebuild 21 = .ok (.invokestatic 48, 3) := by decide +kernel
theorem dX8_rebuild_24 : decode cX8_rebuild 24 = .ok (.ifCond .ne 9, 3) := by decide +kernel
theorem dX8_rebuild_27 : decode cX8_rebuild 27 = .ok (.aload_n 0, 1) := by decide +kernel
theorem dX8_rebuild_28 : decode cX8_rebuild 28 = .ok (.iconst 1, 1) := by decide +kernel
theorem dX8_rebuild_29 : decode cX8_rebuild 29 = .ok (.invokevirtual 59, 3) := by decide +kernel
theorem dX8_rebuild_32 : decode cX8_rebuild 32 = .ok (.ireturn, 1) := by decide +kernel
theorem dX8_rebuild_33 : decode cX8_rebuild 33 = .ok (.aload_n 0, 1) := by decide +kernel
theorem dX8_rebuild_34 : decode cX8_rebuild 34 = .ok (.getfield 34, 3) := by decide +kernel
theorem dX8_rebuild_37 : decode cX8_rebuild 37 = .ok (.iconst 1, 1) := by decide +kernel
theorem dX8_rebuild_38 : decode cX8_rebuild 38 = .ok (.invokevirtual 85, 3) := by decide +kernel
theorem dX8_rebuild_41 : decode cX8_rebuild 41 = .ok (.ifCond .le 9, 3) := by decide +kernel
theorem dX8_rebuild_44 : decode cX8_rebuild 44 = .ok (.aload_n 0, 1) := by decide +kernel
theorem dX8_rebuild_45 : decode cX8_rebuild 45 = .ok (.iconst 2, 1) := by decide +kernel
theorem dX8_rebuild_46 : decode cX8_rebuild 46 = .ok (.invokevirtual 59, 3) := by decide +kernel
theorem dX8_rebuild_49 : decode cX8_rebuild 49 = .ok (.ireturn, 1) := by decide +kernel
theorem dX8_rebuild_50 : decode cX8_rebuild 50 = .ok (.aload_n 0, 1) := by decide +kernel
theorem dX8_rebuild_51 : decode cX8_rebuild 51 = .ok (.getfield 20, 3) := by decide +kernel
theorem dX8_rebuild_54 : decode cX8_rebuild 54 = .ok (.istore_n 3, 1) := by decide +kernel
theorem dX8_rebuild_55 : decode cX8_rebuild 55 = .ok (.aload_n 0, 1) := by decide +kernel
theorem dX8_rebuild_56 : decode cX8_rebuild 56 = .ok (.iload_n 1, 1) := by decide +kernel
theorem dX8_rebuild_57 : decode cX8_rebuild 57 = .ok (.putfield 16, 3) := by decide +kernel
theorem dX8_rebuild_60 : decode cX8_rebuild 60 = .ok (.aload_n 0, 1) := by decide +kernel
theorem dX8_rebuild_61 : decode cX8_rebuild 61 = .ok (.iload_n 2, 1) := by decide +kernel
theorem dX8_rebuild_62 : decode cX8_rebuild 62 = .ok (.putfield 20, 3) := by decide +kernel
theorem dX8_rebuild_65 : decode cX8_rebuild 65 = .ok (.iload_n 3, 1) := by decide +kernel
theorem dX8_rebuild_66 : decode cX8_rebuild 66 = .ok (.ireturn, 1) := by decide +kernel
theorem dX8_setToll_0 : decode cX8_setToll 0 = .ok (.aload_n 0, 1) := by decide +kernel
theorem dX8_setToll_1 : decode cX8_setToll 1 = .ok (.iconst 0, 1) := by decide +kernel
theorem dX8_setToll_2 : decode cX8_setToll 2 = .ok (.putfield 41, 3) := by decide +kernel
theorem dX8_setToll_5 : decode cX8_setToll 5 = .ok (.iload_n 1, 1) := by decide +kernel
theorem dX8_setToll_6 : decode cX8_setToll 6 = .ok (.iconst 0, 1) := by decide +kernel
theorem dX8_setToll_7 : decode cX8_setToll 7 = .ok (.bipush 9, 2) := by decide +kernel
theorem dX8_setToll_9 : decode cX8_setToll 9 = .ok (.invokestatic 48, 3) := by decide +kernel
theorem dX8_setToll_12 : decode cX8_setToll 12 = .ok (.ifCond .eq 13, 3) := by decide +kernel
theorem dX8_setToll_15 : decode cX8_setToll 15 = .ok (.iload_n 2, 1) := by decide +kernel
theorem dX8_setToll_16 : decode cX8_setToll 16 = .ok (.iconst 0, 1) := by decide +kernel
theorem dX8_setToll_17 : decode cX8_setToll 17 = .ok (.bipush 9, 2) := by decide +kernel
theorem dX8_setToll_19 : decode cX8_setToll 19 = .ok (.invokestatic 48, 3) := by decide +kernel
theorem dX8_setToll_22 : decode cX8_setToll 22 = .ok (.ifCond .ne 9, 3) := by decide +kernel
theorem dX8_setToll_25 : decode cX8_setToll 25 = .ok (.aload_n 0, 1) := by decide +kernel
theorem dX8_setToll_26 : decode cX8_setToll 26 = .ok (.iconst 1, 1) := by decide +kernel
theorem dX8_setToll_27 : decode cX8_setToll 27 = .ok (.invokevirtual 59, 3) := by decide +kernel
theorem dX8_setToll_30 : decode cX8_setToll 30 = .ok (.ireturn, 1) := by decide +kernel
theorem dX8_setToll_31 : decode cX8_setToll 31 = .ok (.bipush 10, 2) := by decide +kernel
theorem dX8_setToll_33 : decode cX8_setToll 33 = .ok (.aload_n 0, 1) := by decide +kernel
theorem dX8_setToll_34 : decode cX8_setToll 34 = .ok (.getfield 23, 3) := by decide +kernel
theorem dX8_setToll_37 : decode cX8_setToll 37 = .ok (.imul, 1) := by decide +kernel
theorem dX8_setToll_38 : decode cX8_setToll 38 = .ok (.aload_n 0, 1) := by decide +kernel
theorem dX8_setToll_39 : decode cX8_setToll 39 = .ok (.getfield 26, 3) := by decide +kernel
theorem dX8_setToll_42 : decode cX8_setToll 42 = .ok (.iadd, 1) := by decide +kernel
theorem dX8_setToll_43 : decode cX8_setToll 43 = .ok (.istore_n 3, 1) := by decide +kernel
theorem dX8_setToll_44 : decode cX8_setToll 44 = .ok (.aload_n 0, 1) := by decide +kernel
theorem dX8_setToll_45 : decode cX8_setToll 45 = .ok (.iload_n 1, 1) := by decide +kernel
theorem dX8_setToll_46 : decode cX8_setToll 46 = .ok (.putfield 23, 3) := by decide +kernel
theorem dX8_setToll_49 : decode cX8_setToll 49 = .ok (.aload_n 0, 1) := by decide +kernel
theorem dX8_setToll_50 : decode cX8_setToll 50 = .ok (.iload_n 2, 1) := by decide +kernel
theorem dX8_setToll_51 : decode cX8_setToll 51 = .ok (.putfield 26, 3) := by decide +kernel
theorem dX8_setToll_54 : decode cX8_setToll 54 = .ok (.iload_n 3, 1) := by decide +kernel
theorem dX8_setToll_55 : decode cX8_setToll 55 = .ok (.ireturn, 1) := by decide +kernel
theorem dX8_change_0 : decode cX8_change 0 = .ok (.aload_n 0, 1) := by decide +kernel
theorem dX8_change_1 : decode cX8_change 1 = .ok (.iconst 0, 1) := by decide +kernel
theorem dX8_change_2 : decode cX8_change 2 = .ok (.putfield 41, 3) := by decide +kernel
theorem dX8_change_5 : decode cX8_change 5 = .ok (.aload_n 0, 1) := by decide +kernel
theorem dX8_change_6 : decode cX8_change 6 = .ok (.getfield 34, 3) := by decide +kernel
theorem dX8_change_9 : decode cX8_change 9 = .ok (.iconst 1, 1) := by decide +kernel
theorem dX8_change_10 : decode cX8_change 10 = .ok (.aload_n 0, 1) := by decide +kernel
theorem dX8_change_11 : decode cX8_change 11 = .ok (.getfield 34, 3) := by decide +kernel
theorem dX8_change_14 : decode cX8_change 14 = .ok (.getfield 88, 3) := by decide +kernel
theorem dX8_change_17 : decode cX8_change 17 = .ok (.isub, 1) := by decide +kernel
theorem dX8_change_18 : decode cX8_change 18 = .ok (.putfield 88, 3) := by decide +kernel
theorem dX8_change_21 : decode cX8_change 21 = .ok (.aload_n 0, 1) := by decide +kernel
theorem dX8_change_22 : decode cX8_change 22 = .ok (.getfield 34, 3) := by decide +kernel
theorem dX8_change_25 : decode cX8_change 25 = .ok (.getfield 88, 3) := by decide +kernel
theorem dX8_change_28 : decode cX8_change 28 = .ok (.ireturn, 1) := by decide +kernel
theorem dX8_come_0 : decode cX8_come 0 = .ok (.aload_n 0, 1) := by decide +kernel
theorem dX8_come_1 : decode cX8_come 1 = .ok (.iconst 0, 1) := by decide +kernel
theorem dX8_come_2 : decode cX8_come 2 = .ok (.putfield 41, 3) := by decide +kernel
theorem dX8_come_5 : decode cX8_come 5 = .ok (.iload_n 1, 1) := by decide +kernel
theorem dX8_come_6 : decode cX8_come 6 = .ok (.iconst 0, 1) := by decide +kernel
theorem dX8_come_7 : decode cX8_come 7 = .ok (.iconst 1, 1) := by decide +kernel
theorem dX8_come_8 : decode cX8_come 8 = .ok (.invokestatic 48, 3) := by decide +kernel
theorem dX8_come_11 : decode cX8_come 11 = .ok (.ifCond .eq 44, 3) := by decide +kernel
theorem dX8_come_14 : decode cX8_come 14 = .ok (.iload_n 2, 1) := by decide +kernel
theorem dX8_come_15 : decode cX8_come 15 = .ok (.iconst 1, 1) := by decide +kernel
theorem dX8_come_16 : decode cX8_come 16 = .ok (.iconst 4, 1) := by decide +kernel
theorem dX8_come_17 : decode cX8_come 17 = .ok (.invokestatic 48, 3) := by decide +kernel
theorem dX8_come_20 : decode cX8_come 20 = .ok (.ifCond .eq 35, 3) := by decide +kernel
theorem dX8_come_23 : decode cX8_come 23 = .ok (.iload_n 3, 1) := by decide +kernel
theorem dX8_come_24 : decode cX8_come 24 = .ok (.iconst 1, 1) := by decide +kernel
theorem dX8_come_25 : decode cX8_come 25 = .ok (.sipush 200, 3) := by decide +kernel
theorem dX8_come_28 : decode cX8_come 28 = .ok (.invokestatic 48, 3) := by decide +kernel
theorem dX8_come_31 : decode cX8_come 31 = .ok (.ifCond .eq 24, 3) := by decide +kernel
theorem dX8_come_34 : decode cX8_come 34 = .ok (.iload 4, 2) := by decide +kernel
theorem dX8_come_36 : decode cX8_come 36 = .ok (.iconst 1, 1) := by decide +kernel
theorem dX8_come_37 : decode cX8_come 37 = .ok (.iconst 3, 1) := by decide +kernel
theorem dX8_come_38 : decode cX8_come 38 = .ok (.invokestatic 48, 3) := by decide +kernel
theorem dX8_come_41 : decode cX8_come 41 = .ok (.ifCond .eq 14, 3) := by decide +kernel
theorem dX8_come_44 : decode cX8_come 44 = .ok (.iload 5, 2) := by decide +kernel
theorem dX8_come_46 : decode cX8_come 46 = .ok (.iconst 0, 1) := by decide +kernel
theorem dX8_come_47 : decode cX8_come 47 = .ok (.bipush 100, 2) := by decide +kernel
theorem dX8_come_49 : decode cX8_come 49 = .ok (.invokestatic 48, 3) := by decide +kernel
theorem dX8_come_52 : decode cX8_come 52 = .ok (.ifCond .ne 9, 3) := by decide +kernel
theorem dX8_come_55 : decode cX8_come 55 = .ok (.aload_n 0, 1) := by decide +kernel
theorem dX8_come_56 : decode cX8_come 56 = .ok (.iconst 1, 1) := by decide +kernel
theorem dX8_come_57 : decode cX8_come 57 = .ok (.invokevirtual 59, 3) := by decide +kernel
theorem dX8_come_60 : decode cX8_come 60 = .ok (.ireturn, 1) := by decide +kernel
theorem dX8_come_61 : decode cX8_come 61 = .ok (.aload_n 0, 1) := by decide +kernel
theorem dX8_come_62 : decode cX8_come 62 = .ok (.getfield 34, 3) := by decide +kernel
theorem dX8_come_65 : decode cX8_come 65 = .ok (.getfield 91, 3) := by decide +kernel
theorem dX8_come_68 : decode cX8_come 68 = .ok (.bipush 16, 2) := by decide +kernel
theorem dX8_come_70 : decode cX8_come 70 = .ok (.if_icmp .ne 9, 3) := by decide +kernel
theorem dX8_come_73 : decode cX8_come 73 = .ok (.aload_n 0, 1) := by decide +kernel
theorem dX8_come_74 : decode cX8_come 74 = .ok (.iconst 2, 1) := by decide +kernel
theorem dX8_come_75 : decode cX8_come 75 = .ok (.invokevirtual 59, 3) := by decide +kernel
theorem dX8_come_78 : decode cX8_come 78 = .ok (.ireturn, 1) := by decide +kernel
theorem dX8_come_79 : decode cX8_come 79 = .ok (.bipush 10, 2) := by decide +kernel
theorem dX8_come_81 : decode cX8_come 81 = .ok (.newarray .int, 2) := by decide +kernel
theorem dX8_come_83 : decode cX8_come 83 = .ok (.dup, 1) := by decide +kernel
theorem dX8_come_84 : decode cX8_come 84 = .ok (.iconst 0, 1) := by decide +kernel
theorem dX8_come_85 : decode cX8_come 85 = .ok (.iload_n 2, 1) := by decide +kernel
theorem dX8_come_86 : decode cX8_come 86 = .ok (.iastore, 1) := by decide +kernel
theorem dX8_come_87 : decode cX8_come 87 = .ok (.dup, 1) := by decide +kernel
theorem dX8_come_88 : decode cX8_come 88 = .ok (.iconst 1, 1) := by decide +kernel
theorem dX8_come_89 : decode cX8_come 89 = .ok (.iload_n 3, 1) := by decide +kernel
theorem dX8_come_90 : decode cX8_come 90 = .ok (.iastore, 1) := by decide +kernel
theorem dX8_come_91 : decode cX8_come 91 = .ok (.dup, 1) := by decide +kernel
theorem dX8_come_92 : decode cX8_come 92 = .ok (.iconst 2, 1) := by decide +kernel
theorem dX8_come_93 : decode cX8_come 93 = .ok (.iload 4, 2) := by decide +kernel
theorem dX8_come_95 : decode cX8_come 95 = .ok (.iastore, 1) := by decide +kernel
theorem dX8_come_96 : decode cX8_come 96 = .ok (.dup, 1) := by decide +kernel
theorem dX8_come_97 : decode cX8_come 97 = .ok (.iconst 3, 1) := by decide +kernel
theorem dX8_come_98 : decode cX8_come 98 = .ok (.iload 5, 2) := by decide +kernel
theorem dX8_come_100 : decode cX8_come 100 = .ok (.iastore, 1) := by decide +kernel
theorem dX8_come_101 : decode cX8_come 101 = .ok (.dup, 1) := by decide +kernel
theorem dX8_come_102 : decode cX8_come 102 = .ok (.iconst 4, 1) := by decide +kernel
theorem dX8_come_103 : decode cX8_come 103 = .ok (.iload_n 1, 1) := by decide +kernel
theorem dX8_come_104 : decode cX8_come 104 = .ok (.iastore, 1) := by decide +kernel
theorem dX8_come_105 : decode cX8_come 105 = .ok (.dup, 1) := by decide +kernel
theorem dX8_come_106 : decode cX8_come 106 = .ok (.iconst 5, 1) := by decide +kernel
theorem dX8_come_107 : decode cX8_come 107 = .ok (.iconst 0, 1) := by decide +kernel
theorem dX8_come_108 : decode cX8_come 108 = .ok (.iastore, 1) := by decide +kernel
theorem dX8_come_109 : decode cX8_come 109 = .ok (.dup, 1) := by decide +kernel
theorem dX8_come_110 : decode cX8_come 110 = .ok (.bipush 6, 2) := by decide +kernel
theorem dX8_come_112 : decode cX8_come 112 = .ok (.iconst (-1), 1) := by decide +kernel
theorem dX8_come_113 : decode cX8_come 113 = .ok (.iastore, 1) := by decide +kernel
theorem dX8_come_114 : decode cX8_come 114 = .ok (.dup, 1) := by decide +kernel
theorem dX8_come_115 : decode cX8_come 115 = .ok (.bipush 7, 2) := by decide +kernel
theorem dX8_come_117 : decode cX8_come 117 = .ok (.iload 6, 2) := by decide +kernel
theorem dX8_come_119 : decode cX8_come 119 = .ok (.ifCond .eq 7, 3) := by decide +kernel
theorem dX8_come_122 : decode cX8_come 122 = .ok (.iconst 1, 1) := by decide +kernel
theorem dX8_come_123 : decode cX8_come 123 = .ok (.goto 4, 3) := by decide +kernel
theorem dX8_come_126 : decode cX8_come 126 = .ok (.iconst 0, 1) := by decide +kernel
theorem dX8_come_127 : decode cX8_come 127 = .ok (.iastore, 1) := by decide +kernel
theorem dX8_come_128 : decode cX8_come 128 = .ok (.dup, 1) := by decide +kernel
theorem dX8_come_129 : decode cX8_come 129 = .ok (.bipush 8, 2) := by decide +kernel
theorem dX8_come_131 : decode cX8_come 131 = .ok (.iconst (-1), 1) := by decide +kernel
theorem dX8_come_132 : decode cX8_come 132 = .ok (.iastore, 1) := by decide +kernel
theorem dX8_come_133 : decode cX8_come 133 = .ok (.dup, 1) := by decide +kernel
theorem dX8_come_134 : decode cX8_come 134 = .ok (.bipush 9, 2) := by decide +kernel
theorem dX8_come_136 : decode cX8_come 136 = .ok (.iconst 0, 1) := by decide +kernel
theorem dX8_come_137 : decode cX8_come 137 = .ok (.iastore, 1) := by decide +kernel
theorem dX8_come_138 : decode cX8_come 138 = .ok (.astore 7, 2) := by decide +kernel
theorem dX8_come_140 : decode cX8_come 140 = .ok (.aload 7, 2) := by decide +kernel
theorem dX8_come_142 : decode cX8_come 142 = .ok (.iconst 0, 1) := by decide +kernel
theorem dX8_come_143 : decode cX8_come 143 = .ok (.aload_n 0, 1) := by decide +kernel
theorem dX8_come_144 : decode cX8_come 144 = .ok (.getfield 34, 3) := by decide +kernel
theorem dX8_come_147 : decode cX8_come 147 = .ok (.getfield 94, 3) := by decide +kernel
theorem dX8_come_150 : decode cX8_come 150 = .ok (.bipush 10, 2) := by decide +kernel
theorem dX8_come_152 : decode cX8_come 152 = .ok (.aload_n 0, 1) := by decide +kernel
theorem dX8_come_153 : decode cX8_come 153 = .ok (.getfield 34, 3) := by decide +kernel
theorem dX8_come_156 : decode cX8_come 156 = .ok (.getfield 91, 3) := by decide +kernel
theorem dX8_come_159 : decode cX8_come 159 = .ok (.imul, 1) := by decide +kernel
theorem dX8_come_160 : decode cX8_come 160 = .ok (.bipush 10, 2) := by decide +kernel
theorem dX8_come_162 : decode cX8_come 162 = .ok (.invokestatic 97, 3) := by decide +kernel
theorem dX8_come_165 : decode cX8_come 165 = .ok (.aload_n 0, 1) := by decide +kernel
theorem dX8_come_166 : decode cX8_come 166 = .ok (.getfield 34, 3) := by decide +kernel
theorem dX8_come_169 : decode cX8_come 169 = .ok (.aload_n 0, 1) := by decide +kernel
theorem dX8_come_170 : decode cX8_come 170 = .ok (.getfield 34, 3) := by decide +kernel
theorem dX8_come_173 : decode cX8_come 173 = .ok (.getfield 91, 3) := by decide +kernel
theorem dX8_come_176 : decode cX8_come 176 = .ok (.iload_n 1, 1) := by decide +kernel
theorem dX8_come_177 : decode cX8_come 177 = .ok (.aload_n 0, 1) := by decide +kernel
theorem dX8_come_178 : decode cX8_come 178 = .ok (.getfield 34, 3) := by decide +kernel
theorem dX8_come_181 : decode cX8_come 181 = .ok (.getfield 103, 3) := by decide +kernel
theorem dX8_come_184 : decode cX8_come 184 = .ok (.iconst 5, 1) := by decide +kernel
theorem dX8_come_185 : decode cX8_come 185 = .ok (.iload_n 1, 1) := by decide +kernel
theorem dX8_come_186 : decode cX8_come 186 = .ok (.imul, 1) := by decide +kernel
theorem dX8_come_187 : decode cX8_come 187 = .ok (.iconst 3, 1) := by decide +kernel
theorem dX8_come_188 : decode cX8_come 188 = .ok (.iadd, 1) := by decide +kernel
theorem dX8_come_189 : decode cX8_come 189 = .ok (.iaload, 1) := by decide +kernel
theorem dX8_come_190 : decode cX8_come 190 = .ok (.invokevirtual 106, 3) := by decide +kernel
theorem dX8_come_193 : decode cX8_come 193 = .ok (.aload_n 0, 1) := by decide +kernel
theorem dX8_come_194 : decode cX8_come 194 = .ok (.getfield 34, 3) := by decide +kernel
theorem dX8_come_197 : decode cX8_come 197 = .ok (.dup, 1) := by decide +kernel
theorem dX8_come_198 : decode cX8_come 198 = .ok (.getfield 91, 3) := by decide +kernel
theorem dX8_come_201 : decode cX8_come 201 = .ok (.iconst 1, 1) := by decide +kernel
theorem dX8_come_202 : decode cX8_come 202 = .ok (.iadd, 1) := by decide +kernel
theorem dX8_come_203 : decode cX8_come 203 = .ok (.putfield 91, 3) := by decide +kernel
theorem dX8_come_206 : decode cX8_come 206 = .ok (.aload_n 0, 1) := by decide +kernel
theorem dX8_come_207 : decode cX8_come 207 = .ok (.getfield 34, 3) := by decide +kernel
theorem dX8_come_210 : decode cX8_come 210 = .ok (.getfield 91, 3) := by decide +kernel
theorem dX8_come_213 : decode cX8_come 213 = .ok (.iconst 1, 1) := by decide +kernel
theorem dX8_come_214 : decode cX8_come 214 = .ok (.isub, 1) := by decide +kernel
theorem dX8_come_215 : decode cX8_come 215 = .ok (.ireturn, 1) := by decide +kernel
theorem dX8_cartTold_0 : decode cX8_cartTold 0 = .ok (.iload_n 2, 1) := by decide +kernel
theorem dX8_cartTold_1 : decode cX8_cartTold 1 = .ok (.bipush 7, 2) := by decide +kernel
theorem dX8_cartTold_3 : decode cX8_cartTold 3 = .ok (.if_icmp .ne 38, 3) := by decide +kernel
theorem dX8_cartTold_6 : decode cX8_cartTold 6 = .ok (.aload_n 0, 1) := by decide +kernel
theorem dX8_cartTold_7 : decode cX8_cartTold 7 = .ok (.getfield 34, 3) := by decide +kernel
theorem dX8_cartTold_10 : decode cX8_cartTold 10 = .ok (.iload_n 1, 1) := by decide +kernel
theorem dX8_cartTold_11 : decode cX8_cartTold 11 = .ok (.iconst 0, 1) := by decide +kernel
theorem dX8_cartTold_12 : decode cX8_cartTold 12 = .ok (.invokevirtual 110, 3) := by decide +kernel
theorem dX8_cartTold_15 : decode cX8_cartTold 15 = .ok (.aload_n 0, 1) := by decide +kernel
theorem dX8_cartTold_16 : decode cX8_cartTold 16 = .ok (.getfield 23, 3) := by decide +kernel
theorem dX8_cartTold_19 : decode cX8_cartTold 19 = .ok (.imul, 1) := by decide +kernel
theorem dX8_cartTold_20 : decode cX8_cartTold 20 = .ok (.aload_n 0, 1) := by decide +kernel
theorem dX8_cartTold_21 : decode cX8_cartTold 21 = .ok (.getfield 34, 3) := by decide +kernel
theorem dX8_cartTold_24 : decode cX8_cartTold 24 = .ok (.iload_n 1, 1) := by decide +kernel
theorem dX8_cartTold_25 : decode cX8_cartTold 25 = .ok (.iconst 1, 1) := by decide +kernel
theorem dX8_cartTold_26 : decode cX8_cartTold 26 = .ok (.invokevirtual 110, 3) := by decide +kernel
theorem dX8_cartTold_29 : decode cX8_cartTold 29 = .ok (.bipush 10, 2) := by decide +kernel
theorem dX8_cartTold_31 : decode cX8_cartTold 31 = .ok (.idiv, 1) := by decide +kernel
theorem dX8_cartTold_32 : decode cX8_cartTold 32 = .ok (.aload_n 0, 1) := by decide +kernel
theorem dX8_cartTold_33 : decode cX8_cartTold 33 = .ok (.getfield 26, 3) := by decide +kernel
theorem dX8_cartTold_36 : decode cX8_cartTold 36 = .ok (.imul, 1) := by decide +kernel
theorem dX8_cartTold_37 : decode cX8_cartTold 37 = .ok (.iadd, 1) := by decide +kernel
theorem dX8_cartTold_38 : decode cX8_cartTold 38 = .ok (.goto 12, 3) := by decide +kernel
theorem dX8_cartTold_41 : decode cX8_cartTold 41 = .ok (.aload_n 0, 1) := by decide +kernel
theorem dX8_cartTold_42 : decode cX8_cartTold 42 = .ok (.getfield 34, 3) := by decide +kernel
theorem dX8_cartTold_45 : decode cX8_cartTold 45 = .ok (.iload_n 1, 1) := by decide +kernel
theorem dX8_cartTold_46 : decode cX8_cartTold 46 = .ok (.iload_n 2, 1) := by decide +kernel
theorem dX8_cartTold_47 : decode cX8_cartTold 47 = .ok (.invokevirtual 110, 3) := by decide +kernel
theorem dX8_cartTold_50 : decode cX8_cartTold 50 = .ok (.ireturn, 1) := by decide +kernel
theorem dX8_isCart_0 : decode cX8_isCart 0 = .ok (.iload_n 1, 1) := by decide +kernel
theorem dX8_isCart_1 : decode cX8_isCart 1 = .ok (.iconst 0, 1) := by decide +kernel
theorem dX8_isCart_2 : decode cX8_isCart 2 = .ok (.aload_n 0, 1) := by decide +kernel
theorem dX8_isCart_3 : decode cX8_isCart 3 = .ok (.getfield 34, 3) := by decide +kernel
theorem dX8_isCart_6 : decode cX8_isCart 6 = .ok (.getfield 91, 3) := by decide +kernel
theorem dX8_isCart_9 : decode cX8_isCart 9 = .ok (.iconst 1, 1) := by decide +kernel
theorem dX8_isCart_10 : decode cX8_isCart 10 = .ok (.isub, 1) := by decide +kernel
theorem dX8_isCart_11 : decode cX8_isCart 11 = .ok (.invokestatic 48, 3) := by decide +kernel
theorem dX8_isCart_14 : decode cX8_isCart 14 = .ok (.ireturn, 1) := by decide +kernel
theorem dX8_cart_0 : decode cX8_cart 0 = .ok (.aload_n 0, 1) := by decide +kernel
theorem dX8_cart_1 : decode cX8_cart 1 = .ok (.iconst 0, 1) := by decide +kernel
theorem dX8_cart_2 : decode cX8_cart 2 = .ok (.putfield 41, 3) := by decide +kernel
theorem dX8_cart_5 : decode cX8_cart 5 = .ok (.aload_n 0, 1) := by decide +kernel
theorem dX8_cart_6 : decode cX8_cart 6 = .ok (.iload_n 1, 1) := by decide +kernel
theorem dX8_cart_7 : decode cX8_cart 7 = .ok (.invokevirtual 113, 3) := by decide +kernel
theorem dX8_cart_10 : decode cX8_cart 10 = .ok (.ifCond .eq 22, 3) := by decide +kernel
theorem dX8_cart_13 : decode cX8_cart 13 = .ok (.iload_n 2, 1) := by decide +kernel
theorem dX8_cart_14 : decode cX8_cart 14 = .ok (.iconst 0, 1) := by decide +kernel
theorem dX8_cart_15 : decode cX8_cart 15 = .ok (.bipush 8, 2) := by decide +kernel
theorem dX8_cart_17 : decode cX8_cart 17 = .ok (.invokestatic 48, 3) := by decide +kernel
theorem dX8_cart_20 : decode cX8_cart 20 = .ok (.ifCond .eq 12, 3) := by decide +kernel
theorem dX8_cart_23 : decode cX8_cart 23 = .ok (.aload_n 0, 1) := by decide +kernel
theorem dX8_cart_24 : decode cX8_cart 24 = .ok (.iload_n 1, 1) := by decide +kernel
theorem dX8_cart_25 : decode cX8_cart 25 = .ok (.iload_n 2, 1) := by decide +kernel
theorem dX8_cart_26 : decode cX8_cart 26 = .ok (.invokevirtual 116, 3) := by decide +kernel
theorem dX8_cart_29 : decode cX8_cart 29 = .ok (.goto 8, 3) := by decide +kernel
theorem dX8_cart_32 : decode cX8_cart 32 = .ok (.aload_n 0, 1) := by decide +kernel
theorem dX8_cart_33 : decode cX8_cart 33 = .ok (.iconst 1, 1) := by decide +kernel
theorem dX8_cart_34 : decode cX8_cart 34 = .ok (.invokevirtual 59, 3) := by decide +kernel
theorem dX8_cart_37 : decode cX8_cart 37 = .ok (.ireturn, 1) := by decide +kernel
theorem dX8_queue_0 : decode cX8_queue 0 = .ok (.aload_n 0, 1) := by decide +kernel
theorem dX8_queue_1 : decode cX8_queue 1 = .ok (.iconst 0, 1) := by decide +kernel
theorem dX8_queue_2 : decode cX8_queue 2 = .ok (.putfield 41, 3) := by decide +kernel
theorem dX8_queue_5 : decode cX8_queue 5 = .ok (.iload_n 1, 1) := by decide +kernel
theorem dX8_queue_6 : decode cX8_queue 6 = .ok (.iconst 0, 1) := by decide +kernel
theorem dX8_queue_7 : decode cX8_queue 7 = .ok (.iconst 1, 1) := by decide +kernel
theorem dX8_queue_8 : decode cX8_queue 8 = .ok (.invokestatic 48, 3) := by decide +kernel
theorem dX8_queue_11 : decode cX8_queue 11 = .ok (.ifCond .eq 43, 3) := by decide +kernel
theorem dX8_queue_14 : decode cX8_queue 14 = .ok (.iload_n 2, 1) := by decide +kernel
theorem dX8_queue_15 : decode cX8_queue 15 = .ok (.iconst 0, 1) := by decide +kernel
theorem dX8_queue_16 : decode cX8_queue 16 = .ok (.aload_n 0, 1) := by decide +kernel
theorem dX8_queue_17 : decode cX8_queue 17 = .ok (.getfield 34, 3) := by decide +kernel
theorem dX8_queue_20 : decode cX8_queue 20 = .ok (.getfield 103, 3) := by decide +kernel
theorem dX8_queue_23 : decode cX8_queue 23 = .ok (.iconst 5, 1) := by decide +kernel
theorem dX8_queue_24 : decode cX8_queue 24 = .ok (.iload_n 1, 1) := by decide +kernel
theorem dX8_queue_25 : decode cX8_queue 25 = .ok (.imul, 1) := by decide +kernel
theorem dX8_queue_26 : decode cX8_queue 26 = .ok (.iconst 3, 1) := by decide +kernel
theorem dX8_queue_27 : decode cX8_queue 27 = .ok (.iadd, 1) := by decide +kernel
theorem dX8_queue_28 : decode cX8_queue 28 = .ok (.iaload, 1) := by decide +kernel
theorem dX8_queue_29 : decode cX8_queue 29 = .ok (.iconst 1, 1) := by decide +kernel
theorem dX8_queue_30 : decode cX8_queue 30 = .ok (.isub, 1) := by decide +kernel
theorem dX8_queue_31 : decode cX8_queue 31 = .ok (.invokestatic 48, 3) := by decide +kernel
theorem dX8_queue_34 : decode cX8_queue 34 = .ok (.ifCond .eq 20, 3) := by decide +kernel
theorem dX8_queue_37 : decode cX8_queue 37 = .ok (.aload_n 0, 1) := by decide +kernel
theorem dX8_queue_38 : decode cX8_queue 38 = .ok (.getfield 34, 3) := by decide +kernel
theorem dX8_queue_41 : decode cX8_queue 41 = .ok (.getfield 119, 3) := by decide +kernel
theorem dX8_queue_44 : decode cX8_queue 44 = .ok (.bipush 16, 2) := by decide +kernel
theorem dX8_queue_46 : decode cX8_queue 46 = .ok (.iload_n 1, 1) := by decide +kernel
theorem dX8_queue_47 : decode cX8_queue 47 = .ok (.imul, 1) := by decide +kernel
theorem dX8_queue_48 : decode cX8_queue 48 = .ok (.iload_n 2, 1) := by decide +kernel
theorem dX8_queue_49 : decode cX8_queue 49 = .ok (.iadd, 1) := by decide +kernel
theorem dX8_queue_50 : decode cX8_queue 50 = .ok (.iaload, 1) := by decide +kernel
theorem dX8_queue_51 : decode cX8_queue 51 = .ok (.goto 8, 3) := by decide +kernel
theorem dX8_queue_54 : decode cX8_queue 54 = .ok (.aload_n 0, 1) := by decide +kernel
theorem dX8_queue_55 : decode cX8_queue 55 = .ok (.iconst 1, 1) := by decide +kernel
theorem dX8_queue_56 : decode cX8_queue 56 = .ok (.invokevirtual 59, 3) := by decide +kernel
theorem dX8_queue_59 : decode cX8_queue 59 = .ok (.ireturn, 1) := by decide +kernel
theorem dX8_box_0 : decode cX8_box 0 = .ok (.aload_n 0, 1) := by decide +kernel
theorem dX8_box_1 : decode cX8_box 1 = .ok (.iconst 0, 1) := by decide +kernel
theorem dX8_box_2 : decode cX8_box 2 = .ok (.putfield 41, 3) := by decide +kernel
theorem dX8_box_5 : decode cX8_box 5 = .ok (.iload_n 1, 1) := by decide +kernel
theorem dX8_box_6 : decode cX8_box 6 = .ok (.iconst 0, 1) := by decide +kernel
theorem dX8_box_7 : decode cX8_box 7 = .ok (.iconst 1, 1) := by decide +kernel
theorem dX8_box_8 : decode cX8_box 8 = .ok (.invokestatic 48, 3) := by decide +kernel
theorem dX8_box_11 : decode cX8_box 11 = .ok (.ifCond .eq 28, 3) := by decide +kernel
theorem dX8_box_14 : decode cX8_box 14 = .ok (.iload_n 2, 1) := by decide +kernel
theorem dX8_box_15 : decode cX8_box 15 = .ok (.iconst 0, 1) := by decide +kernel
theorem dX8_box_16 : decode cX8_box 16 = .ok (.iconst 3, 1) := by decide +kernel
theorem dX8_box_17 : decode cX8_box 17 = .ok (.invokestatic 48, 3) := by decide +kernel
theorem dX8_box_20 : decode cX8_box 20 = .ok (.ifCond .eq 19, 3) := by decide +kernel
theorem dX8_box_23 : decode cX8_box 23 = .ok (.aload_n 0, 1) := by decide +kernel
theorem dX8_box_24 : decode cX8_box 24 = .ok (.getfield 34, 3) := by decide +kernel
theorem dX8_box_27 : decode cX8_box 27 = .ok (.getfield 103, 3) := by decide +kernel
theorem dX8_box_30 : decode cX8_box 30 = .ok (.iconst 5, 1) := by decide +kernel
theorem dX8_box_31 : decode cX8_box 31 = .ok (.iload_n 1, 1) := by decide +kernel
theorem dX8_box_32 : decode cX8_box 32 = .ok (.imul, 1) := by decide +kernel
theorem dX8_box_33 : decode cX8_box 33 = .ok (.iload_n 2, 1) := by decide +kernel
theorem dX8_box_34 : decode cX8_box 34 = .ok (.iadd, 1) := by decide +kernel
theorem dX8_box_35 : decode cX8_box 35 = .ok (.iaload, 1) := by decide +kernel
theorem dX8_box_36 : decode cX8_box 36 = .ok (.goto 8, 3) := by decide +kernel
theorem dX8_box_39 : decode cX8_box 39 = .ok (.aload_n 0, 1) := by decide +kernel
theorem dX8_box_40 : decode cX8_box 40 = .ok (.iconst 1, 1) := by decide +kernel
theorem dX8_box_41 : decode cX8_box 41 = .ok (.invokevirtual 59, 3) := by decide +kernel
theorem dX8_box_44 : decode cX8_box 44 = .ok (.ireturn, 1) := by decide +kernel
theorem dX8_empty_0 : decode cX8_empty 0 = .ok (.aload_n 0, 1) := by decide +kernel
theorem dX8_empty_1 : decode cX8_empty 1 = .ok (.iconst 0, 1) := by decide +kernel
theorem dX8_empty_2 : decode cX8_empty 2 = .ok (.putfield 41, 3) := by decide +kernel
theorem dX8_empty_5 : decode cX8_empty 5 = .ok (.iload_n 1, 1) := by decide +kernel
theorem dX8_empty_6 : decode cX8_empty 6 = .ok (.iconst 0, 1) := by decide +kernel
theorem dX8_empty_7 : decode cX8_empty 7 = .ok (.iconst 1, 1) := by decide +kernel
theorem dX8_empty_8 : decode cX8_empty 8 = .ok (.invokestatic 48, 3) := by decide +kernel
theorem dX8_empty_11 : decode cX8_empty 11 = .ok (.ifCond .ne 9, 3) := by decide +kernel
theorem dX8_empty_14 : decode cX8_empty 14 = .ok (.aload_n 0, 1) := by decide +kernel
theorem dX8_empty_15 : decode cX8_empty 15 = .ok (.iconst 1, 1) := by decide +kernel
theorem dX8_empty_16 : decode cX8_empty 16 = .ok (.invokevirtual 59, 3) := by decide +kernel
theorem dX8_empty_19 : decode cX8_empty 19 = .ok (.ireturn, 1) := by decide +kernel
theorem dX8_empty_20 : decode cX8_empty 20 = .ok (.aload_n 0, 1) := by decide +kernel
theorem dX8_empty_21 : decode cX8_empty 21 = .ok (.getfield 34, 3) := by decide +kernel
theorem dX8_empty_24 : decode cX8_empty 24 = .ok (.getfield 103, 3) := by decide +kernel
theorem dX8_empty_27 : decode cX8_empty 27 = .ok (.iconst 5, 1) := by decide +kernel
theorem dX8_empty_28 : decode cX8_empty 28 = .ok (.iload_n 1, 1) := by decide +kernel
theorem dX8_empty_29 : decode cX8_empty 29 = .ok (.imul, 1) := by decide +kernel
theorem dX8_empty_30 : decode cX8_empty 30 = .ok (.iconst 4, 1) := by decide +kernel
theorem dX8_empty_31 : decode cX8_empty 31 = .ok (.iadd, 1) := by decide +kernel
theorem dX8_empty_32 : decode cX8_empty 32 = .ok (.iaload, 1) := by decide +kernel
theorem dX8_empty_33 : decode cX8_empty 33 = .ok (.istore_n 2, 1) := by decide +kernel
theorem dX8_empty_34 : decode cX8_empty 34 = .ok (.aload_n 0, 1) := by decide +kernel
theorem dX8_empty_35 : decode cX8_empty 35 = .ok (.getfield 34, 3) := by decide +kernel
theorem dX8_empty_38 : decode cX8_empty 38 = .ok (.getfield 103, 3) := by decide +kernel
theorem dX8_empty_41 : decode cX8_empty 41 = .ok (.iconst 5, 1) := by decide +kernel
theorem dX8_empty_42 : decode cX8_empty 42 = .ok (.iload_n 1, 1) := by decide +kernel
theorem dX8_empty_43 : decode cX8_empty 43 = .ok (.imul, 1) := by decide +kernel
theorem dX8_empty_44 : decode cX8_empty 44 = .ok (.iconst 0, 1) := by decide +kernel
theorem dX8_empty_45 : decode cX8_empty 45 = .ok (.iastore, 1) := by decide +kernel
theorem dX8_empty_46 : decode cX8_empty 46 = .ok (.aload_n 0, 1) := by decide +kernel
theorem dX8_empty_47 : decode cX8_empty 47 = .ok (.getfield 34, 3) := by decide +kernel
theorem dX8_empty_50 : decode cX8_empty 50 = .ok (.getfield 103, 3) := by decide +kernel
theorem dX8_empty_53 : decode cX8_empty 53 = .ok (.iconst 5, 1) := by decide +kernel
theorem dX8_empty_54 : decode cX8_empty 54 = .ok (.iload_n 1, 1) := by decide +kernel
theorem dX8_empty_55 : decode cX8_empty 55 = .ok (.imul, 1) := by decide +kernel
theorem dX8_empty_56 : decode cX8_empty 56 = .ok (.iconst 4, 1) := by decide +kernel
theorem dX8_empty_57 : decode cX8_empty 57 = .ok (.iadd, 1) := by decide +kernel
theorem dX8_empty_58 : decode cX8_empty 58 = .ok (.iconst 0, 1) := by decide +kernel
theorem dX8_empty_59 : decode cX8_empty 59 = .ok (.iastore, 1) := by decide +kernel
theorem dX8_empty_60 : decode cX8_empty 60 = .ok (.iload_n 2, 1) := by decide +kernel
theorem dX8_empty_61 : decode cX8_empty 61 = .ok (.ireturn, 1) := by decide +kernel
theorem dX8_pass_0 : decode cX8_pass 0 = .ok (.aload_n 0, 1) := by decide +kernel
theorem dX8_pass_1 : decode cX8_pass 1 = .ok (.iconst 0, 1) := by decide +kernel
theorem dX8_pass_2 : decode cX8_pass 2 = .ok (.putfield 41, 3) := by decide +kernel
theorem dX8_pass_5 : decode cX8_pass 5 = .ok (.iload_n 1, 1) := by decide +kernel
theorem dX8_pass_6 : decode cX8_pass 6 = .ok (.iconst 1, 1) := by decide +kernel
theorem dX8_pass_7 : decode cX8_pass 7 = .ok (.sipush 200, 3) := by decide +kernel
theorem dX8_pass_10 : decode cX8_pass 10 = .ok (.invokestatic 48, 3) := by decide +kernel
theorem dX8_pass_13 : decode cX8_pass 13 = .ok (.ifCond .ne 9, 3) := by decide +kernel
theorem dX8_pass_16 : decode cX8_pass 16 = .ok (.aload_n 0, 1) := by decide +kernel
theorem dX8_pass_17 : decode cX8_pass 17 = .ok (.iconst 1, 1) := by decide +kernel
theorem dX8_pass_18 : decode cX8_pass 18 = .ok (.invokevirtual 59, 3) := by decide +kernel
theorem dX8_pass_21 : decode cX8_pass 21 = .ok (.ireturn, 1) := by decide +kernel
theorem dX8_pass_22 : decode cX8_pass 22 = .ok (.iconst 0, 1) := by decide +kernel
theorem dX8_pass_23 : decode cX8_pass 23 = .ok (.istore_n 2, 1) := by decide +kernel
theorem dX8_pass_24 : decode cX8_pass 24 = .ok (.iconst 0, 1) := by decide +kernel
theorem dX8_pass_25 : decode cX8_pass 25 = .ok (.istore_n 3, 1) := by decide +kernel
theorem dX8_pass_26 : decode cX8_pass 26 = .ok (.iload_n 3, 1) := by decide +kernel
theorem dX8_pass_27 : decode cX8_pass 27 = .ok (.iload_n 1, 1) := by decide +kernel
theorem dX8_pass_28 : decode cX8_pass 28 = .ok (.if_icmp .ge 19, 3) := by decide +kernel
theorem dX8_pass_31 : decode cX8_pass 31 = .ok (.iload_n 2, 1) := by decide +kernel
theorem dX8_pass_32 : decode cX8_pass 32 = .ok (.aload_n 0, 1) := by decide +kernel
theorem dX8_pass_33 : decode cX8_pass 33 = .ok (.getfield 34, 3) := by decide +kernel
theorem dX8_pass_36 : decode cX8_pass 36 = .ok (.invokevirtual 122, 3) := by decide +kernel
theorem dX8_pass_39 : decode cX8_pass 39 = .ok (.iadd, 1) := by decide +kernel
theorem dX8_pass_40 : decode cX8_pass 40 = .ok (.istore_n 2, 1) := by decide +kernel
theorem dX8_pass_41 : decode cX8_pass 41 = .ok (.iinc 3 1, 3) := by decide +kernel
theorem dX8_pass_44 : decode cX8_pass 44 = .ok (.goto (-18), 3) := by decide +kernel
theorem dX8_pass_47 : decode cX8_pass 47 = .ok (.iload_n 2, 1) := by decide +kernel
theorem dX8_pass_48 : decode cX8_pass 48 = .ok (.ireturn, 1) := by decide +kernel
theorem dX8_counted_0 : decode cX8_counted 0 = .ok (.bipush 11, 2) := by decide +kernel
theorem dX8_counted_2 : decode cX8_counted 2 = .ok (.newarray .int, 2) := by decide +kernel
theorem dX8_counted_4 : decode cX8_counted 4 = .ok (.dup, 1) := by decide +kernel
theorem dX8_counted_5 : decode cX8_counted 5 = .ok (.iconst 0, 1) := by decide +kernel
theorem dX8_counted_6 : decode cX8_counted 6 = .ok (.aload_n 0, 1) := by decide +kernel
theorem dX8_counted_7 : decode cX8_counted 7 = .ok (.getfield 34, 3) := by decide +kernel
theorem dX8_counted_10 : decode cX8_counted 10 = .ok (.getfield 79, 3) := by decide +kernel
theorem dX8_counted_13 : decode cX8_counted 13 = .ok (.iastore, 1) := by decide +kernel
theorem dX8_counted_14 : decode cX8_counted 14 = .ok (.dup, 1) := by decide +kernel
theorem dX8_counted_15 : decode cX8_counted 15 = .ok (.iconst 1, 1) := by decide +kernel
theorem dX8_counted_16 : decode cX8_counted 16 = .ok (.aload_n 0, 1) := by decide +kernel
theorem dX8_counted_17 : decode cX8_counted 17 = .ok (.getfield 62, 3) := by decide +kernel
theorem dX8_counted_20 : decode cX8_counted 20 = .ok (.iastore, 1) := by decide +kernel
theorem dX8_counted_21 : decode cX8_counted 21 = .ok (.dup, 1) := by decide +kernel
theorem dX8_counted_22 : decode cX8_counted 22 = .ok (.iconst 2, 1) := by decide +kernel
theorem dX8_counted_23 : decode cX8_counted 23 = .ok (.aload_n 0, 1) := by decide +kernel
theorem dX8_counted_24 : decode cX8_counted 24 = .ok (.getfield 34, 3) := by decide +kernel
theorem dX8_counted_27 : decode cX8_counted 27 = .ok (.getfield 91, 3) := by decide +kernel
theorem dX8_counted_30 : decode cX8_counted 30 = .ok (.iastore, 1) := by decide +kernel
theorem dX8_counted_31 : decode cX8_counted 31 = .ok (.dup, 1) := by decide +kernel
theorem dX8_counted_32 : decode cX8_counted 32 = .ok (.iconst 3, 1) := by decide +kernel
theorem dX8_counted_33 : decode cX8_counted 33 = .ok (.aload_n 0, 1) := by decide +kernel
theorem dX8_counted_34 : decode cX8_counted 34 = .ok (.getfield 34, 3) := by decide +kernel
theorem dX8_counted_37 : decode cX8_counted 37 = .ok (.iconst 0, 1) := by decide +kernel
theorem dX8_counted_38 : decode cX8_counted 38 = .ok (.invokevirtual 85, 3) := by decide +kernel
theorem dX8_counted_41 : decode cX8_counted 41 = .ok (.iastore, 1) := by decide +kernel
theorem dX8_counted_42 : decode cX8_counted 42 = .ok (.dup, 1) := by decide +kernel
theorem dX8_counted_43 : decode cX8_counted 43 = .ok (.iconst 4, 1) := by decide +kernel
theorem dX8_counted_44 : decode cX8_counted 44 = .ok (.aload_n 0, 1) := by decide +kernel
theorem dX8_counted_45 : decode cX8_counted 45 = .ok (.getfield 34, 3) := by decide +kernel
theorem dX8_counted_48 : decode cX8_counted 48 = .ok (.iconst 1, 1) := by decide +kernel
theorem dX8_counted_49 : decode cX8_counted 49 = .ok (.invokevirtual 85, 3) := by decide +kernel
theorem dX8_counted_52 : decode cX8_counted 52 = .ok (.iastore, 1) := by decide +kernel
theorem dX8_counted_53 : decode cX8_counted 53 = .ok (.dup, 1) := by decide +kernel
theorem dX8_counted_54 : decode cX8_counted 54 = .ok (.iconst 5, 1) := by decide +kernel
theorem dX8_counted_55 : decode cX8_counted 55 = .ok (.aload_n 0, 1) := by decide +kernel
theorem dX8_counted_56 : decode cX8_counted 56 = .ok (.getfield 34, 3) := by decide +kernel
theorem dX8_counted_59 : decode cX8_counted 59 = .ok (.iconst 2, 1) := by decide +kernel
theorem dX8_counted_60 : decode cX8_counted 60 = .ok (.invokevirtual 85, 3) := by decide +kernel
theorem dX8_counted_63 : decode cX8_counted 63 = .ok (.iastore, 1) := by decide +kernel
theorem dX8_counted_64 : decode cX8_counted 64 = .ok (.dup, 1) := by decide +kernel
theorem dX8_counted_65 : decode cX8_counted 65 = .ok (.bipush 6, 2) := by decide +kernel
theorem dX8_counted_67 : decode cX8_counted 67 = .ok (.aload_n 0, 1) := by decide +kernel
theorem dX8_counted_68 : decode cX8_counted 68 = .ok (.getfield 34, 3) := by decide +kernel
theorem dX8_counted_71 : decode cX8_counted 71 = .ok (.iconst 3, 1) := by decide +kernel
theorem dX8_counted_72 : decode cX8_counted 72 = .ok (.invokevirtual 85, 3) := by decide +kernel
theorem dX8_counted_75 : decode cX8_counted 75 = .ok (.iastore, 1) := by decide +kernel
theorem dX8_counted_76 : decode cX8_counted 76 = .ok (.dup, 1) := by decide +kernel
theorem dX8_counted_77 : decode cX8_counted 77 = .ok (.bipush 7, 2) := by decide +kernel
theorem dX8_counted_79 : decode cX8_counted 79 = .ok (.aload_n 0, 1) := by decide +kernel
theorem dX8_counted_80 : decode cX8_counted 80 = .ok (.getfield 34, 3) := by decide +kernel
theorem dX8_counted_83 : decode cX8_counted 83 = .ok (.getfield 88, 3) := by decide +kernel
theorem dX8_counted_86 : decode cX8_counted 86 = .ok (.iastore, 1) := by decide +kernel
theorem dX8_counted_87 : decode cX8_counted 87 = .ok (.dup, 1) := by decide +kernel
theorem dX8_counted_88 : decode cX8_counted 88 = .ok (.bipush 8, 2) := by decide +kernel
theorem dX8_counted_90 : decode cX8_counted 90 = .ok (.aload_n 0, 1) := by decide +kernel
theorem dX8_counted_91 : decode cX8_counted 91 = .ok (.getfield 34, 3) := by decide +kernel
theorem dX8_counted_94 : decode cX8_counted 94 = .ok (.invokevirtual 126, 3) := by decide +kernel
theorem dX8_counted_97 : decode cX8_counted 97 = .ok (.iastore, 1) := by decide +kernel
theorem dX8_counted_98 : decode cX8_counted 98 = .ok (.dup, 1) := by decide +kernel
theorem dX8_counted_99 : decode cX8_counted 99 = .ok (.bipush 9, 2) := by decide +kernel
theorem dX8_counted_101 : decode cX8_counted 101 = .ok (.aload_n 0, 1) := by decide +kernel
theorem dX8_counted_102 : decode cX8_counted 102 = .ok (.getfield 16, 3) := by decide +kernel
theorem dX8_counted_105 : decode cX8_counted 105 = .ok (.iastore, 1) := by decide +kernel
theorem dX8_counted_106 : decode cX8_counted 106 = .ok (.dup, 1) := by decide +kernel
theorem dX8_counted_107 : decode cX8_counted 107 = .ok (.bipush 10, 2) := by decide +kernel
theorem dX8_counted_109 : decode cX8_counted 109 = .ok (.aload_n 0, 1) := by decide +kernel
theorem dX8_counted_110 : decode cX8_counted 110 = .ok (.getfield 20, 3) := by decide +kernel
theorem dX8_counted_113 : decode cX8_counted 113 = .ok (.iastore, 1) := by decide +kernel
theorem dX8_counted_114 : decode cX8_counted 114 = .ok (.astore_n 2, 1) := by decide +kernel
theorem dX8_counted_115 : decode cX8_counted 115 = .ok (.aload_n 2, 1) := by decide +kernel
theorem dX8_counted_116 : decode cX8_counted 116 = .ok (.iload_n 1, 1) := by decide +kernel
theorem dX8_counted_117 : decode cX8_counted 117 = .ok (.iaload, 1) := by decide +kernel
theorem dX8_counted_118 : decode cX8_counted 118 = .ok (.ireturn, 1) := by decide +kernel
theorem dX8_count_0 : decode cX8_count 0 = .ok (.aload_n 0, 1) := by decide +kernel
theorem dX8_count_1 : decode cX8_count 1 = .ok (.iconst 0, 1) := by decide +kernel
theorem dX8_count_2 : decode cX8_count 2 = .ok (.putfield 41, 3) := by decide +kernel
theorem dX8_count_5 : decode cX8_count 5 = .ok (.iload_n 1, 1) := by decide +kernel
theorem dX8_count_6 : decode cX8_count 6 = .ok (.iconst 0, 1) := by decide +kernel
theorem dX8_count_7 : decode cX8_count 7 = .ok (.bipush 10, 2) := by decide +kernel
theorem dX8_count_9 : decode cX8_count 9 = .ok (.invokestatic 48, 3) := by decide +kernel
theorem dX8_count_12 : decode cX8_count 12 = .ok (.ifCond .eq 11, 3) := by decide +kernel
theorem dX8_count_15 : decode cX8_count 15 = .ok (.aload_n 0, 1) := by decide +kernel
theorem dX8_count_16 : decode cX8_count 16 = .ok (.iload_n 1, 1) := by decide +kernel
theorem dX8_count_17 : decode cX8_count 17 = .ok (.invokevirtual 129, 3) := by decide +kernel
theorem dX8_count_20 : decode cX8_count 20 = .ok (.goto 8, 3) := by decide +kernel
theorem dX8_count_23 : decode cX8_count 23 = .ok (.aload_n 0, 1) := by decide +kernel
theorem dX8_count_24 : decode cX8_count 24 = .ok (.iconst 1, 1) := by decide +kernel
theorem dX8_count_25 : decode cX8_count 25 = .ok (.invokevirtual 59, 3) := by decide +kernel
theorem dX8_count_28 : decode cX8_count 28 = .ok (.ireturn, 1) := by decide +kernel
theorem dX8_over_0 : decode cX8_over 0 = .ok (.aload_n 0, 1) := by decide +kernel
theorem dX8_over_1 : decode cX8_over 1 = .ok (.iconst 0, 1) := by decide +kernel
theorem dX8_over_2 : decode cX8_over 2 = .ok (.putfield 41, 3) := by decide +kernel
theorem dX8_over_5 : decode cX8_over 5 = .ok (.aload_n 0, 1) := by decide +kernel
theorem dX8_over_6 : decode cX8_over 6 = .ok (.iload_n 1, 1) := by decide +kernel
theorem dX8_over_7 : decode cX8_over 7 = .ok (.invokevirtual 113, 3) := by decide +kernel
theorem dX8_over_10 : decode cX8_over 10 = .ok (.ifCond .ne 9, 3) := by decide +kernel
theorem dX8_over_13 : decode cX8_over 13 = .ok (.aload_n 0, 1) := by decide +kernel
theorem dX8_over_14 : decode cX8_over 14 = .ok (.iconst 1, 1) := by decide +kernel
theorem dX8_over_15 : decode cX8_over 15 = .ok (.invokevirtual 59, 3) := by decide +kernel
theorem dX8_over_18 : decode cX8_over 18 = .ok (.ireturn, 1) := by decide +kernel
theorem dX8_over_19 : decode cX8_over 19 = .ok (.aload_n 0, 1) := by decide +kernel
theorem dX8_over_20 : decode cX8_over 20 = .ok (.getfield 38, 3) := by decide +kernel
theorem dX8_over_23 : decode cX8_over 23 = .ok (.aload_n 0, 1) := by decide +kernel
theorem dX8_over_24 : decode cX8_over 24 = .ok (.getfield 34, 3) := by decide +kernel
theorem dX8_over_27 : decode cX8_over 27 = .ok (.invokevirtual 132, 3) := by decide +kernel
theorem dX8_over_30 : decode cX8_over 30 = .ok (.iconst 0, 1) := by decide +kernel
theorem dX8_over_31 : decode cX8_over 31 = .ok (.istore_n 2, 1) := by decide +kernel
theorem dX8_over_32 : decode cX8_over 32 = .ok (.iload_n 2, 1) := by decide +kernel
theorem dX8_over_33 : decode cX8_over 33 = .ok (.sipush 200, 3) := by decide +kernel
theorem dX8_over_36 : decode cX8_over 36 = .ok (.if_icmp .gt 48, 3) := by decide +kernel
theorem dX8_over_39 : decode cX8_over 39 = .ok (.aload_n 0, 1) := by decide +kernel
theorem dX8_over_40 : decode cX8_over 40 = .ok (.getfield 38, 3) := by decide +kernel
theorem dX8_over_43 : decode cX8_over 43 = .ok (.iload_n 1, 1) := by decide +kernel
theorem dX8_over_44 : decode cX8_over 44 = .ok (.iconst 5, 1) := by decide +kernel
theorem dX8_over_45 : decode cX8_over 45 = .ok (.invokevirtual 110, 3) := by decide +kernel
theorem dX8_over_48 : decode cX8_over 48 = .ok (.istore_n 3, 1) := by decide +kernel
theorem dX8_over_49 : decode cX8_over 49 = .ok (.iload_n 3, 1) := by decide +kernel
theorem dX8_over_50 : decode cX8_over 50 = .ok (.iconst 2, 1) := by decide +kernel
theorem dX8_over_51 : decode cX8_over 51 = .ok (.if_icmp .ne 5, 3) := by decide +kernel
theorem dX8_over_54 : decode cX8_over 54 = .ok (.iload_n 2, 1) := by decide +kernel
theorem dX8_over_55 : decode cX8_over 55 = .ok (.ireturn, 1) := by decide +kernel
theorem dX8_over_56 : decode cX8_over 56 = .ok (.iload_n 3, 1) := by decide +kernel
theorem dX8_over_57 : decode cX8_over 57 = .ok (.iconst 3, 1) := by decide +kernel
theorem dX8_over_58 : decode cX8_over 58 = .ok (.if_icmp .ne 5, 3) := by decide +kernel
theorem dX8_over_61 : decode cX8_over 61 = .ok (.iconst (-1), 1) := by decide +kernel
theorem dX8_over_62 : decode cX8_over 62 = .ok (.ireturn, 1) := by decide +kernel
theorem dX8_over_63 : decode cX8_over 63 = .ok (.iload_n 2, 1) := by decide +kernel
theorem dX8_over_64 : decode cX8_over 64 = .ok (.sipush 200, 3) := by decide +kernel
theorem dX8_over_67 : decode cX8_over 67 = .ok (.if_icmp .ge 11, 3) := by decide +kernel
theorem dX8_over_70 : decode cX8_over 70 = .ok (.aload_n 0, 1) := by decide +kernel
theorem dX8_over_71 : decode cX8_over 71 = .ok (.getfield 38, 3) := by decide +kernel
theorem dX8_over_74 : decode cX8_over 74 = .ok (.invokevirtual 122, 3) := by decide +kernel
theorem dX8_over_77 : decode cX8_over 77 = .ok (.pop, 1) := by decide +kernel
theorem dX8_over_78 : decode cX8_over 78 = .ok (.iinc 2 1, 3) := by decide +kernel
theorem dX8_over_81 : decode cX8_over 81 = .ok (.goto (-49), 3) := by decide +kernel
theorem dX8_over_84 : decode cX8_over 84 = .ok (.iconst (-1), 1) := by decide +kernel
theorem dX8_over_85 : decode cX8_over 85 = .ok (.ireturn, 1) := by decide +kernel
theorem dX8_overBy_0 : decode cX8_overBy 0 = .ok (.aload_n 0, 1) := by decide +kernel
theorem dX8_overBy_1 : decode cX8_overBy 1 = .ok (.getfield 38, 3) := by decide +kernel
theorem dX8_overBy_4 : decode cX8_overBy 4 = .ok (.aload_n 0, 1) := by decide +kernel
theorem dX8_overBy_5 : decode cX8_overBy 5 = .ok (.getfield 34, 3) := by decide +kernel
theorem dX8_overBy_8 : decode cX8_overBy 8 = .ok (.invokevirtual 132, 3) := by decide +kernel
theorem dX8_overBy_11 : decode cX8_overBy 11 = .ok (.iconst 0, 1) := by decide +kernel
theorem dX8_overBy_12 : decode cX8_overBy 12 = .ok (.istore_n 2, 1) := by decide +kernel
theorem dX8_overBy_13 : decode cX8_overBy 13 = .ok (.iload_n 2, 1) := by decide +kernel
theorem dX8_overBy_14 : decode cX8_overBy 14 = .ok (.bipush 60, 2) := by decide +kernel
theorem dX8_overBy_16 : decode cX8_overBy 16 = .ok (.if_icmp .ge 38, 3) := by decide +kernel
theorem dX8_overBy_19 : decode cX8_overBy 19 = .ok (.iload_n 2, 1) := by decide +kernel
theorem dX8_overBy_20 : decode cX8_overBy 20 = .ok (.iload_n 1, 1) := by decide +kernel
theorem dX8_overBy_21 : decode cX8_overBy 21 = .ok (.if_icmp .ne 19, 3) := by decide +kernel
theorem dX8_overBy_24 : decode cX8_overBy 24 = .ok (.aload_n 0, 1) := by decide +kernel
theorem dX8_overBy_25 : decode cX8_overBy 25 = .ok (.getfield 38, 3) := by decide +kernel
theorem dX8_overBy_28 : decode cX8_overBy 28 = .ok (.iconst 1, 1) := by decide +kernel
theorem dX8_overBy_29 : decode cX8_overBy 29 = .ok (.aload_n 0, 1) := by decide +kernel
theorem dX8_overBy_30 : decode cX8_overBy 30 = .ok (.getfield 38, 3) := by decide +kernel
theorem dX8_overBy_33 : decode cX8_overBy 33 = .ok (.getfield 88, 3) := by decide +kernel
theorem dX8_overBy_36 : decode cX8_overBy 36 = .ok (.isub, 1) := by decide +kernel
theorem dX8_overBy_37 : decode cX8_overBy 37 = .ok (.putfield 88, 3) := by decide +kernel
theorem dX8_overBy_40 : decode cX8_overBy 40 = .ok (.aload_n 0, 1) := by decide +kernel
theorem dX8_overBy_41 : decode cX8_overBy 41 = .ok (.getfield 38, 3) := by decide +kernel
theorem dX8_overBy_44 : decode cX8_overBy 44 = .ok (.invokevirtual 122, 3) := by decide +kernel
theorem dX8_overBy_47 : decode cX8_overBy 47 = .ok (.pop, 1) := by decide +kernel
theorem dX8_overBy_48 : decode cX8_overBy 48 = .ok (.iinc 2 1, 3) := by decide +kernel
theorem dX8_overBy_51 : decode cX8_overBy 51 = .ok (.goto (-38), 3) := by decide +kernel
theorem dX8_overBy_54 : decode cX8_overBy 54 = .ok (.aload_n 0, 1) := by decide +kernel
theorem dX8_overBy_55 : decode cX8_overBy 55 = .ok (.getfield 38, 3) := by decide +kernel
theorem dX8_overBy_58 : decode cX8_overBy 58 = .ok (.iconst 2, 1) := by decide +kernel
theorem dX8_overBy_59 : decode cX8_overBy 59 = .ok (.invokevirtual 85, 3) := by decide +kernel
theorem dX8_overBy_62 : decode cX8_overBy 62 = .ok (.ireturn, 1) := by decide +kernel
theorem dX8_keep_0 : decode cX8_keep 0 = .ok (.aload_n 0, 1) := by decide +kernel
theorem dX8_keep_1 : decode cX8_keep 1 = .ok (.iconst 0, 1) := by decide +kernel
theorem dX8_keep_2 : decode cX8_keep 2 = .ok (.putfield 41, 3) := by decide +kernel
theorem dX8_keep_5 : decode cX8_keep 5 = .ok (.aload_n 0, 1) := by decide +kernel
theorem dX8_keep_6 : decode cX8_keep 6 = .ok (.bipush 60, 2) := by decide +kernel
theorem dX8_keep_8 : decode cX8_keep 8 = .ok (.invokevirtual 136, 3) := by decide +kernel
theorem dX8_keep_11 : decode cX8_keep 11 = .ok (.istore_n 1, 1) := by decide +kernel
theorem dX8_keep_12 : decode cX8_keep 12 = .ok (.iconst (-1), 1) := by decide +kernel
theorem dX8_keep_13 : decode cX8_keep 13 = .ok (.istore_n 2, 1) := by decide +kernel
theorem dX8_keep_14 : decode cX8_keep 14 = .ok (.iconst 0, 1) := by decide +kernel
theorem dX8_keep_15 : decode cX8_keep 15 = .ok (.istore_n 3, 1) := by decide +kernel
theorem dX8_keep_16 : decode cX8_keep 16 = .ok (.iload_n 3, 1) := by decide +kernel
theorem dX8_keep_17 : decode cX8_keep 17 = .ok (.bipush 60, 2) := by decide +kernel
theorem dX8_keep_19 : decode cX8_keep 19 = .ok (.if_icmp .ge 30, 3) := by decide +kernel
theorem dX8_keep_22 : decode cX8_keep 22 = .ok (.aload_n 0, 1) := by decide +kernel
theorem dX8_keep_23 : decode cX8_keep 23 = .ok (.iload_n 3, 1) := by decide +kernel
theorem dX8_keep_24 : decode cX8_keep 24 = .ok (.invokevirtual 136, 3) := by decide +kernel
theorem dX8_keep_27 : decode cX8_keep 27 = .ok (.istore 4, 2) := by decide +kernel
theorem dX8_keep_29 : decode cX8_keep 29 = .ok (.iload 4, 2) := by decide +kernel
theorem dX8_keep_31 : decode cX8_keep 31 = .ok (.iload_n 1, 1) := by decide +kernel
theorem dX8_keep_32 : decode cX8_keep 32 = .ok (.if_icmp .gt 6, 3) := by decide +kernel
theorem dX8_keep_35 : decode cX8_keep 35 = .ok (.goto 8, 3) := by decide +kernel
theorem dX8_keep_38 : decode cX8_keep 38 = .ok (.iload 4, 2) := by decide +kernel
theorem dX8_keep_40 : decode cX8_keep 40 = .ok (.istore_n 1, 1) := by decide +kernel
theorem dX8_keep_41 : decode cX8_keep 41 = .ok (.iload_n 3, 1) := by decide +kernel
theorem dX8_keep_42 : decode cX8_keep 42 = .ok (.istore_n 2, 1) := by decide +kernel
theorem dX8_keep_43 : decode cX8_keep 43 = .ok (.iinc 3 1, 3) := by decide +kernel
theorem dX8_keep_46 : decode cX8_keep 46 = .ok (.goto (-30), 3) := by decide +kernel
theorem dX8_keep_49 : decode cX8_keep 49 = .ok (.iload_n 2, 1) := by decide +kernel
theorem dX8_keep_50 : decode cX8_keep 50 = .ok (.ireturn, 1) := by decide +kernel
theorem dX8_foresee_0 : decode cX8_foresee 0 = .ok (.aload_n 0, 1) := by decide +kernel
theorem dX8_foresee_1 : decode cX8_foresee 1 = .ok (.iconst 0, 1) := by decide +kernel
theorem dX8_foresee_2 : decode cX8_foresee 2 = .ok (.putfield 41, 3) := by decide +kernel
theorem dX8_foresee_5 : decode cX8_foresee 5 = .ok (.iload_n 1, 1) := by decide +kernel
theorem dX8_foresee_6 : decode cX8_foresee 6 = .ok (.iconst 1, 1) := by decide +kernel
theorem dX8_foresee_7 : decode cX8_foresee 7 = .ok (.bipush 100, 2) := by decide +kernel
theorem dX8_foresee_9 : decode cX8_foresee 9 = .ok (.invokestatic 48, 3) := by decide +kernel
theorem dX8_foresee_12 : decode cX8_foresee 12 = .ok (.ifCond .ne 9, 3) := by decide +kernel
theorem dX8_foresee_15 : decode cX8_foresee 15 = .ok (.aload_n 0, 1) := by decide +kernel
theorem dX8_foresee_16 : decode cX8_foresee 16 = .ok (.iconst 1, 1) := by decide +kernel
theorem dX8_foresee_17 : decode cX8_foresee 17 = .ok (.invokevirtual 59, 3) := by decide +kernel
theorem dX8_foresee_20 : decode cX8_foresee 20 = .ok (.ireturn, 1) := by decide +kernel
theorem dX8_foresee_21 : decode cX8_foresee 21 = .ok (.iload_n 2, 1) := by decide +kernel
theorem dX8_foresee_22 : decode cX8_foresee 22 = .ok (.iconst 0, 1) := by decide +kernel
theorem dX8_foresee_23 : decode cX8_foresee 23 = .ok (.iconst 2, 1) := by decide +kernel
theorem dX8_foresee_24 : decode cX8_foresee 24 = .ok (.invokestatic 48, 3) := by decide +kernel
theorem dX8_foresee_27 : decode cX8_foresee 27 = .ok (.ifCond .ne 9, 3) := by decide +kernel
theorem dX8_foresee_30 : decode cX8_foresee 30 = .ok (.aload_n 0, 1) := by decide +kernel
theorem dX8_foresee_31 : decode cX8_foresee 31 = .ok (.iconst 2, 1) := by decide +kernel
theorem dX8_foresee_32 : decode cX8_foresee 32 = .ok (.invokevirtual 59, 3) := by decide +kernel
theorem dX8_foresee_35 : decode cX8_foresee 35 = .ok (.ireturn, 1) := by decide +kernel
theorem dX8_foresee_36 : decode cX8_foresee 36 = .ok (.aload_n 0, 1) := by decide +kernel
theorem dX8_foresee_37 : decode cX8_foresee 37 = .ok (.getfield 38, 3) := by decide +kernel
theorem dX8_foresee_40 : decode cX8_foresee 40 = .ok (.aload_n 0, 1) := by decide +kernel
theorem dX8_foresee_41 : decode cX8_foresee 41 = .ok (.getfield 34, 3) := by decide +kernel
theorem dX8_foresee_44 : decode cX8_foresee 44 = .ok (.invokevirtual 132, 3) := by decide +kernel
theorem dX8_foresee_47 : decode cX8_foresee 47 = .ok (.iconst 0, 1) := by decide +kernel
theorem dX8_foresee_48 : decode cX8_foresee 48 = .ok (.istore_n 3, 1) := by decide +kernel
theorem dX8_foresee_49 : decode cX8_foresee 49 = .ok (.iload_n 3, 1) := by decide +kernel
theorem dX8_foresee_50 : decode cX8_foresee 50 = .ok (.iload_n 1, 1) := by decide +kernel
theorem dX8_foresee_51 : decode cX8_foresee 51 = .ok (.if_icmp .ge 17, 3) := by decide +kernel
theorem dX8_foresee_54 : decode cX8_foresee 54 = .ok (.aload_n 0, 1) := by decide +kernel
theorem dX8_foresee_55 : decode cX8_foresee 55 = .ok (.getfield 38, 3) := by decide +kernel
theorem dX8_foresee_58 : decode cX8_foresee 58 = .ok (.invokevirtual 122, 3) := by decide +kernel
theorem dX8_foresee_61 : decode cX8_foresee 61 = .ok (.pop, 1) := by decide +kernel
theorem dX8_foresee_62 : decode cX8_foresee 62 = .ok (.iinc 3 1, 3) := by decide +kernel
theorem dX8_foresee_65 : decode cX8_foresee 65 = .ok (.goto (-16), 3) := by decide +kernel
theorem dX8_foresee_68 : decode cX8_foresee 68 = .ok (.iload_n 2, 1) := by decide +kernel
theorem dX8_foresee_69 : decode cX8_foresee 69 = .ok (.iconst 2, 1) := by decide +kernel
theorem dX8_foresee_70 : decode cX8_foresee 70 = .ok (.if_icmp .ne 12, 3) := by decide +kernel
theorem dX8_foresee_73 : decode cX8_foresee 73 = .ok (.aload_n 0, 1) := by decide +kernel
theorem dX8_foresee_74 : decode cX8_foresee 74 = .ok (.getfield 38, 3) := by decide +kernel
theorem dX8_foresee_77 : decode cX8_foresee 77 = .ok (.iconst 1, 1) := by decide +kernel
theorem dX8_foresee_78 : decode cX8_foresee 78 = .ok (.invokevirtual 85, 3) := by decide +kernel
theorem dX8_foresee_81 : decode cX8_foresee 81 = .ok (.ireturn, 1) := by decide +kernel
theorem dX8_foresee_82 : decode cX8_foresee 82 = .ok (.iload_n 2, 1) := by decide +kernel
theorem dX8_foresee_83 : decode cX8_foresee 83 = .ok (.ifCond .ne 23, 3) := by decide +kernel
theorem dX8_foresee_86 : decode cX8_foresee 86 = .ok (.aload_n 0, 1) := by decide +kernel
theorem dX8_foresee_87 : decode cX8_foresee 87 = .ok (.getfield 38, 3) := by decide +kernel
theorem dX8_foresee_90 : decode cX8_foresee 90 = .ok (.iconst 2, 1) := by decide +kernel
theorem dX8_foresee_91 : decode cX8_foresee 91 = .ok (.invokevirtual 85, 3) := by decide +kernel
theorem dX8_foresee_94 : decode cX8_foresee 94 = .ok (.aload_n 0, 1) := by decide +kernel
theorem dX8_foresee_95 : decode cX8_foresee 95 = .ok (.getfield 34, 3) := by decide +kernel
theorem dX8_foresee_98 : decode cX8_foresee 98 = .ok (.iconst 2, 1) := by decide +kernel
theorem dX8_foresee_99 : decode cX8_foresee 99 = .ok (.invokevirtual 85, 3) := by decide +kernel
theorem dX8_foresee_102 : decode cX8_foresee 102 = .ok (.isub, 1) := by decide +kernel
theorem dX8_foresee_103 : decode cX8_foresee 103 = .ok (.goto 42, 3) := by decide +kernel
theorem dX8_foresee_106 : decode cX8_foresee 106 = .ok (.aload_n 0, 1) := by decide +kernel
theorem dX8_foresee_107 : decode cX8_foresee 107 = .ok (.getfield 38, 3) := by decide +kernel
theorem dX8_foresee_110 : decode cX8_foresee 110 = .ok (.getfield 103, 3) := by decide +kernel
theorem dX8_foresee_113 : decode cX8_foresee 113 = .ok (.iconst 0, 1) := by decide +kernel
theorem dX8_foresee_114 : decode cX8_foresee 114 = .ok (.iaload, 1) := by decide +kernel
theorem dX8_foresee_115 : decode cX8_foresee 115 = .ok (.aload_n 0, 1) := by decide +kernel
theorem dX8_foresee_116 : decode cX8_foresee 116 = .ok (.getfield 38, 3) := by decide +kernel
theorem dX8_foresee_119 : decode cX8_foresee 119 = .ok (.getfield 103, 3) := by decide +kernel
theorem dX8_foresee_122 : decode cX8_foresee 122 = .ok (.iconst 5, 1) := by decide +kernel
theorem dX8_foresee_123 : decode cX8_foresee 123 = .ok (.iaload, 1) := by decide +kernel
theorem dX8_foresee_124 : decode cX8_foresee 124 = .ok (.iadd, 1) := by decide +kernel
theorem dX8_foresee_125 : decode cX8_foresee 125 = .ok (.aload_n 0, 1) := by decide +kernel
theorem dX8_foresee_126 : decode cX8_foresee 126 = .ok (.getfield 34, 3) := by decide +kernel
theorem dX8_foresee_129 : decode cX8_foresee 129 = .ok (.getfield 103, 3) := by decide +kernel
theorem dX8_foresee_132 : decode cX8_foresee 132 = .ok (.iconst 0, 1) := by decide +kernel
theorem dX8_foresee_133 : decode cX8_foresee 133 = .ok (.iaload, 1) := by decide +kernel
theorem dX8_foresee_134 : decode cX8_foresee 134 = .ok (.isub, 1) := by decide +kernel
theorem dX8_foresee_135 : decode cX8_foresee 135 = .ok (.aload_n 0, 1) := by decide +kernel
theorem dX8_foresee_136 : decode cX8_foresee 136 = .ok (.getfield 34, 3) := by decide +kernel
theorem dX8_foresee_139 : decode cX8_foresee 139 = .ok (.getfield 103, 3) := by decide +kernel
theorem dX8_foresee_142 : decode cX8_foresee 142 = .ok (.iconst 5, 1) := by decide +kernel
theorem dX8_foresee_143 : decode cX8_foresee 143 = .ok (.iaload, 1) := by decide +kernel
theorem dX8_foresee_144 : decode cX8_foresee 144 = .ok (.isub, 1) := by decide +kernel
theorem dX8_foresee_145 : decode cX8_foresee 145 = .ok (.ireturn, 1) := by decide +kernel
theorem dX8_mean_0 : decode cX8_mean 0 = .ok (.aload_n 0, 1) := by decide +kernel
theorem dX8_mean_1 : decode cX8_mean 1 = .ok (.iconst 0, 1) := by decide +kernel
theorem dX8_mean_2 : decode cX8_mean 2 = .ok (.putfield 41, 3) := by decide +kernel
theorem dX8_mean_5 : decode cX8_mean 5 = .ok (.iconst 0, 1) := by decide +kernel
theorem dX8_mean_6 : decode cX8_mean 6 = .ok (.istore_n 1, 1) := by decide +kernel
theorem dX8_mean_7 : decode cX8_mean 7 = .ok (.iconst 0, 1) := by decide +kernel
theorem dX8_mean_8 : decode cX8_mean 8 = .ok (.istore_n 2, 1) := by decide +kernel
theorem dX8_mean_9 : decode cX8_mean 9 = .ok (.iconst 0, 1) := by decide +kernel
theorem dX8_mean_10 : decode cX8_mean 10 = .ok (.istore_n 3, 1) := by decide +kernel
theorem dX8_mean_11 : decode cX8_mean 11 = .ok (.iload_n 3, 1) := by decide +kernel
theorem dX8_mean_12 : decode cX8_mean 12 = .ok (.aload_n 0, 1) := by decide +kernel
theorem dX8_mean_13 : decode cX8_mean 13 = .ok (.getfield 34, 3) := by decide +kernel
theorem dX8_mean_16 : decode cX8_mean 16 = .ok (.getfield 91, 3) := by decide +kernel
theorem dX8_mean_19 : decode cX8_mean 19 = .ok (.if_icmp .ge 41, 3) := by decide +kernel
theorem dX8_mean_22 : decode cX8_mean 22 = .ok (.aload_n 0, 1) := by decide +kernel
theorem dX8_mean_23 : decode cX8_mean 23 = .ok (.getfield 34, 3) := by decide +kernel
theorem dX8_mean_26 : decode cX8_mean 26 = .ok (.iload_n 3, 1) := by decide +kernel
theorem dX8_mean_27 : decode cX8_mean 27 = .ok (.iconst 5, 1) := by decide +kernel
theorem dX8_mean_28 : decode cX8_mean 28 = .ok (.invokevirtual 110, 3) := by decide +kernel
theorem dX8_mean_31 : decode cX8_mean 31 = .ok (.iconst 2, 1) := by decide +kernel
theorem dX8_mean_32 : decode cX8_mean 32 = .ok (.if_icmp .eq 6, 3) := by decide +kernel
theorem dX8_mean_35 : decode cX8_mean 35 = .ok (.goto 19, 3) := by decide +kernel
theorem dX8_mean_38 : decode cX8_mean 38 = .ok (.iload_n 1, 1) := by decide +kernel
theorem dX8_mean_39 : decode cX8_mean 39 = .ok (.aload_n 0, 1) := by decide +kernel
theorem dX8_mean_40 : decode cX8_mean 40 = .ok (.getfield 34, 3) := by decide +kernel
theorem dX8_mean_43 : decode cX8_mean 43 = .ok (.iload_n 3, 1) := by decide +kernel
theorem dX8_mean_44 : decode cX8_mean 44 = .ok (.bipush 8, 2) := by decide +kernel
theorem dX8_mean_46 : decode cX8_mean 46 = .ok (.invokevirtual 110, 3) := by decide +kernel
theorem dX8_mean_49 : decode cX8_mean 49 = .ok (.iadd, 1) := by decide +kernel
theorem dX8_mean_50 : decode cX8_mean 50 = .ok (.istore_n 1, 1) := by decide +kernel
theorem dX8_mean_51 : decode cX8_mean 51 = .ok (.iinc 2 1, 3) := by decide +kernel
theorem dX8_mean_54 : decode cX8_mean 54 = .ok (.iinc 3 1, 3) := by decide +kernel
theorem dX8_mean_57 : decode cX8_mean 57 = .ok (.goto (-46), 3) := by decide +kernel
theorem dX8_mean_60 : decode cX8_mean 60 = .ok (.iload_n 2, 1) := by decide +kernel
theorem dX8_mean_61 : decode cX8_mean 61 = .ok (.ifCond .ne 7, 3) := by decide +kernel
theorem dX8_mean_64 : decode cX8_mean 64 = .ok (.dconst 0, 1) := by decide +kernel
theorem dX8_mean_65 : decode cX8_mean 65 = .ok (.goto 8, 3) := by decide +kernel
theorem dX8_mean_68 : decode cX8_mean 68 = .ok (.iload_n 1, 1) := by decide +kernel
theorem dX8_mean_69 : decode cX8_mean 69 = .ok (.i2d, 1) := by decide +kernel
theorem dX8_mean_70 : decode cX8_mean 70 = .ok (.iload_n 2, 1) := by decide +kernel
theorem dX8_mean_71 : decode cX8_mean 71 = .ok (.i2d, 1) := by decide +kernel
theorem dX8_mean_72 : decode cX8_mean 72 = .ok (.ddiv, 1) := by decide +kernel
theorem dX8_mean_73 : decode cX8_mean 73 = .ok (.dreturn, 1) := by decide +kernel
theorem dX8_digest_0 : decode cX8_digest 0 = .ok (.aload_n 0, 1) := by decide +kernel
theorem dX8_digest_1 : decode cX8_digest 1 = .ok (.iconst 0, 1) := by decide +kernel
theorem dX8_digest_2 : decode cX8_digest 2 = .ok (.putfield 41, 3) := by decide +kernel
theorem dX8_digest_5 : decode cX8_digest 5 = .ok (.ldc2_w 139, 3) := by decide +kernel
theorem dX8_digest_8 : decode cX8_digest 8 = .ok (.lstore_n 1, 1) := by decide +kernel
theorem dX8_digest_9 : decode cX8_digest 9 = .ok (.iconst 0, 1) := by decide +kernel
theorem dX8_digest_10 : decode cX8_digest 10 = .ok (.istore_n 3, 1) := by decide +kernel
theorem dX8_digest_11 : decode cX8_digest 11 = .ok (.iload_n 3, 1) := by decide +kernel
theorem dX8_digest_12 : decode cX8_digest 12 = .ok (.bipush 10, 2) := by decide +kernel
theorem dX8_digest_14 : decode cX8_digest 14 = .ok (.if_icmp .gt 22, 3) := by decide +kernel
theorem dX8_digest_17 : decode cX8_digest 17 = .ok (.lload_n 1, 1) := by decide +kernel
theorem dX8_digest_18 : decode cX8_digest 18 = .ok (.ldc2_w 141, 3) := by decide +kernel
theorem dX8_digest_21 : decode cX8_digest 21 = .ok (.lmul, 1) := by decide +kernel
theorem dX8_digest_22 : decode cX8_digest 22 = .ok (.aload_n 0, 1) := by decide +kernel
theorem dX8_digest_23 : decode cX8_digest 23 = .ok (.iload_n 3, 1) := by decide +kernel
theorem dX8_digest_24 : decode cX8_digest 24 = .ok (.invokevirtual 129, 3) := by decide +kernel
theorem dX8_digest_27 : decode cX8_digest 27 = .ok (.i2l, 1) := by decide +kernel
theorem dX8_digest_28 : decode cX8_digest 28 = .ok (.ladd, 1) := by decide +kernel
theorem dX8_digest_29 : decode cX8_digest 29 = .ok (.lstore_n 1, 1) := by decide +kernel
theorem dX8_digest_30 : decode cX8_digest 30 = .ok (.iinc 3 1, 3) := by decide +kernel
theorem dX8_digest_33 : decode cX8_digest 33 = .ok (.goto (-22), 3) := by decide +kernel
theorem dX8_digest_36 : decode cX8_digest 36 = .ok (.iconst 0, 1) := by decide +kernel
theorem dX8_digest_37 : decode cX8_digest 37 = .ok (.istore_n 3, 1) := by decide +kernel
theorem dX8_digest_38 : decode cX8_digest 38 = .ok (.iload_n 3, 1) := by decide +kernel
theorem dX8_digest_39 : decode cX8_digest 39 = .ok (.aload_n 0, 1) := by decide +kernel
theorem dX8_digest_40 : decode cX8_digest 40 = .ok (.getfield 62, 3) := by decide +kernel
theorem dX8_digest_43 : decode cX8_digest 43 = .ok (.if_icmp .ge 23, 3) := by decide +kernel
theorem dX8_digest_46 : decode cX8_digest 46 = .ok (.lload_n 1, 1) := by decide +kernel
theorem dX8_digest_47 : decode cX8_digest 47 = .ok (.ldc2_w 141, 3) := by decide +kernel
theorem dX8_digest_50 : decode cX8_digest 50 = .ok (.lmul, 1) := by decide +kernel
theorem dX8_digest_51 : decode cX8_digest 51 = .ok (.aload_n 0, 1) := by decide +kernel
theorem dX8_digest_52 : decode cX8_digest 52 = .ok (.getfield 9, 3) := by decide +kernel
theorem dX8_digest_55 : decode cX8_digest 55 = .ok (.iload_n 3, 1) := by decide +kernel
theorem dX8_digest_56 : decode cX8_digest 56 = .ok (.iaload, 1) := by decide +kernel
theorem dX8_digest_57 : decode cX8_digest 57 = .ok (.i2l, 1) := by decide +kernel
theorem dX8_digest_58 : decode cX8_digest 58 = .ok (.ladd, 1) := by decide +kernel
theorem dX8_digest_59 : decode cX8_digest 59 = .ok (.lstore_n 1, 1) := by decide +kernel
theorem dX8_digest_60 : decode cX8_digest 60 = .ok (.iinc 3 1, 3) := by decide +kernel
theorem dX8_digest_63 : decode cX8_digest 63 = .ok (.goto (-25), 3) := by decide +kernel
theorem dX8_digest_66 : decode cX8_digest 66 = .ok (.iconst 0, 1) := by decide +kernel
theorem dX8_digest_67 : decode cX8_digest 67 = .ok (.istore_n 3, 1) := by decide +kernel
theorem dX8_digest_68 : decode cX8_digest 68 = .ok (.iload_n 3, 1) := by decide +kernel
theorem dX8_digest_69 : decode cX8_digest 69 = .ok (.bipush 20, 2) := by decide +kernel
theorem dX8_digest_71 : decode cX8_digest 71 = .ok (.if_icmp .ge 23, 3) := by decide +kernel
theorem dX8_digest_74 : decode cX8_digest 74 = .ok (.lload_n 1, 1) := by decide +kernel
theorem dX8_digest_75 : decode cX8_digest 75 = .ok (.ldc2_w 141, 3) := by decide +kernel
theorem dX8_digest_78 : decode cX8_digest 78 = .ok (.lmul, 1) := by decide +kernel
theorem dX8_digest_79 : decode cX8_digest 79 = .ok (.aload_n 0, 1) := by decide +kernel
theorem dX8_digest_80 : decode cX8_digest 80 = .ok (.getfield 13, 3) := by decide +kernel
theorem dX8_digest_83 : decode cX8_digest 83 = .ok (.iload_n 3, 1) := by decide +kernel
theorem dX8_digest_84 : decode cX8_digest 84 = .ok (.iaload, 1) := by decide +kernel
theorem dX8_digest_85 : decode cX8_digest 85 = .ok (.i2l, 1) := by decide +kernel
theorem dX8_digest_86 : decode cX8_digest 86 = .ok (.ladd, 1) := by decide +kernel
theorem dX8_digest_87 : decode cX8_digest 87 = .ok (.lstore_n 1, 1) := by decide +kernel
theorem dX8_digest_88 : decode cX8_digest 88 = .ok (.iinc 3 1, 3) := by decide +kernel
theorem dX8_digest_91 : decode cX8_digest 91 = .ok (.goto (-23), 3) := by decide +kernel
theorem dX8_digest_94 : decode cX8_digest 94 = .ok (.iconst 0, 1) := by decide +kernel
theorem dX8_digest_95 : decode cX8_digest 95 = .ok (.istore_n 3, 1) := by decide +kernel
theorem dX8_digest_96 : decode cX8_digest 96 = .ok (.iload_n 3, 1) := by decide +kernel
theorem dX8_digest_97 : decode cX8_digest 97 = .ok (.iconst 2, 1) := by decide +kernel
theorem dX8_digest_98 : decode cX8_digest 98 = .ok (.if_icmp .ge 96, 3) := by decide +kernel
theorem dX8_digest_101 : decode cX8_digest 101 = .ok (.iconst 0, 1) := by decide +kernel
theorem dX8_digest_102 : decode cX8_digest 102 = .ok (.istore 4, 2) := by decide +kernel
theorem dX8_digest_104 : decode cX8_digest 104 = .ok (.iload 4, 2) := by decide +kernel
theorem dX8_digest_106 : decode cX8_digest 106 = .ok (.iconst 4, 1) := by decide +kernel
theorem dX8_digest_107 : decode cX8_digest 107 = .ok (.if_icmp .ge 31, 3) := by decide +kernel
theorem dX8_digest_110 : decode cX8_digest 110 = .ok (.lload_n 1, 1) := by decide +kernel
theorem dX8_digest_111 : decode cX8_digest 111 = .ok (.ldc2_w 141, 3) := by decide +kernel
theorem dX8_digest_114 : decode cX8_digest 114 = .ok (.lmul, 1) := by decide +kernel
theorem dX8_digest_115 : decode cX8_digest 115 = .ok (.aload_n 0, 1) := by decide +kernel
theorem dX8_digest_116 : decode cX8_digest 116 = .ok (.getfield 34, 3) := by decide +kernel
theorem dX8_digest_119 : decode cX8_digest 119 = .ok (.getfield 103, 3) := by decide +kernel
theorem dX8_digest_122 : decode cX8_digest 122 = .ok (.iconst 5, 1) := by decide +kernel
theorem dX8_digest_123 : decode cX8_digest 123 = .ok (.iload_n 3, 1) := by decide +kernel
theorem dX8_digest_124 : decode cX8_digest 124 = .ok (.imul, 1) := by decide +kernel
theorem dX8_digest_125 : decode cX8_digest 125 = .ok (.iload 4, 2) := by decide +kernel
theorem dX8_digest_127 : decode cX8_digest 127 = .ok (.iadd, 1) := by decide +kernel
theorem dX8_digest_128 : decode cX8_digest 128 = .ok (.iaload, 1) := by decide +kernel
theorem dX8_digest_129 : decode cX8_digest 129 = .ok (.i2l, 1) := by decide +kernel
theorem dX8_digest_130 : decode cX8_digest 130 = .ok (.ladd, 1) := by decide +kernel
theorem dX8_digest_131 : decode cX8_digest 131 = .ok (.lstore_n 1, 1) := by decide +kernel
theorem dX8_digest_132 : decode cX8_digest 132 = .ok (.iinc 4 1, 3) := by decide +kernel
theorem dX8_digest_135 : decode cX8_digest 135 = .ok (.goto (-31), 3) := by decide +kernel
theorem dX8_digest_138 : decode cX8_digest 138 = .ok (.iconst 0, 1) := by decide +kernel
theorem dX8_digest_139 : decode cX8_digest 139 = .ok (.istore 4, 2) := by decide +kernel
theorem dX8_digest_141 : decode cX8_digest 141 = .ok (.iload 4, 2) := by decide +kernel
theorem dX8_digest_143 : decode cX8_digest 143 = .ok (.aload_n 0, 1) := by decide +kernel
theorem dX8_digest_144 : decode cX8_digest 144 = .ok (.getfield 34, 3) := by decide +kernel
theorem dX8_digest_147 : decode cX8_digest 147 = .ok (.getfield 103, 3) := by decide +kernel
theorem dX8_digest_150 : decode cX8_digest 150 = .ok (.iconst 5, 1) := by decide +kernel
theorem dX8_digest_151 : decode cX8_digest 151 = .ok (.iload_n 3, 1) := by decide +kernel
theorem dX8_digest_152 : decode cX8_digest 152 = .ok (.imul, 1) := by decide +kernel
theorem dX8_digest_153 : decode cX8_digest 153 = .ok (.iconst 3, 1) := by decide +kernel
theorem dX8_digest_154 : decode cX8_digest 154 = .ok (.iadd, 1) := by decide +kernel
theorem dX8_digest_155 : decode cX8_digest 155 = .ok (.iaload, 1) := by decide +kernel
theorem dX8_digest_156 : decode cX8_digest 156 = .ok (.if_icmp .ge 32, 3) := by decide +kernel
theorem dX8_digest_159 : decode cX8_digest 159 = .ok (.lload_n 1, 1) := by decide +kernel
theorem dX8_digest_160 : decode cX8_digest 160 = .ok (.ldc2_w 141, 3) := by decide +kernel
theorem dX8_digest_163 : decode cX8_digest 163 = .ok (.lmul, 1) := by decide +kernel
theorem dX8_digest_164 : decode cX8_digest 164 = .ok (.aload_n 0, 1) := by decide +kernel
theorem dX8_digest_165 : decode cX8_digest 165 = .ok (.getfield 34, 3) := by decide +kernel
theorem dX8_digest_168 : decode cX8_digest 168 = .ok (.getfield 119, 3) := by decide +kernel
theorem dX8_digest_171 : decode cX8_digest 171 = .ok (.bipush 16, 2) := by decide +kernel
theorem dX8_digest_173 : decode cX8_digest 173 = .ok (.iload_n 3, 1) := by decide +kernel
theorem dX8_digest_174 : decode cX8_digest 174 = .ok (.imul, 1) := by decide +kernel
theorem dX8_digest_175 : decode cX8_digest 175 = .ok (.iload 4, 2) := by decide +kernel
theorem dX8_digest_177 : decode cX8_digest 177 = .ok (.iadd, 1) := by decide +kernel
theorem dX8_digest_178 : decode cX8_digest 178 = .ok (.iaload, 1) := by decide +kernel
theorem dX8_digest_179 : decode cX8_digest 179 = .ok (.i2l, 1) := by decide +kernel
theorem dX8_digest_180 : decode cX8_digest 180 = .ok (.ladd, 1) := by decide +kernel
theorem dX8_digest_181 : decode cX8_digest 181 = .ok (.lstore_n 1, 1) := by decide +kernel
theorem dX8_digest_182 : decode cX8_digest 182 = .ok (.iinc 4 1, 3) := by decide +kernel
theorem dX8_digest_185 : decode cX8_digest 185 = .ok (.goto (-44), 3) := by decide +kernel
theorem dX8_digest_188 : decode cX8_digest 188 = .ok (.iinc 3 1, 3) := by decide +kernel
theorem dX8_digest_191 : decode cX8_digest 191 = .ok (.goto (-95), 3) := by decide +kernel
theorem dX8_digest_194 : decode cX8_digest 194 = .ok (.iconst 0, 1) := by decide +kernel
theorem dX8_digest_195 : decode cX8_digest 195 = .ok (.istore_n 3, 1) := by decide +kernel
theorem dX8_digest_196 : decode cX8_digest 196 = .ok (.iload_n 3, 1) := by decide +kernel
theorem dX8_digest_197 : decode cX8_digest 197 = .ok (.aload_n 0, 1) := by decide +kernel
theorem dX8_digest_198 : decode cX8_digest 198 = .ok (.getfield 34, 3) := by decide +kernel
theorem dX8_digest_201 : decode cX8_digest 201 = .ok (.getfield 91, 3) := by decide +kernel
theorem dX8_digest_204 : decode cX8_digest 204 = .ok (.if_icmp .ge 40, 3) := by decide +kernel
theorem dX8_digest_207 : decode cX8_digest 207 = .ok (.iconst 0, 1) := by decide +kernel
theorem dX8_digest_208 : decode cX8_digest 208 = .ok (.istore 4, 2) := by decide +kernel
theorem dX8_digest_210 : decode cX8_digest 210 = .ok (.iload 4, 2) := by decide +kernel
theorem dX8_digest_212 : decode cX8_digest 212 = .ok (.bipush 8, 2) := by decide +kernel
theorem dX8_digest_214 : decode cX8_digest 214 = .ok (.if_icmp .gt 24, 3) := by decide +kernel
theorem dX8_digest_217 : decode cX8_digest 217 = .ok (.lload_n 1, 1) := by decide +kernel
theorem dX8_digest_218 : decode cX8_digest 218 = .ok (.ldc2_w 141, 3) := by decide +kernel
theorem dX8_digest_221 : decode cX8_digest 221 = .ok (.lmul, 1) := by decide +kernel
theorem dX8_digest_222 : decode cX8_digest 222 = .ok (.aload_n 0, 1) := by decide +kernel
theorem dX8_digest_223 : decode cX8_digest 223 = .ok (.iload_n 3, 1) := by decide +kernel
theorem dX8_digest_224 : decode cX8_digest 224 = .ok (.iload 4, 2) := by decide +kernel
theorem dX8_digest_226 : decode cX8_digest 226 = .ok (.invokevirtual 116, 3) := by decide +kernel
theorem dX8_digest_229 : decode cX8_digest 229 = .ok (.i2l, 1) := by decide +kernel
theorem dX8_digest_230 : decode cX8_digest 230 = .ok (.ladd, 1) := by decide +kernel
theorem dX8_digest_231 : decode cX8_digest 231 = .ok (.lstore_n 1, 1) := by decide +kernel
theorem dX8_digest_232 : decode cX8_digest 232 = .ok (.iinc 4 1, 3) := by decide +kernel
theorem dX8_digest_235 : decode cX8_digest 235 = .ok (.goto (-25), 3) := by decide +kernel
theorem dX8_digest_238 : decode cX8_digest 238 = .ok (.iinc 3 1, 3) := by decide +kernel
theorem dX8_digest_241 : decode cX8_digest 241 = .ok (.goto (-45), 3) := by decide +kernel
theorem dX8_digest_244 : decode cX8_digest 244 = .ok (.lload_n 1, 1) := by decide +kernel
theorem dX8_digest_245 : decode cX8_digest 245 = .ok (.lreturn, 1) := by decide +kernel
