section GO
variable {K : gK} {k : gC} {lv : gL} {st : List Value} {σ : gS} {c z : Nat} 
theorem go_C_init_0 : g_go c_C_init K k 0 lv st σ c z = k 0 (.aload_n 0, 1, 0, []) lv st σ c z := rfl
theorem at_C_init_0 : g_at c_C_init k 0 lv st σ c z = k 0 (.aload_n 0, 1, 0, []) lv st σ c z := rfl
theorem go_C_init_1 : g_go c_C_init K k 1 lv st σ c z = k 1 (.invokespecial 1, 3, 0, []) lv st σ c z := rfl
theorem go_C_init_4 : g_go c_C_init K k 4 lv st σ c z = k 4 (.aload_n 0, 1, 0, []) lv st σ c z := rfl
theorem go_C_init_5 : g_go c_C_init K k 5 lv st σ c z = k 5 (.new 7, 3, 0, []) lv st σ c z := rfl
theorem go_C_init_8 : g_go c_C_init K k 8 lv st σ c z = k 8 (.dup, 1, 0, []) lv st σ c z := rfl
theorem go_C_init_9 : g_go c_C_init K k 9 lv st σ c z = k 9 (.iload_n 1, 1, 0, []) lv st σ c z := rfl
theorem go_C_init_10 : g_go c_C_init K k 10 lv st σ c z = k 10 (.invokespecial 9, 3, 0, []) lv st σ c z := rfl
theorem go_C_init_13 : g_go c_C_init K k 13 lv st σ c z = k 13 (.putfield 12, 3, 0, []) lv st σ c z := rfl
theorem go_C_init_16 : g_go c_C_init K k 16 lv st σ c z = k 16 (.aload_n 0, 1, 0, []) lv st σ c z := rfl
theorem go_C_init_17 : g_go c_C_init K k 17 lv st σ c z = k 17 (.bipush 60, 2, 60, []) lv st σ c z := rfl
theorem go_C_init_19 : g_go c_C_init K k 19 lv st σ c z = k 19 (.anewarray 18, 3, 0, []) lv st σ c z := rfl
theorem go_C_init_22 : g_go c_C_init K k 22 lv st σ c z = k 22 (.putfield 20, 3, 0, []) lv st σ c z := rfl
theorem go_C_init_25 : g_go c_C_init K k 25 lv st σ c z = k 25 (.aload_n 0, 1, 0, []) lv st σ c z := rfl
theorem go_C_init_26 : g_go c_C_init K k 26 lv st σ c z = k 26 (.bipush 100, 2, 100, []) lv st σ c z := rfl
theorem go_C_init_28 : g_go c_C_init K k 28 lv st σ c z = k 28 (.anewarray 24, 3, 0, []) lv st σ c z := rfl
theorem go_C_init_31 : g_go c_C_init K k 31 lv st σ c z = k 31 (.putfield 26, 3, 0, []) lv st σ c z := rfl
theorem go_C_init_34 : g_go c_C_init K k 34 lv st σ c z = k 34 (.aload_n 0, 1, 0, []) lv st σ c z := rfl
theorem go_C_init_35 : g_go c_C_init K k 35 lv st σ c z = k 35 (.iconst 0, 1, 0, []) lv st σ c z := rfl
theorem go_C_init_36 : g_go c_C_init K k 36 lv st σ c z = k 36 (.putfield 30, 3, 0, []) lv st σ c z := rfl
theorem go_C_init_39 : g_go c_C_init K k 39 lv st σ c z = k 39 (.return_, 1, 0, []) lv st σ c z := rfl
theorem go_C_make_0 : g_go c_C_make K k 0 lv st σ c z = k 0 (.iload_n 1, 1, 0, []) lv st σ c z := rfl
theorem at_C_make_0 : g_at c_C_make k 0 lv st σ c z = k 0 (.iload_n 1, 1, 0, []) lv st σ c z := rfl
theorem go_C_make_1 : g_go c_C_make K k 1 lv st σ c z = k 1 (.invokestatic 34, 3, 0, []) lv st σ c z := rfl
theorem go_C_make_4 : g_go c_C_make K k 4 lv st σ c z = k 4 (.ifCond .eq 26, 3, 0, [(0, 30)]) lv st σ c z := rfl
theorem go_C_make_7 : g_go c_C_make K k 7 lv st σ c z = k 7 (.iload_n 2, 1, 0, []) lv st σ c z := rfl
theorem go_C_make_8 : g_go c_C_make K k 8 lv st σ c z = k 8 (.iconst 1, 1, 1, []) lv st σ c z := rfl
theorem go_C_make_9 : g_go c_C_make K k 9 lv st σ c z = k 9 (.if_icmp .lt 21, 3, 0, [(0, 30)]) lv st σ c z := rfl
theorem go_C_make_12 : g_go c_C_make K k 12 lv st σ c z = k 12 (.iload_n 2, 1, 0, []) lv st σ c z := rfl
theorem go_C_make_13 : g_go c_C_make K k 13 lv st σ c z = k 13 (.sipush 500, 3, 500, []) lv st σ c z := rfl
theorem go_C_make_16 : g_go c_C_make K k 16 lv st σ c z = k 16 (.if_icmp .gt 14, 3, 0, [(0, 30)]) lv st σ c z := rfl
theorem go_C_make_19 : g_go c_C_make K k 19 lv st σ c z = k 19 (.iload_n 3, 1, 0, []) lv st σ c z := rfl
theorem go_C_make_20 : g_go c_C_make K k 20 lv st σ c z = k 20 (.ifCond .lt 10, 3, 0, [(0, 30)]) lv st σ c z := rfl
theorem go_C_make_23 : g_go c_C_make K k 23 lv st σ c z = k 23 (.iload_n 3, 1, 0, []) lv st σ c z := rfl
theorem go_C_make_24 : g_go c_C_make K k 24 lv st σ c z = k 24 (.sipush 500, 3, 500, []) lv st σ c z := rfl
theorem go_C_make_27 : g_go c_C_make K k 27 lv st σ c z = k 27 (.if_icmp .le 6, 3, 0, [(0, 33)]) lv st σ c z := rfl
theorem go_C_make_30 : g_go c_C_make K k 30 lv st σ c z = k 30 (.bipush (-4), 2, (-4), []) lv st σ c z := rfl
theorem go_C_make_32 : g_go c_C_make K k 32 lv st σ c z = k 32 (.ireturn, 1, 0, []) lv st σ c z := rfl
theorem go_C_make_33 : g_go c_C_make K k 33 lv st σ c z = k 33 (.aload_n 0, 1, 0, []) lv st σ c z := rfl
theorem go_C_make_34 : g_go c_C_make K k 34 lv st σ c z = k 34 (.iload_n 1, 1, 0, []) lv st σ c z := rfl
theorem go_C_make_35 : g_go c_C_make K k 35 lv st σ c z = k 35 (.invokevirtual 38, 3, 0, []) lv st σ c z := rfl
theorem go_C_make_38 : g_go c_C_make K k 38 lv st σ c z = k 38 (.ifCond .eq 6, 3, 0, [(0, 44)]) lv st σ c z := rfl
theorem go_C_make_41 : g_go c_C_make K k 41 lv st σ c z = k 41 (.bipush (-3), 2, (-3), []) lv st σ c z := rfl
theorem go_C_make_43 : g_go c_C_make K k 43 lv st σ c z = k 43 (.ireturn, 1, 0, []) lv st σ c z := rfl
theorem go_C_make_44 : g_go c_C_make K k 44 lv st σ c z = k 44 (.aload_n 0, 1, 0, []) lv st σ c z := rfl
theorem go_C_make_45 : g_go c_C_make K k 45 lv st σ c z = k 45 (.getfield 12, 3, 0, []) lv st σ c z := rfl
theorem go_C_make_48 : g_go c_C_make K k 48 lv st σ c z = k 48 (.iload_n 2, 1, 0, []) lv st σ c z := rfl
theorem go_C_make_49 : g_go c_C_make K k 49 lv st σ c z = k 49 (.invokevirtual 42, 3, 0, []) lv st σ c z := rfl
theorem go_C_make_52 : g_go c_C_make K k 52 lv st σ c z = k 52 (.istore 4, 2, 0, []) lv st σ c z := rfl
theorem go_C_make_54 : g_go c_C_make K k 54 lv st σ c z = k 54 (.iload 4, 2, 0, []) lv st σ c z := rfl
theorem go_C_make_56 : g_go c_C_make K k 56 lv st σ c z = k 56 (.iconst (-1), 1, (-1), []) lv st σ c z := rfl
theorem go_C_make_57 : g_go c_C_make K k 57 lv st σ c z = k 57 (.if_icmp .ne 6, 3, 0, [(0, 63)]) lv st σ c z := rfl
theorem go_C_make_60 : g_go c_C_make K k 60 lv st σ c z = k 60 (.bipush (-8), 2, (-8), []) lv st σ c z := rfl
theorem go_C_make_62 : g_go c_C_make K k 62 lv st σ c z = k 62 (.ireturn, 1, 0, []) lv st σ c z := rfl
theorem go_C_make_63 : g_go c_C_make K k 63 lv st σ c z = k 63 (.aload_n 0, 1, 0, []) lv st σ c z := rfl
theorem go_C_make_64 : g_go c_C_make K k 64 lv st σ c z = k 64 (.getfield 30, 3, 0, []) lv st σ c z := rfl
theorem go_C_make_67 : g_go c_C_make K k 67 lv st σ c z = k 67 (.bipush 60, 2, 60, []) lv st σ c z := rfl
theorem go_C_make_69 : g_go c_C_make K k 69 lv st σ c z = k 69 (.if_icmp .lt 5, 3, 0, [(0, 74)]) lv st σ c z := rfl
theorem go_C_make_72 : g_go c_C_make K k 72 lv st σ c z = k 72 (.iconst (-1), 1, (-1), []) lv st σ c z := rfl
theorem go_C_make_73 : g_go c_C_make K k 73 lv st σ c z = k 73 (.ireturn, 1, 0, []) lv st σ c z := rfl
theorem go_C_make_74 : g_go c_C_make K k 74 lv st σ c z = k 74 (.new 18, 3, 0, []) lv st σ c z := rfl
theorem go_C_make_77 : g_go c_C_make K k 77 lv st σ c z = k 77 (.dup, 1, 0, []) lv st σ c z := rfl
theorem go_C_make_78 : g_go c_C_make K k 78 lv st σ c z = k 78 (.iload_n 1, 1, 0, []) lv st σ c z := rfl
theorem go_C_make_79 : g_go c_C_make K k 79 lv st σ c z = k 79 (.iload_n 3, 1, 0, []) lv st σ c z := rfl
theorem go_C_make_80 : g_go c_C_make K k 80 lv st σ c z = k 80 (.invokespecial 45, 3, 0, []) lv st σ c z := rfl
theorem go_C_make_83 : g_go c_C_make K k 83 lv st σ c z = k 83 (.astore 5, 2, 0, []) lv st σ c z := rfl
theorem go_C_make_85 : g_go c_C_make K k 85 lv st σ c z = k 85 (.aload_n 0, 1, 0, []) lv st σ c z := rfl
theorem go_C_make_86 : g_go c_C_make K k 86 lv st σ c z = k 86 (.getfield 12, 3, 0, []) lv st σ c z := rfl
theorem go_C_make_89 : g_go c_C_make K k 89 lv st σ c z = k 89 (.iload 4, 2, 0, []) lv st σ c z := rfl
theorem go_C_make_91 : g_go c_C_make K k 91 lv st σ c z = k 91 (.iload_n 2, 1, 0, []) lv st σ c z := rfl
theorem go_C_make_92 : g_go c_C_make K k 92 lv st σ c z = k 92 (.invokevirtual 48, 3, 0, []) lv st σ c z := rfl
theorem go_C_make_95 : g_go c_C_make K k 95 lv st σ c z = k 95 (.aload 5, 2, 0, []) lv st σ c z := rfl
theorem go_C_make_97 : g_go c_C_make K k 97 lv st σ c z = k 97 (.getfield 51, 3, 0, []) lv st σ c z := rfl
theorem go_C_make_100 : g_go c_C_make K k 100 lv st σ c z = k 100 (.iload 4, 2, 0, []) lv st σ c z := rfl
theorem go_C_make_102 : g_go c_C_make K k 102 lv st σ c z = k 102 (.iload_n 2, 1, 0, []) lv st σ c z := rfl
theorem go_C_make_103 : g_go c_C_make K k 103 lv st σ c z = k 103 (.invokevirtual 55, 3, 0, []) lv st σ c z := rfl
theorem go_C_make_106 : g_go c_C_make K k 106 lv st σ c z = k 106 (.aload_n 0, 1, 0, []) lv st σ c z := rfl
theorem go_C_make_107 : g_go c_C_make K k 107 lv st σ c z = k 107 (.getfield 20, 3, 0, []) lv st σ c z := rfl
theorem go_C_make_110 : g_go c_C_make K k 110 lv st σ c z = k 110 (.aload_n 0, 1, 0, []) lv st σ c z := rfl
theorem go_C_make_111 : g_go c_C_make K k 111 lv st σ c z = k 111 (.getfield 30, 3, 0, []) lv st σ c z := rfl
theorem go_C_make_114 : g_go c_C_make K k 114 lv st σ c z = k 114 (.aload 5, 2, 0, []) lv st σ c z := rfl
theorem go_C_make_116 : g_go c_C_make K k 116 lv st σ c z = k 116 (.aastore, 1, 0, []) lv st σ c z := rfl
theorem go_C_make_117 : g_go c_C_make K k 117 lv st σ c z = k 117 (.aload_n 0, 1, 0, []) lv st σ c z := rfl
theorem go_C_make_118 : g_go c_C_make K k 118 lv st σ c z = k 118 (.dup, 1, 0, []) lv st σ c z := rfl
theorem go_C_make_119 : g_go c_C_make K k 119 lv st σ c z = k 119 (.getfield 30, 3, 0, []) lv st σ c z := rfl
theorem go_C_make_122 : g_go c_C_make K k 122 lv st σ c z = k 122 (.iconst 1, 1, 1, []) lv st σ c z := rfl
theorem go_C_make_123 : g_go c_C_make K k 123 lv st σ c z = k 123 (.iadd, 1, 0, []) lv st σ c z := rfl
theorem go_C_make_124 : g_go c_C_make K k 124 lv st σ c z = k 124 (.putfield 30, 3, 0, []) lv st σ c z := rfl
theorem go_C_make_127 : g_go c_C_make K k 127 lv st σ c z = k 127 (.aload_n 0, 1, 0, []) lv st σ c z := rfl
theorem go_C_make_128 : g_go c_C_make K k 128 lv st σ c z = k 128 (.getfield 30, 3, 0, []) lv st σ c z := rfl
theorem go_C_make_131 : g_go c_C_make K k 131 lv st σ c z = k 131 (.ireturn, 1, 0, []) lv st σ c z := rfl
theorem go_C_extend_0 : g_go c_C_extend K k 0 lv st σ c z = k 0 (.aload_n 0, 1, 0, []) lv st σ c z := rfl
theorem at_C_extend_0 : g_at c_C_extend k 0 lv st σ c z = k 0 (.aload_n 0, 1, 0, []) lv st σ c z := rfl
theorem go_C_extend_1 : g_go c_C_extend K k 1 lv st σ c z = k 1 (.iload_n 1, 1, 0, []) lv st σ c z := rfl
theorem go_C_extend_2 : g_go c_C_extend K k 2 lv st σ c z = k 2 (.invokevirtual 60, 3, 0, []) lv st σ c z := rfl
theorem go_C_extend_5 : g_go c_C_extend K k 5 lv st σ c z = k 5 (.astore_n 2, 1, 0, []) lv st σ c z := rfl
theorem go_C_extend_6 : g_go c_C_extend K k 6 lv st σ c z = k 6 (.aload_n 2, 1, 0, []) lv st σ c z := rfl
theorem go_C_extend_7 : g_go c_C_extend K k 7 lv st σ c z = k 7 (.ifnonnull 6, 3, 0, [(0, 13)]) lv st σ c z := rfl
theorem go_C_extend_10 : g_go c_C_extend K k 10 lv st σ c z = k 10 (.bipush (-2), 2, (-2), []) lv st σ c z := rfl
theorem go_C_extend_12 : g_go c_C_extend K k 12 lv st σ c z = k 12 (.ireturn, 1, 0, []) lv st σ c z := rfl
theorem go_C_extend_13 : g_go c_C_extend K k 13 lv st σ c z = k 13 (.aload_n 2, 1, 0, []) lv st σ c z := rfl
theorem go_C_extend_14 : g_go c_C_extend K k 14 lv st σ c z = k 14 (.getfield 51, 3, 0, []) lv st σ c z := rfl
theorem go_C_extend_17 : g_go c_C_extend K k 17 lv st σ c z = k 17 (.invokevirtual 64, 3, 0, []) lv st σ c z := rfl
theorem go_C_extend_20 : g_go c_C_extend K k 20 lv st σ c z = k 20 (.ifCond .ne 10, 3, 0, [(0, 30)]) lv st σ c z := rfl
theorem go_C_extend_23 : g_go c_C_extend K k 23 lv st σ c z = k 23 (.aload_n 2, 1, 0, []) lv st σ c z := rfl
theorem go_C_extend_24 : g_go c_C_extend K k 24 lv st σ c z = k 24 (.getfield 68, 3, 0, []) lv st σ c z := rfl
theorem go_C_extend_27 : g_go c_C_extend K k 27 lv st σ c z = k 27 (.ifCond .ne 6, 3, 0, [(0, 33)]) lv st σ c z := rfl
theorem go_C_extend_30 : g_go c_C_extend K k 30 lv st σ c z = k 30 (.bipush (-7), 2, (-7), []) lv st σ c z := rfl
theorem go_C_extend_32 : g_go c_C_extend K k 32 lv st σ c z = k 32 (.ireturn, 1, 0, []) lv st σ c z := rfl
theorem go_C_extend_33 : g_go c_C_extend K k 33 lv st σ c z = k 33 (.aload_n 0, 1, 0, []) lv st σ c z := rfl
theorem go_C_extend_34 : g_go c_C_extend K k 34 lv st σ c z = k 34 (.getfield 12, 3, 0, []) lv st σ c z := rfl
theorem go_C_extend_37 : g_go c_C_extend K k 37 lv st σ c z = k 37 (.aload_n 2, 1, 0, []) lv st σ c z := rfl
theorem go_C_extend_38 : g_go c_C_extend K k 38 lv st σ c z = k 38 (.getfield 68, 3, 0, []) lv st σ c z := rfl
theorem go_C_extend_41 : g_go c_C_extend K k 41 lv st σ c z = k 41 (.invokevirtual 42, 3, 0, []) lv st σ c z := rfl
theorem go_C_extend_44 : g_go c_C_extend K k 44 lv st σ c z = k 44 (.istore_n 3, 1, 0, []) lv st σ c z := rfl
theorem go_C_extend_45 : g_go c_C_extend K k 45 lv st σ c z = k 45 (.iload_n 3, 1, 0, []) lv st σ c z := rfl
theorem go_C_extend_46 : g_go c_C_extend K k 46 lv st σ c z = k 46 (.iconst (-1), 1, (-1), []) lv st σ c z := rfl
theorem go_C_extend_47 : g_go c_C_extend K k 47 lv st σ c z = k 47 (.if_icmp .ne 6, 3, 0, [(0, 53)]) lv st σ c z := rfl
theorem go_C_extend_50 : g_go c_C_extend K k 50 lv st σ c z = k 50 (.bipush (-8), 2, (-8), []) lv st σ c z := rfl
theorem go_C_extend_52 : g_go c_C_extend K k 52 lv st σ c z = k 52 (.ireturn, 1, 0, []) lv st σ c z := rfl
theorem go_C_extend_53 : g_go c_C_extend K k 53 lv st σ c z = k 53 (.aload_n 0, 1, 0, []) lv st σ c z := rfl
theorem go_C_extend_54 : g_go c_C_extend K k 54 lv st σ c z = k 54 (.getfield 12, 3, 0, []) lv st σ c z := rfl
theorem go_C_extend_57 : g_go c_C_extend K k 57 lv st σ c z = k 57 (.iload_n 3, 1, 0, []) lv st σ c z := rfl
theorem go_C_extend_58 : g_go c_C_extend K k 58 lv st σ c z = k 58 (.aload_n 2, 1, 0, []) lv st σ c z := rfl
theorem go_C_extend_59 : g_go c_C_extend K k 59 lv st σ c z = k 59 (.getfield 68, 3, 0, []) lv st σ c z := rfl
theorem go_C_extend_62 : g_go c_C_extend K k 62 lv st σ c z = k 62 (.invokevirtual 48, 3, 0, []) lv st σ c z := rfl
theorem go_C_extend_65 : g_go c_C_extend K k 65 lv st σ c z = k 65 (.aload_n 2, 1, 0, []) lv st σ c z := rfl
theorem go_C_extend_66 : g_go c_C_extend K k 66 lv st σ c z = k 66 (.getfield 51, 3, 0, []) lv st σ c z := rfl
theorem go_C_extend_69 : g_go c_C_extend K k 69 lv st σ c z = k 69 (.iload_n 3, 1, 0, []) lv st σ c z := rfl
theorem go_C_extend_70 : g_go c_C_extend K k 70 lv st σ c z = k 70 (.aload_n 2, 1, 0, []) lv st σ c z := rfl
theorem go_C_extend_71 : g_go c_C_extend K k 71 lv st σ c z = k 71 (.getfield 68, 3, 0, []) lv st σ c z := rfl
theorem go_C_extend_74 : g_go c_C_extend K k 74 lv st σ c z = k 74 (.invokevirtual 55, 3, 0, []) lv st σ c z := rfl
theorem go_C_extend_77 : g_go c_C_extend K k 77 lv st σ c z = k 77 (.aload_n 2, 1, 0, []) lv st σ c z := rfl
theorem go_C_extend_78 : g_go c_C_extend K k 78 lv st σ c z = k 78 (.getfield 51, 3, 0, []) lv st σ c z := rfl
theorem go_C_extend_81 : g_go c_C_extend K k 81 lv st σ c z = k 81 (.getfield 71, 3, 0, []) lv st σ c z := rfl
theorem go_C_extend_84 : g_go c_C_extend K k 84 lv st σ c z = k 84 (.ireturn, 1, 0, []) lv st σ c z := rfl
theorem go_C_find_0 : g_go c_C_find K k 0 lv st σ c z = k 0 (.aload_n 0, 1, 0, []) lv st σ c z := rfl
theorem at_C_find_0 : g_at c_C_find k 0 lv st σ c z = k 0 (.aload_n 0, 1, 0, []) lv st σ c z := rfl
theorem go_C_find_1 : g_go c_C_find K k 1 lv st σ c z = k 1 (.iload_n 1, 1, 0, []) lv st σ c z := rfl
theorem go_C_find_2 : g_go c_C_find K k 2 lv st σ c z = k 2 (.invokevirtual 38, 3, 0, []) lv st σ c z := rfl
theorem go_C_find_5 : g_go c_C_find K k 5 lv st σ c z = k 5 (.ireturn, 1, 0, []) lv st σ c z := rfl
theorem go_C_member_0 : g_go c_C_member K k 0 lv st σ c z = k 0 (.aload_n 0, 1, 0, []) lv st σ c z := rfl
theorem at_C_member_0 : g_at c_C_member k 0 lv st σ c z = k 0 (.aload_n 0, 1, 0, []) lv st σ c z := rfl
theorem go_C_member_1 : g_go c_C_member K k 1 lv st σ c z = k 1 (.iload_n 1, 1, 0, []) lv st σ c z := rfl
theorem go_C_member_2 : g_go c_C_member K k 2 lv st σ c z = k 2 (.invokevirtual 60, 3, 0, []) lv st σ c z := rfl
theorem go_C_member_5 : g_go c_C_member K k 5 lv st σ c z = k 5 (.astore 4, 2, 0, []) lv st σ c z := rfl
theorem go_C_member_7 : g_go c_C_member K k 7 lv st σ c z = k 7 (.aload 4, 2, 0, []) lv st σ c z := rfl
theorem go_C_member_9 : g_go c_C_member K k 9 lv st σ c z = k 9 (.ifnonnull 6, 3, 0, [(0, 15)]) lv st σ c z := rfl
theorem go_C_member_12 : g_go c_C_member K k 12 lv st σ c z = k 12 (.bipush (-2), 2, (-2), []) lv st σ c z := rfl
theorem go_C_member_14 : g_go c_C_member K k 14 lv st σ c z = k 14 (.ireturn, 1, 0, []) lv st σ c z := rfl
theorem go_C_member_15 : g_go c_C_member K k 15 lv st σ c z = k 15 (.iload_n 2, 1, 0, []) lv st σ c z := rfl
theorem go_C_member_16 : g_go c_C_member K k 16 lv st σ c z = k 16 (.invokestatic 34, 3, 0, []) lv st σ c z := rfl
theorem go_C_member_19 : g_go c_C_member K k 19 lv st σ c z = k 19 (.ifCond .eq 14, 3, 0, [(0, 33)]) lv st σ c z := rfl
theorem go_C_member_22 : g_go c_C_member K k 22 lv st σ c z = k 22 (.iload_n 3, 1, 0, []) lv st σ c z := rfl
theorem go_C_member_23 : g_go c_C_member K k 23 lv st σ c z = k 23 (.ifCond .lt 10, 3, 0, [(0, 33)]) lv st σ c z := rfl
theorem go_C_member_26 : g_go c_C_member K k 26 lv st σ c z = k 26 (.iload_n 3, 1, 0, []) lv st σ c z := rfl
theorem go_C_member_27 : g_go c_C_member K k 27 lv st σ c z = k 27 (.sipush 500, 3, 500, []) lv st σ c z := rfl
theorem go_C_member_30 : g_go c_C_member K k 30 lv st σ c z = k 30 (.if_icmp .le 6, 3, 0, [(0, 36)]) lv st σ c z := rfl
theorem go_C_member_33 : g_go c_C_member K k 33 lv st σ c z = k 33 (.bipush (-4), 2, (-4), []) lv st σ c z := rfl
theorem go_C_member_35 : g_go c_C_member K k 35 lv st σ c z = k 35 (.ireturn, 1, 0, []) lv st σ c z := rfl
theorem go_C_member_36 : g_go c_C_member K k 36 lv st σ c z = k 36 (.aload 4, 2, 0, []) lv st σ c z := rfl
theorem go_C_member_38 : g_go c_C_member K k 38 lv st σ c z = k 38 (.getfield 74, 3, 0, []) lv st σ c z := rfl
theorem go_C_member_41 : g_go c_C_member K k 41 lv st σ c z = k 41 (.iload_n 2, 1, 0, []) lv st σ c z := rfl
theorem go_C_member_42 : g_go c_C_member K k 42 lv st σ c z = k 42 (.invokevirtual 78, 3, 0, []) lv st σ c z := rfl
theorem go_C_member_45 : g_go c_C_member K k 45 lv st σ c z = k 45 (.ifCond .ne 6, 3, 0, [(0, 51)]) lv st σ c z := rfl
theorem go_C_member_48 : g_go c_C_member K k 48 lv st σ c z = k 48 (.bipush (-6), 2, (-6), []) lv st σ c z := rfl
theorem go_C_member_50 : g_go c_C_member K k 50 lv st σ c z = k 50 (.ireturn, 1, 0, []) lv st σ c z := rfl
theorem go_C_member_51 : g_go c_C_member K k 51 lv st σ c z = k 51 (.aload 4, 2, 0, []) lv st σ c z := rfl
theorem go_C_member_53 : g_go c_C_member K k 53 lv st σ c z = k 53 (.getfield 74, 3, 0, []) lv st σ c z := rfl
theorem go_C_member_56 : g_go c_C_member K k 56 lv st σ c z = k 56 (.getfield 83, 3, 0, []) lv st σ c z := rfl
theorem go_C_member_59 : g_go c_C_member K k 59 lv st σ c z = k 59 (.iload_n 3, 1, 0, []) lv st σ c z := rfl
theorem go_C_member_60 : g_go c_C_member K k 60 lv st σ c z = k 60 (.iadd, 1, 0, []) lv st σ c z := rfl
theorem go_C_member_61 : g_go c_C_member K k 61 lv st σ c z = k 61 (.aload 4, 2, 0, []) lv st σ c z := rfl
theorem go_C_member_63 : g_go c_C_member K k 63 lv st σ c z = k 63 (.getfield 51, 3, 0, []) lv st σ c z := rfl
theorem go_C_member_66 : g_go c_C_member K k 66 lv st σ c z = k 66 (.invokevirtual 86, 3, 0, []) lv st σ c z := rfl
theorem go_C_member_69 : g_go c_C_member K k 69 lv st σ c z = k 69 (.if_icmp .le 6, 3, 0, [(0, 75)]) lv st σ c z := rfl
theorem go_C_member_72 : g_go c_C_member K k 72 lv st σ c z = k 72 (.bipush (-8), 2, (-8), []) lv st σ c z := rfl
theorem go_C_member_74 : g_go c_C_member K k 74 lv st σ c z = k 74 (.ireturn, 1, 0, []) lv st σ c z := rfl
theorem go_C_member_75 : g_go c_C_member K k 75 lv st σ c z = k 75 (.aload 4, 2, 0, []) lv st σ c z := rfl
theorem go_C_member_77 : g_go c_C_member K k 77 lv st σ c z = k 77 (.getfield 74, 3, 0, []) lv st σ c z := rfl
theorem go_C_member_80 : g_go c_C_member K k 80 lv st σ c z = k 80 (.iload_n 2, 1, 0, []) lv st σ c z := rfl
theorem go_C_member_81 : g_go c_C_member K k 81 lv st σ c z = k 81 (.iload_n 3, 1, 0, []) lv st σ c z := rfl
theorem go_C_member_82 : g_go c_C_member K k 82 lv st σ c z = k 82 (.invokevirtual 90, 3, 0, []) lv st σ c z := rfl
theorem go_C_member_85 : g_go c_C_member K k 85 lv st σ c z = k 85 (.iconst 1, 1, 1, []) lv st σ c z := rfl
theorem go_C_member_86 : g_go c_C_member K k 86 lv st σ c z = k 86 (.ireturn, 1, 0, []) lv st σ c z := rfl
theorem go_C_track_0 : g_go c_C_track K k 0 lv st σ c z = k 0 (.aload_n 0, 1, 0, []) lv st σ c z := rfl
theorem at_C_track_0 : g_at c_C_track k 0 lv st σ c z = k 0 (.aload_n 0, 1, 0, []) lv st σ c z := rfl
theorem go_C_track_1 : g_go c_C_track K k 1 lv st σ c z = k 1 (.iload_n 1, 1, 0, []) lv st σ c z := rfl
theorem go_C_track_2 : g_go c_C_track K k 2 lv st σ c z = k 2 (.invokevirtual 60, 3, 0, []) lv st σ c z := rfl
theorem go_C_track_5 : g_go c_C_track K k 5 lv st σ c z = k 5 (.astore_n 3, 1, 0, []) lv st σ c z := rfl
theorem go_C_track_6 : g_go c_C_track K k 6 lv st σ c z = k 6 (.aload_n 3, 1, 0, []) lv st σ c z := rfl
theorem go_C_track_7 : g_go c_C_track K k 7 lv st σ c z = k 7 (.ifnonnull 5, 3, 0, [(0, 12)]) lv st σ c z := rfl
theorem go_C_track_10 : g_go c_C_track K k 10 lv st σ c z = k 10 (.iconst (-1), 1, (-1), []) lv st σ c z := rfl
theorem go_C_track_11 : g_go c_C_track K k 11 lv st σ c z = k 11 (.ireturn, 1, 0, []) lv st σ c z := rfl
theorem go_C_track_12 : g_go c_C_track K k 12 lv st σ c z = k 12 (.aload_n 3, 1, 0, []) lv st σ c z := rfl
theorem go_C_track_13 : g_go c_C_track K k 13 lv st σ c z = k 13 (.getfield 74, 3, 0, []) lv st σ c z := rfl
theorem go_C_track_16 : g_go c_C_track K k 16 lv st σ c z = k 16 (.iload_n 2, 1, 0, []) lv st σ c z := rfl
theorem go_C_track_17 : g_go c_C_track K k 17 lv st σ c z = k 17 (.invokevirtual 93, 3, 0, []) lv st σ c z := rfl
theorem go_C_track_20 : g_go c_C_track K k 20 lv st σ c z = k 20 (.istore 4, 2, 0, []) lv st σ c z := rfl
theorem go_C_track_22 : g_go c_C_track K k 22 lv st σ c z = k 22 (.iload 4, 2, 0, []) lv st σ c z := rfl
theorem go_C_track_24 : g_go c_C_track K k 24 lv st σ c z = k 24 (.iconst (-1), 1, (-1), []) lv st σ c z := rfl
theorem go_C_track_25 : g_go c_C_track K k 25 lv st σ c z = k 25 (.if_icmp .ne 7, 3, 0, [(0, 32)]) lv st σ c z := rfl
theorem go_C_track_28 : g_go c_C_track K k 28 lv st σ c z = k 28 (.iconst (-1), 1, (-1), []) lv st σ c z := rfl
theorem go_C_track_29 : g_go c_C_track K k 29 lv st σ c z = k 29 (.goto 12, 3, 0, [(0, 41)]) lv st σ c z := rfl
theorem go_C_track_32 : g_go c_C_track K k 32 lv st σ c z = k 32 (.aload_n 3, 1, 0, []) lv st σ c z := rfl
theorem go_C_track_33 : g_go c_C_track K k 33 lv st σ c z = k 33 (.getfield 51, 3, 0, []) lv st σ c z := rfl
theorem go_C_track_36 : g_go c_C_track K k 36 lv st σ c z = k 36 (.iload 4, 2, 0, []) lv st σ c z := rfl
theorem go_C_track_38 : g_go c_C_track K k 38 lv st σ c z = k 38 (.invokevirtual 96, 3, 0, []) lv st σ c z := rfl
theorem go_C_track_41 : g_go c_C_track K k 41 lv st σ c z = k 41 (.ireturn, 1, 0, []) lv st σ c z := rfl
theorem go_C_remove_0 : g_go c_C_remove K k 0 lv st σ c z = k 0 (.aload_n 0, 1, 0, []) lv st σ c z := rfl
theorem at_C_remove_0 : g_at c_C_remove k 0 lv st σ c z = k 0 (.aload_n 0, 1, 0, []) lv st σ c z := rfl
theorem go_C_remove_1 : g_go c_C_remove K k 1 lv st σ c z = k 1 (.iload_n 1, 1, 0, []) lv st σ c z := rfl
theorem go_C_remove_2 : g_go c_C_remove K k 2 lv st σ c z = k 2 (.invokevirtual 38, 3, 0, []) lv st σ c z := rfl
theorem go_C_remove_5 : g_go c_C_remove K k 5 lv st σ c z = k 5 (.istore 4, 2, 0, []) lv st σ c z := rfl
theorem go_C_remove_7 : g_go c_C_remove K k 7 lv st σ c z = k 7 (.aload_n 0, 1, 0, []) lv st σ c z := rfl
theorem go_C_remove_8 : g_go c_C_remove K k 8 lv st σ c z = k 8 (.iload 4, 2, 0, []) lv st σ c z := rfl
theorem go_C_remove_10 : g_go c_C_remove K k 10 lv st σ c z = k 10 (.invokevirtual 60, 3, 0, []) lv st σ c z := rfl
theorem go_C_remove_13 : g_go c_C_remove K k 13 lv st σ c z = k 13 (.astore 5, 2, 0, []) lv st σ c z := rfl
theorem go_C_remove_15 : g_go c_C_remove K k 15 lv st σ c z = k 15 (.aload 5, 2, 0, []) lv st σ c z := rfl
theorem go_C_remove_17 : g_go c_C_remove K k 17 lv st σ c z = k 17 (.ifnonnull 5, 3, 0, [(0, 22)]) lv st σ c z := rfl
theorem go_C_remove_20 : g_go c_C_remove K k 20 lv st σ c z = k 20 (.iconst 0, 1, 0, []) lv st σ c z := rfl
theorem go_C_remove_21 : g_go c_C_remove K k 21 lv st σ c z = k 21 (.ireturn, 1, 0, []) lv st σ c z := rfl
theorem go_C_remove_22 : g_go c_C_remove K k 22 lv st σ c z = k 22 (.aload_n 0, 1, 0, []) lv st σ c z := rfl
theorem go_C_remove_23 : g_go c_C_remove K k 23 lv st σ c z = k 23 (.iload_n 1, 1, 0, []) lv st σ c z := rfl
theorem go_C_remove_24 : g_go c_C_remove K k 24 lv st σ c z = k 24 (.invokevirtual 99, 3, 0, []) lv st σ c z := rfl
theorem go_C_remove_27 : g_go c_C_remove K k 27 lv st σ c z = k 27 (.ifCond .eq 6, 3, 0, [(0, 33)]) lv st σ c z := rfl
theorem go_C_remove_30 : g_go c_C_remove K k 30 lv st σ c z = k 30 (.bipush (-5), 2, (-5), []) lv st σ c z := rfl
theorem go_C_remove_32 : g_go c_C_remove K k 32 lv st σ c z = k 32 (.ireturn, 1, 0, []) lv st σ c z := rfl
theorem go_C_remove_33 : g_go c_C_remove K k 33 lv st σ c z = k 33 (.aload 5, 2, 0, []) lv st σ c z := rfl
theorem go_C_remove_35 : g_go c_C_remove K k 35 lv st σ c z = k 35 (.getfield 102, 3, 0, []) lv st σ c z := rfl
theorem go_C_remove_38 : g_go c_C_remove K k 38 lv st σ c z = k 38 (.lload_n 2, 1, 0, []) lv st σ c z := rfl
theorem go_C_remove_39 : g_go c_C_remove K k 39 lv st σ c z = k 39 (.lcmp, 1, 0, []) lv st σ c z := rfl
theorem go_C_remove_40 : g_go c_C_remove K k 40 lv st σ c z = k 40 (.ifCond .le 6, 3, 0, [(0, 46)]) lv st σ c z := rfl
theorem go_C_remove_43 : g_go c_C_remove K k 43 lv st σ c z = k 43 (.bipush (-9), 2, (-9), []) lv st σ c z := rfl
theorem go_C_remove_45 : g_go c_C_remove K k 45 lv st σ c z = k 45 (.ireturn, 1, 0, []) lv st σ c z := rfl
theorem go_C_remove_46 : g_go c_C_remove K k 46 lv st σ c z = k 46 (.aload 5, 2, 0, []) lv st σ c z := rfl
theorem go_C_remove_48 : g_go c_C_remove K k 48 lv st σ c z = k 48 (.getfield 51, 3, 0, []) lv st σ c z := rfl
theorem go_C_remove_51 : g_go c_C_remove K k 51 lv st σ c z = k 51 (.iconst 0, 1, 0, []) lv st σ c z := rfl
theorem go_C_remove_52 : g_go c_C_remove K k 52 lv st σ c z = k 52 (.aload_n 0, 1, 0, []) lv st σ c z := rfl
theorem go_C_remove_53 : g_go c_C_remove K k 53 lv st σ c z = k 53 (.getfield 12, 3, 0, []) lv st σ c z := rfl
theorem go_C_remove_56 : g_go c_C_remove K k 56 lv st σ c z = k 56 (.invokevirtual 106, 3, 0, []) lv st σ c z := rfl
theorem go_C_remove_59 : g_go c_C_remove K k 59 lv st σ c z = k 59 (.pop, 1, 0, []) lv st σ c z := rfl
theorem go_C_remove_60 : g_go c_C_remove K k 60 lv st σ c z = k 60 (.aload_n 0, 1, 0, []) lv st σ c z := rfl
theorem go_C_remove_61 : g_go c_C_remove K k 61 lv st σ c z = k 61 (.getfield 20, 3, 0, []) lv st σ c z := rfl
theorem go_C_remove_64 : g_go c_C_remove K k 64 lv st σ c z = k 64 (.iload 4, 2, 0, []) lv st σ c z := rfl
theorem go_C_remove_66 : g_go c_C_remove K k 66 lv st σ c z = k 66 (.iconst 1, 1, 1, []) lv st σ c z := rfl
theorem go_C_remove_67 : g_go c_C_remove K k 67 lv st σ c z = k 67 (.isub, 1, 0, []) lv st σ c z := rfl
theorem go_C_remove_68 : g_go c_C_remove K k 68 lv st σ c z = k 68 (.aconst_null, 1, 0, []) lv st σ c z := rfl
theorem go_C_remove_69 : g_go c_C_remove K k 69 lv st σ c z = k 69 (.aastore, 1, 0, []) lv st σ c z := rfl
theorem go_C_remove_70 : g_go c_C_remove K k 70 lv st σ c z = k 70 (.iconst 1, 1, 1, []) lv st σ c z := rfl
theorem go_C_remove_71 : g_go c_C_remove K k 71 lv st σ c z = k 71 (.ireturn, 1, 0, []) lv st σ c z := rfl
theorem go_C_guard_0 : g_go c_C_guard K k 0 lv st σ c z = k 0 (.aload_n 0, 1, 0, []) lv st σ c z := rfl
theorem at_C_guard_0 : g_at c_C_guard k 0 lv st σ c z = k 0 (.aload_n 0, 1, 0, []) lv st σ c z := rfl
theorem go_C_guard_1 : g_go c_C_guard K k 1 lv st σ c z = k 1 (.iload_n 1, 1, 0, []) lv st σ c z := rfl
theorem go_C_guard_2 : g_go c_C_guard K k 2 lv st σ c z = k 2 (.invokevirtual 60, 3, 0, []) lv st σ c z := rfl
theorem go_C_guard_5 : g_go c_C_guard K k 5 lv st σ c z = k 5 (.astore 4, 2, 0, []) lv st σ c z := rfl
theorem go_C_guard_7 : g_go c_C_guard K k 7 lv st σ c z = k 7 (.aload 4, 2, 0, []) lv st σ c z := rfl
theorem go_C_guard_9 : g_go c_C_guard K k 9 lv st σ c z = k 9 (.ifnonnull 6, 3, 0, [(0, 15)]) lv st σ c z := rfl
theorem go_C_guard_12 : g_go c_C_guard K k 12 lv st σ c z = k 12 (.bipush (-2), 2, (-2), []) lv st σ c z := rfl
theorem go_C_guard_14 : g_go c_C_guard K k 14 lv st σ c z = k 14 (.ireturn, 1, 0, []) lv st σ c z := rfl
theorem go_C_guard_15 : g_go c_C_guard K k 15 lv st σ c z = k 15 (.aload 4, 2, 0, []) lv st σ c z := rfl
theorem go_C_guard_17 : g_go c_C_guard K k 17 lv st σ c z = k 17 (.lload_n 2, 1, 0, []) lv st σ c z := rfl
theorem go_C_guard_18 : g_go c_C_guard K k 18 lv st σ c z = k 18 (.putfield 102, 3, 0, []) lv st σ c z := rfl
theorem go_C_guard_21 : g_go c_C_guard K k 21 lv st σ c z = k 21 (.iconst 1, 1, 1, []) lv st σ c z := rfl
theorem go_C_guard_22 : g_go c_C_guard K k 22 lv st σ c z = k 22 (.ireturn, 1, 0, []) lv st σ c z := rfl
theorem go_C_rename_0 : g_go c_C_rename K k 0 lv st σ c z = k 0 (.aload_n 0, 1, 0, []) lv st σ c z := rfl
theorem at_C_rename_0 : g_at c_C_rename k 0 lv st σ c z = k 0 (.aload_n 0, 1, 0, []) lv st σ c z := rfl
theorem go_C_rename_1 : g_go c_C_rename K k 1 lv st σ c z = k 1 (.aload_n 0, 1, 0, []) lv st σ c z := rfl
theorem go_C_rename_2 : g_go c_C_rename K k 2 lv st σ c z = k 2 (.iload_n 1, 1, 0, []) lv st σ c z := rfl
theorem go_C_rename_3 : g_go c_C_rename K k 3 lv st σ c z = k 3 (.invokevirtual 38, 3, 0, []) lv st σ c z := rfl
theorem go_C_rename_6 : g_go c_C_rename K k 6 lv st σ c z = k 6 (.invokevirtual 60, 3, 0, []) lv st σ c z := rfl
theorem go_C_rename_9 : g_go c_C_rename K k 9 lv st σ c z = k 9 (.astore_n 3, 1, 0, []) lv st σ c z := rfl
theorem go_C_rename_10 : g_go c_C_rename K k 10 lv st σ c z = k 10 (.aload_n 3, 1, 0, []) lv st σ c z := rfl
theorem go_C_rename_11 : g_go c_C_rename K k 11 lv st σ c z = k 11 (.ifnonnull 5, 3, 0, [(0, 16)]) lv st σ c z := rfl
theorem go_C_rename_14 : g_go c_C_rename K k 14 lv st σ c z = k 14 (.iconst 0, 1, 0, []) lv st σ c z := rfl
theorem go_C_rename_15 : g_go c_C_rename K k 15 lv st σ c z = k 15 (.ireturn, 1, 0, []) lv st σ c z := rfl
theorem go_C_rename_16 : g_go c_C_rename K k 16 lv st σ c z = k 16 (.iload_n 2, 1, 0, []) lv st σ c z := rfl
theorem go_C_rename_17 : g_go c_C_rename K k 17 lv st σ c z = k 17 (.invokestatic 34, 3, 0, []) lv st σ c z := rfl
theorem go_C_rename_20 : g_go c_C_rename K k 20 lv st σ c z = k 20 (.ifCond .ne 6, 3, 0, [(0, 26)]) lv st σ c z := rfl
theorem go_C_rename_23 : g_go c_C_rename K k 23 lv st σ c z = k 23 (.bipush (-4), 2, (-4), []) lv st σ c z := rfl
theorem go_C_rename_25 : g_go c_C_rename K k 25 lv st σ c z = k 25 (.ireturn, 1, 0, []) lv st σ c z := rfl
theorem go_C_rename_26 : g_go c_C_rename K k 26 lv st σ c z = k 26 (.aload_n 0, 1, 0, []) lv st σ c z := rfl
theorem go_C_rename_27 : g_go c_C_rename K k 27 lv st σ c z = k 27 (.iload_n 2, 1, 0, []) lv st σ c z := rfl
theorem go_C_rename_28 : g_go c_C_rename K k 28 lv st σ c z = k 28 (.invokevirtual 38, 3, 0, []) lv st σ c z := rfl
theorem go_C_rename_31 : g_go c_C_rename K k 31 lv st σ c z = k 31 (.ifCond .eq 6, 3, 0, [(0, 37)]) lv st σ c z := rfl
theorem go_C_rename_34 : g_go c_C_rename K k 34 lv st σ c z = k 34 (.bipush (-3), 2, (-3), []) lv st σ c z := rfl
theorem go_C_rename_36 : g_go c_C_rename K k 36 lv st σ c z = k 36 (.ireturn, 1, 0, []) lv st σ c z := rfl
theorem go_C_rename_37 : g_go c_C_rename K k 37 lv st σ c z = k 37 (.aload_n 0, 1, 0, []) lv st σ c z := rfl
theorem go_C_rename_38 : g_go c_C_rename K k 38 lv st σ c z = k 38 (.iload_n 1, 1, 0, []) lv st σ c z := rfl
theorem go_C_rename_39 : g_go c_C_rename K k 39 lv st σ c z = k 39 (.invokevirtual 99, 3, 0, []) lv st σ c z := rfl
theorem go_C_rename_42 : g_go c_C_rename K k 42 lv st σ c z = k 42 (.ifCond .ne 11, 3, 0, [(0, 53)]) lv st σ c z := rfl
theorem go_C_rename_45 : g_go c_C_rename K k 45 lv st σ c z = k 45 (.aload_n 0, 1, 0, []) lv st σ c z := rfl
theorem go_C_rename_46 : g_go c_C_rename K k 46 lv st σ c z = k 46 (.iload_n 2, 1, 0, []) lv st σ c z := rfl
theorem go_C_rename_47 : g_go c_C_rename K k 47 lv st σ c z = k 47 (.invokevirtual 99, 3, 0, []) lv st σ c z := rfl
theorem go_C_rename_50 : g_go c_C_rename K k 50 lv st σ c z = k 50 (.ifCond .eq 6, 3, 0, [(0, 56)]) lv st σ c z := rfl
theorem go_C_rename_53 : g_go c_C_rename K k 53 lv st σ c z = k 53 (.bipush (-5), 2, (-5), []) lv st σ c z := rfl
theorem go_C_rename_55 : g_go c_C_rename K k 55 lv st σ c z = k 55 (.ireturn, 1, 0, []) lv st σ c z := rfl
theorem go_C_rename_56 : g_go c_C_rename K k 56 lv st σ c z = k 56 (.aload_n 3, 1, 0, []) lv st σ c z := rfl
theorem go_C_rename_57 : g_go c_C_rename K k 57 lv st σ c z = k 57 (.iload_n 2, 1, 0, []) lv st σ c z := rfl
theorem go_C_rename_58 : g_go c_C_rename K k 58 lv st σ c z = k 58 (.putfield 110, 3, 0, []) lv st σ c z := rfl
theorem go_C_rename_61 : g_go c_C_rename K k 61 lv st σ c z = k 61 (.iconst 1, 1, 1, []) lv st σ c z := rfl
theorem go_C_rename_62 : g_go c_C_rename K k 62 lv st σ c z = k 62 (.ireturn, 1, 0, []) lv st σ c z := rfl
theorem go_C_attribute_0 : g_go c_C_attribute K k 0 lv st σ c z = k 0 (.aload_n 0, 1, 0, []) lv st σ c z := rfl
theorem at_C_attribute_0 : g_at c_C_attribute k 0 lv st σ c z = k 0 (.aload_n 0, 1, 0, []) lv st σ c z := rfl
theorem go_C_attribute_1 : g_go c_C_attribute K k 1 lv st σ c z = k 1 (.iload_n 1, 1, 0, []) lv st σ c z := rfl
theorem go_C_attribute_2 : g_go c_C_attribute K k 2 lv st σ c z = k 2 (.invokevirtual 60, 3, 0, []) lv st σ c z := rfl
theorem go_C_attribute_5 : g_go c_C_attribute K k 5 lv st σ c z = k 5 (.astore 5, 2, 0, []) lv st σ c z := rfl
theorem go_C_attribute_7 : g_go c_C_attribute K k 7 lv st σ c z = k 7 (.aload 5, 2, 0, []) lv st σ c z := rfl
theorem go_C_attribute_9 : g_go c_C_attribute K k 9 lv st σ c z = k 9 (.ifnonnull 6, 3, 0, [(0, 15)]) lv st σ c z := rfl
theorem go_C_attribute_12 : g_go c_C_attribute K k 12 lv st σ c z = k 12 (.bipush (-2), 2, (-2), []) lv st σ c z := rfl
theorem go_C_attribute_14 : g_go c_C_attribute K k 14 lv st σ c z = k 14 (.ireturn, 1, 0, []) lv st σ c z := rfl
theorem go_C_attribute_15 : g_go c_C_attribute K k 15 lv st σ c z = k 15 (.iload_n 2, 1, 0, []) lv st σ c z := rfl
theorem go_C_attribute_16 : g_go c_C_attribute K k 16 lv st σ c z = k 16 (.ifCond .lt 15, 3, 0, [(0, 31)]) lv st σ c z := rfl
theorem go_C_attribute_19 : g_go c_C_attribute K k 19 lv st σ c z = k 19 (.iload_n 2, 1, 0, []) lv st σ c z := rfl
theorem go_C_attribute_20 : g_go c_C_attribute K k 20 lv st σ c z = k 20 (.iconst 3, 1, 3, []) lv st σ c z := rfl
theorem go_C_attribute_21 : g_go c_C_attribute K k 21 lv st σ c z = k 21 (.if_icmp .ge 10, 3, 0, [(0, 31)]) lv st σ c z := rfl
theorem go_C_attribute_24 : g_go c_C_attribute K k 24 lv st σ c z = k 24 (.iload_n 3, 1, 0, []) lv st σ c z := rfl
theorem go_C_attribute_25 : g_go c_C_attribute K k 25 lv st σ c z = k 25 (.invokestatic 113, 3, 0, []) lv st σ c z := rfl
theorem go_C_attribute_28 : g_go c_C_attribute K k 28 lv st σ c z = k 28 (.ifCond .ne 6, 3, 0, [(0, 34)]) lv st σ c z := rfl
theorem go_C_attribute_31 : g_go c_C_attribute K k 31 lv st σ c z = k 31 (.bipush (-4), 2, (-4), []) lv st σ c z := rfl
theorem go_C_attribute_33 : g_go c_C_attribute K k 33 lv st σ c z = k 33 (.ireturn, 1, 0, []) lv st σ c z := rfl
theorem go_C_attribute_34 : g_go c_C_attribute K k 34 lv st σ c z = k 34 (.aload 5, 2, 0, []) lv st σ c z := rfl
theorem go_C_attribute_36 : g_go c_C_attribute K k 36 lv st σ c z = k 36 (.getfield 116, 3, 0, []) lv st σ c z := rfl
theorem go_C_attribute_39 : g_go c_C_attribute K k 39 lv st σ c z = k 39 (.iload_n 2, 1, 0, []) lv st σ c z := rfl
theorem go_C_attribute_40 : g_go c_C_attribute K k 40 lv st σ c z = k 40 (.iload_n 3, 1, 0, []) lv st σ c z := rfl
theorem go_C_attribute_41 : g_go c_C_attribute K k 41 lv st σ c z = k 41 (.iload 4, 2, 0, []) lv st σ c z := rfl
theorem go_C_attribute_43 : g_go c_C_attribute K k 43 lv st σ c z = k 43 (.invokevirtual 120, 3, 0, []) lv st σ c z := rfl
theorem go_C_attribute_46 : g_go c_C_attribute K k 46 lv st σ c z = k 46 (.iconst 1, 1, 1, []) lv st σ c z := rfl
theorem go_C_attribute_47 : g_go c_C_attribute K k 47 lv st σ c z = k 47 (.ireturn, 1, 0, []) lv st σ c z := rfl
theorem go_C_merged_0 : g_go c_C_merged K k 0 lv st σ c z = k 0 (.aload_n 0, 1, 0, []) lv st σ c z := rfl
theorem at_C_merged_0 : g_at c_C_merged k 0 lv st σ c z = k 0 (.aload_n 0, 1, 0, []) lv st σ c z := rfl
theorem go_C_merged_1 : g_go c_C_merged K k 1 lv st σ c z = k 1 (.iload_n 1, 1, 0, []) lv st σ c z := rfl
theorem go_C_merged_2 : g_go c_C_merged K k 2 lv st σ c z = k 2 (.invokevirtual 60, 3, 0, []) lv st σ c z := rfl
theorem go_C_merged_5 : g_go c_C_merged K k 5 lv st σ c z = k 5 (.astore_n 3, 1, 0, []) lv st σ c z := rfl
theorem go_C_merged_6 : g_go c_C_merged K k 6 lv st σ c z = k 6 (.aload_n 3, 1, 0, []) lv st σ c z := rfl
theorem go_C_merged_7 : g_go c_C_merged K k 7 lv st σ c z = k 7 (.ifnull 10, 3, 0, [(0, 17)]) lv st σ c z := rfl
theorem go_C_merged_10 : g_go c_C_merged K k 10 lv st σ c z = k 10 (.iload_n 2, 1, 0, []) lv st σ c z := rfl
theorem go_C_merged_11 : g_go c_C_merged K k 11 lv st σ c z = k 11 (.invokestatic 113, 3, 0, []) lv st σ c z := rfl
theorem go_C_merged_14 : g_go c_C_merged K k 14 lv st σ c z = k 14 (.ifCond .ne 5, 3, 0, [(0, 19)]) lv st σ c z := rfl
theorem go_C_merged_17 : g_go c_C_merged K k 17 lv st σ c z = k 17 (.iconst (-1), 1, (-1), []) lv st σ c z := rfl
theorem go_C_merged_18 : g_go c_C_merged K k 18 lv st σ c z = k 18 (.ireturn, 1, 0, []) lv st σ c z := rfl
theorem go_C_merged_19 : g_go c_C_merged K k 19 lv st σ c z = k 19 (.aload_n 3, 1, 0, []) lv st σ c z := rfl
theorem go_C_merged_20 : g_go c_C_merged K k 20 lv st σ c z = k 20 (.getfield 116, 3, 0, []) lv st σ c z := rfl
theorem go_C_merged_23 : g_go c_C_merged K k 23 lv st σ c z = k 23 (.iload_n 2, 1, 0, []) lv st σ c z := rfl
theorem go_C_merged_24 : g_go c_C_merged K k 24 lv st σ c z = k 24 (.invokevirtual 126, 3, 0, []) lv st σ c z := rfl
theorem go_C_merged_27 : g_go c_C_merged K k 27 lv st σ c z = k 27 (.ireturn, 1, 0, []) lv st σ c z := rfl
theorem go_C_enqueue_0 : g_go c_C_enqueue K k 0 lv st σ c z = k 0 (.iload_n 1, 1, 0, []) lv st σ c z := rfl
theorem at_C_enqueue_0 : g_at c_C_enqueue k 0 lv st σ c z = k 0 (.iload_n 1, 1, 0, []) lv st σ c z := rfl
theorem go_C_enqueue_1 : g_go c_C_enqueue K k 1 lv st σ c z = k 1 (.invokestatic 129, 3, 0, []) lv st σ c z := rfl
theorem go_C_enqueue_4 : g_go c_C_enqueue K k 4 lv st σ c z = k 4 (.ifCond .eq 10, 3, 0, [(0, 14)]) lv st σ c z := rfl
theorem go_C_enqueue_7 : g_go c_C_enqueue K k 7 lv st σ c z = k 7 (.iload_n 2, 1, 0, []) lv st σ c z := rfl
theorem go_C_enqueue_8 : g_go c_C_enqueue K k 8 lv st σ c z = k 8 (.invokestatic 34, 3, 0, []) lv st σ c z := rfl
theorem go_C_enqueue_11 : g_go c_C_enqueue K k 11 lv st σ c z = k 11 (.ifCond .ne 6, 3, 0, [(0, 17)]) lv st σ c z := rfl
theorem go_C_enqueue_14 : g_go c_C_enqueue K k 14 lv st σ c z = k 14 (.bipush (-4), 2, (-4), []) lv st σ c z := rfl
theorem go_C_enqueue_16 : g_go c_C_enqueue K k 16 lv st σ c z = k 16 (.ireturn, 1, 0, []) lv st σ c z := rfl
theorem go_C_enqueue_17 : g_go c_C_enqueue K k 17 lv st σ c z = k 17 (.aload_n 0, 1, 0, []) lv st σ c z := rfl
theorem go_C_enqueue_18 : g_go c_C_enqueue K k 18 lv st σ c z = k 18 (.getfield 26, 3, 0, []) lv st σ c z := rfl
theorem go_C_enqueue_21 : g_go c_C_enqueue K k 21 lv st σ c z = k 21 (.iload_n 2, 1, 0, []) lv st σ c z := rfl
theorem go_C_enqueue_22 : g_go c_C_enqueue K k 22 lv st σ c z = k 22 (.aaload, 1, 0, []) lv st σ c z := rfl
theorem go_C_enqueue_23 : g_go c_C_enqueue K k 23 lv st σ c z = k 23 (.ifnonnull 16, 3, 0, [(0, 39)]) lv st σ c z := rfl
theorem go_C_enqueue_26 : g_go c_C_enqueue K k 26 lv st σ c z = k 26 (.aload_n 0, 1, 0, []) lv st σ c z := rfl
theorem go_C_enqueue_27 : g_go c_C_enqueue K k 27 lv st σ c z = k 27 (.getfield 26, 3, 0, []) lv st σ c z := rfl
theorem go_C_enqueue_30 : g_go c_C_enqueue K k 30 lv st σ c z = k 30 (.iload_n 2, 1, 0, []) lv st σ c z := rfl
theorem go_C_enqueue_31 : g_go c_C_enqueue K k 31 lv st σ c z = k 31 (.new 24, 3, 0, []) lv st σ c z := rfl
theorem go_C_enqueue_34 : g_go c_C_enqueue K k 34 lv st σ c z = k 34 (.dup, 1, 0, []) lv st σ c z := rfl
theorem go_C_enqueue_35 : g_go c_C_enqueue K k 35 lv st σ c z = k 35 (.invokespecial 132, 3, 0, []) lv st σ c z := rfl
theorem go_C_enqueue_38 : g_go c_C_enqueue K k 38 lv st σ c z = k 38 (.aastore, 1, 0, []) lv st σ c z := rfl
theorem go_C_enqueue_39 : g_go c_C_enqueue K k 39 lv st σ c z = k 39 (.aload_n 0, 1, 0, []) lv st σ c z := rfl
theorem go_C_enqueue_40 : g_go c_C_enqueue K k 40 lv st σ c z = k 40 (.getfield 26, 3, 0, []) lv st σ c z := rfl
theorem go_C_enqueue_43 : g_go c_C_enqueue K k 43 lv st σ c z = k 43 (.iload_n 2, 1, 0, []) lv st σ c z := rfl
theorem go_C_enqueue_44 : g_go c_C_enqueue K k 44 lv st σ c z = k 44 (.aaload, 1, 0, []) lv st σ c z := rfl
theorem go_C_enqueue_45 : g_go c_C_enqueue K k 45 lv st σ c z = k 45 (.iload_n 1, 1, 0, []) lv st σ c z := rfl
theorem go_C_enqueue_46 : g_go c_C_enqueue K k 46 lv st σ c z = k 46 (.iload_n 3, 1, 0, []) lv st σ c z := rfl
theorem go_C_enqueue_47 : g_go c_C_enqueue K k 47 lv st σ c z = k 47 (.invokevirtual 133, 3, 0, []) lv st σ c z := rfl
theorem go_C_enqueue_50 : g_go c_C_enqueue K k 50 lv st σ c z = k 50 (.ireturn, 1, 0, []) lv st σ c z := rfl
theorem go_C_free_0 : g_go c_C_free K k 0 lv st σ c z = k 0 (.iload_n 1, 1, 0, []) lv st σ c z := rfl
theorem at_C_free_0 : g_at c_C_free k 0 lv st σ c z = k 0 (.iload_n 1, 1, 0, []) lv st σ c z := rfl
theorem go_C_free_1 : g_go c_C_free K k 1 lv st σ c z = k 1 (.invokestatic 129, 3, 0, []) lv st σ c z := rfl
theorem go_C_free_4 : g_go c_C_free K k 4 lv st σ c z = k 4 (.ifCond .ne 6, 3, 0, [(0, 10)]) lv st σ c z := rfl
theorem go_C_free_7 : g_go c_C_free K k 7 lv st σ c z = k 7 (.bipush (-4), 2, (-4), []) lv st σ c z := rfl
theorem go_C_free_9 : g_go c_C_free K k 9 lv st σ c z = k 9 (.ireturn, 1, 0, []) lv st σ c z := rfl
theorem go_C_free_10 : g_go c_C_free K k 10 lv st σ c z = k 10 (.iconst 0, 1, 0, []) lv st σ c z := rfl
theorem go_C_free_11 : g_go c_C_free K k 11 lv st σ c z = k 11 (.istore_n 2, 1, 0, []) lv st σ c z := rfl
theorem go_C_free_12 : g_go c_C_free K k 12 lv st σ c z = k 12 (.iconst 0, 1, 0, []) lv st σ c z := rfl
theorem go_C_free_13 : g_go c_C_free K k 13 lv st σ c z = k 13 (.istore_n 3, 1, 0, []) lv st σ c z := rfl
theorem go_C_free_14 : g_go c_C_free K k 14 lv st σ c z = K 14 (lv.take 4) st σ c z := rfl
theorem at_C_free_14 : g_at c_C_free k 14 lv st σ c z = k 14 (.iload_n 3, 1, 0, []) lv st σ c z := rfl
theorem go_C_free_15 : g_go c_C_free K k 15 lv st σ c z = k 15 (.bipush 100, 2, 100, []) lv st σ c z := rfl
theorem go_C_free_17 : g_go c_C_free K k 17 lv st σ c z = k 17 (.if_icmp .ge 31, 3, 0, [(0, 48)]) lv st σ c z := rfl
theorem go_C_free_20 : g_go c_C_free K k 20 lv st σ c z = k 20 (.aload_n 0, 1, 0, []) lv st σ c z := rfl
theorem go_C_free_21 : g_go c_C_free K k 21 lv st σ c z = k 21 (.getfield 26, 3, 0, []) lv st σ c z := rfl
theorem go_C_free_24 : g_go c_C_free K k 24 lv st σ c z = k 24 (.iload_n 3, 1, 0, []) lv st σ c z := rfl
theorem go_C_free_25 : g_go c_C_free K k 25 lv st σ c z = k 25 (.aaload, 1, 0, []) lv st σ c z := rfl
theorem go_C_free_26 : g_go c_C_free K k 26 lv st σ c z = k 26 (.ifnull 16, 3, 0, [(0, 42)]) lv st σ c z := rfl
theorem go_C_free_29 : g_go c_C_free K k 29 lv st σ c z = k 29 (.iload_n 2, 1, 0, []) lv st σ c z := rfl
theorem go_C_free_30 : g_go c_C_free K k 30 lv st σ c z = k 30 (.aload_n 0, 1, 0, []) lv st σ c z := rfl
theorem go_C_free_31 : g_go c_C_free K k 31 lv st σ c z = k 31 (.getfield 26, 3, 0, []) lv st σ c z := rfl
theorem go_C_free_34 : g_go c_C_free K k 34 lv st σ c z = k 34 (.iload_n 3, 1, 0, []) lv st σ c z := rfl
theorem go_C_free_35 : g_go c_C_free K k 35 lv st σ c z = k 35 (.aaload, 1, 0, []) lv st σ c z := rfl
theorem go_C_free_36 : g_go c_C_free K k 36 lv st σ c z = k 36 (.iload_n 1, 1, 0, []) lv st σ c z := rfl
theorem go_C_free_37 : g_go c_C_free K k 37 lv st σ c z = k 37 (.invokevirtual 137, 3, 0, []) lv st σ c z := rfl
theorem go_C_free_40 : g_go c_C_free K k 40 lv st σ c z = k 40 (.iadd, 1, 0, []) lv st σ c z := rfl
theorem go_C_free_41 : g_go c_C_free K k 41 lv st σ c z = k 41 (.istore_n 2, 1, 0, []) lv st σ c z := rfl
theorem go_C_free_42 : g_go c_C_free K k 42 lv st σ c z = k 42 (.iinc 3 1, 3, 1, []) lv st σ c z := rfl
theorem go_C_free_45 : g_go c_C_free K k 45 lv st σ c z = k 45 (.goto (-31), 3, 0, [(0, 14)]) lv st σ c z := rfl
theorem go_C_free_48 : g_go c_C_free K k 48 lv st σ c z = k 48 (.iload_n 2, 1, 0, []) lv st σ c z := rfl
theorem go_C_free_49 : g_go c_C_free K k 49 lv st σ c z = k 49 (.ireturn, 1, 0, []) lv st σ c z := rfl
theorem go_C_compress_0 : g_go c_C_compress K k 0 lv st σ c z = k 0 (.aload_n 0, 1, 0, []) lv st σ c z := rfl
theorem at_C_compress_0 : g_at c_C_compress k 0 lv st σ c z = k 0 (.aload_n 0, 1, 0, []) lv st σ c z := rfl
theorem go_C_compress_1 : g_go c_C_compress K k 1 lv st σ c z = k 1 (.iload_n 1, 1, 0, []) lv st σ c z := rfl
theorem go_C_compress_2 : g_go c_C_compress K k 2 lv st σ c z = k 2 (.invokevirtual 60, 3, 0, []) lv st σ c z := rfl
theorem go_C_compress_5 : g_go c_C_compress K k 5 lv st σ c z = k 5 (.astore_n 2, 1, 0, []) lv st σ c z := rfl
theorem go_C_compress_6 : g_go c_C_compress K k 6 lv st σ c z = k 6 (.aload_n 2, 1, 0, []) lv st σ c z := rfl
theorem go_C_compress_7 : g_go c_C_compress K k 7 lv st σ c z = k 7 (.ifnonnull 8, 3, 0, [(0, 15)]) lv st σ c z := rfl
theorem go_C_compress_10 : g_go c_C_compress K k 10 lv st σ c z = k 10 (.bipush (-2), 2, (-2), []) lv st σ c z := rfl
theorem go_C_compress_12 : g_go c_C_compress K k 12 lv st σ c z = k 12 (.goto 10, 3, 0, [(0, 22)]) lv st σ c z := rfl
theorem go_C_compress_15 : g_go c_C_compress K k 15 lv st σ c z = k 15 (.aload_n 2, 1, 0, []) lv st σ c z := rfl
theorem go_C_compress_16 : g_go c_C_compress K k 16 lv st σ c z = k 16 (.getfield 74, 3, 0, []) lv st σ c z := rfl
theorem go_C_compress_19 : g_go c_C_compress K k 19 lv st σ c z = k 19 (.invokevirtual 140, 3, 0, []) lv st σ c z := rfl
theorem go_C_compress_22 : g_go c_C_compress K k 22 lv st σ c z = k 22 (.ireturn, 1, 0, []) lv st σ c z := rfl
theorem go_C_release_0 : g_go c_C_release K k 0 lv st σ c z = k 0 (.aload_n 0, 1, 0, []) lv st σ c z := rfl
theorem at_C_release_0 : g_at c_C_release k 0 lv st σ c z = k 0 (.aload_n 0, 1, 0, []) lv st σ c z := rfl
theorem go_C_release_1 : g_go c_C_release K k 1 lv st σ c z = k 1 (.iload_n 1, 1, 0, []) lv st σ c z := rfl
theorem go_C_release_2 : g_go c_C_release K k 2 lv st σ c z = k 2 (.invokevirtual 60, 3, 0, []) lv st σ c z := rfl
theorem go_C_release_5 : g_go c_C_release K k 5 lv st σ c z = k 5 (.astore_n 2, 1, 0, []) lv st σ c z := rfl
theorem go_C_release_6 : g_go c_C_release K k 6 lv st σ c z = k 6 (.aload_n 2, 1, 0, []) lv st σ c z := rfl
theorem go_C_release_7 : g_go c_C_release K k 7 lv st σ c z = k 7 (.ifnonnull 6, 3, 0, [(0, 13)]) lv st σ c z := rfl
theorem go_C_release_10 : g_go c_C_release K k 10 lv st σ c z = k 10 (.bipush (-2), 2, (-2), []) lv st σ c z := rfl
theorem go_C_release_12 : g_go c_C_release K k 12 lv st σ c z = k 12 (.ireturn, 1, 0, []) lv st σ c z := rfl
theorem go_C_release_13 : g_go c_C_release K k 13 lv st σ c z = k 13 (.aload_n 2, 1, 0, []) lv st σ c z := rfl
theorem go_C_release_14 : g_go c_C_release K k 14 lv st σ c z = k 14 (.getfield 51, 3, 0, []) lv st σ c z := rfl
theorem go_C_release_17 : g_go c_C_release K k 17 lv st σ c z = k 17 (.iconst 1, 1, 1, []) lv st σ c z := rfl
theorem go_C_release_18 : g_go c_C_release K k 18 lv st σ c z = k 18 (.aload_n 2, 1, 0, []) lv st σ c z := rfl
theorem go_C_release_19 : g_go c_C_release K k 19 lv st σ c z = k 19 (.getfield 74, 3, 0, []) lv st σ c z := rfl
theorem go_C_release_22 : g_go c_C_release K k 22 lv st σ c z = k 22 (.getfield 83, 3, 0, []) lv st σ c z := rfl
theorem go_C_release_25 : g_go c_C_release K k 25 lv st σ c z = k 25 (.invokestatic 143, 3, 0, []) lv st σ c z := rfl
theorem go_C_release_28 : g_go c_C_release K k 28 lv st σ c z = k 28 (.aload_n 0, 1, 0, []) lv st σ c z := rfl
theorem go_C_release_29 : g_go c_C_release K k 29 lv st σ c z = k 29 (.getfield 12, 3, 0, []) lv st σ c z := rfl
theorem go_C_release_32 : g_go c_C_release K k 32 lv st σ c z = k 32 (.invokevirtual 106, 3, 0, []) lv st σ c z := rfl
theorem go_C_release_35 : g_go c_C_release K k 35 lv st σ c z = k 35 (.ireturn, 1, 0, []) lv st σ c z := rfl
theorem go_C_space_0 : g_go c_C_space K k 0 lv st σ c z = k 0 (.iload_n 1, 1, 0, []) lv st σ c z := rfl
theorem at_C_space_0 : g_at c_C_space k 0 lv st σ c z = k 0 (.iload_n 1, 1, 0, []) lv st σ c z := rfl
theorem go_C_space_1 : g_go c_C_space K k 1 lv st σ c z = k 1 (.tableswitch 75 0 5 #[39, 47, 55, 60, 65, 70], 39, 0, [(0, 40), (1, 48), (2, 56), (3, 61), (4, 66), (5, 71), (0, 76)]) lv st σ c z := rfl
theorem go_C_space_40 : g_go c_C_space K k 40 lv st σ c z = k 40 (.aload_n 0, 1, 0, []) lv st σ c z := rfl
theorem go_C_space_41 : g_go c_C_space K k 41 lv st σ c z = k 41 (.getfield 12, 3, 0, []) lv st σ c z := rfl
theorem go_C_space_44 : g_go c_C_space K k 44 lv st σ c z = k 44 (.invokevirtual 149, 3, 0, []) lv st σ c z := rfl
theorem go_C_space_47 : g_go c_C_space K k 47 lv st σ c z = k 47 (.ireturn, 1, 0, []) lv st σ c z := rfl
theorem go_C_space_48 : g_go c_C_space K k 48 lv st σ c z = k 48 (.aload_n 0, 1, 0, []) lv st σ c z := rfl
theorem go_C_space_49 : g_go c_C_space K k 49 lv st σ c z = k 49 (.getfield 12, 3, 0, []) lv st σ c z := rfl
theorem go_C_space_52 : g_go c_C_space K k 52 lv st σ c z = k 52 (.invokevirtual 152, 3, 0, []) lv st σ c z := rfl
theorem go_C_space_55 : g_go c_C_space K k 55 lv st σ c z = k 55 (.ireturn, 1, 0, []) lv st σ c z := rfl
theorem go_C_space_56 : g_go c_C_space K k 56 lv st σ c z = k 56 (.aload_n 0, 1, 0, []) lv st σ c z := rfl
theorem go_C_space_57 : g_go c_C_space K k 57 lv st σ c z = k 57 (.invokevirtual 155, 3, 0, []) lv st σ c z := rfl
theorem go_C_space_60 : g_go c_C_space K k 60 lv st σ c z = k 60 (.ireturn, 1, 0, []) lv st σ c z := rfl
theorem go_C_space_61 : g_go c_C_space K k 61 lv st σ c z = k 61 (.aload_n 0, 1, 0, []) lv st σ c z := rfl
theorem go_C_space_62 : g_go c_C_space K k 62 lv st σ c z = k 62 (.invokevirtual 158, 3, 0, []) lv st σ c z := rfl
theorem go_C_space_65 : g_go c_C_space K k 65 lv st σ c z = k 65 (.ireturn, 1, 0, []) lv st σ c z := rfl
theorem go_C_space_66 : g_go c_C_space K k 66 lv st σ c z = k 66 (.aload_n 0, 1, 0, []) lv st σ c z := rfl
theorem go_C_space_67 : g_go c_C_space K k 67 lv st σ c z = k 67 (.invokevirtual 161, 3, 0, []) lv st σ c z := rfl
theorem go_C_space_70 : g_go c_C_space K k 70 lv st σ c z = k 70 (.ireturn, 1, 0, []) lv st σ c z := rfl
theorem go_C_space_71 : g_go c_C_space K k 71 lv st σ c z = k 71 (.aload_n 0, 1, 0, []) lv st σ c z := rfl
theorem go_C_space_72 : g_go c_C_space K k 72 lv st σ c z = k 72 (.invokevirtual 164, 3, 0, []) lv st σ c z := rfl
theorem go_C_space_75 : g_go c_C_space K k 75 lv st σ c z = k 75 (.ireturn, 1, 0, []) lv st σ c z := rfl
theorem go_C_space_76 : g_go c_C_space K k 76 lv st σ c z = k 76 (.iconst (-1), 1, (-1), []) lv st σ c z := rfl
theorem go_C_space_77 : g_go c_C_space K k 77 lv st σ c z = k 77 (.ireturn, 1, 0, []) lv st σ c z := rfl
theorem go_C_extent_0 : g_go c_C_extent K k 0 lv st σ c z = k 0 (.aload_n 0, 1, 0, []) lv st σ c z := rfl
theorem at_C_extent_0 : g_at c_C_extent k 0 lv st σ c z = k 0 (.aload_n 0, 1, 0, []) lv st σ c z := rfl
theorem go_C_extent_1 : g_go c_C_extent K k 1 lv st σ c z = k 1 (.iload_n 1, 1, 0, []) lv st σ c z := rfl
theorem go_C_extent_2 : g_go c_C_extent K k 2 lv st σ c z = k 2 (.invokevirtual 60, 3, 0, []) lv st σ c z := rfl
theorem go_C_extent_5 : g_go c_C_extent K k 5 lv st σ c z = k 5 (.astore 4, 2, 0, []) lv st σ c z := rfl
theorem go_C_extent_7 : g_go c_C_extent K k 7 lv st σ c z = k 7 (.aload 4, 2, 0, []) lv st σ c z := rfl
theorem go_C_extent_9 : g_go c_C_extent K k 9 lv st σ c z = k 9 (.ifnull 19, 3, 0, [(0, 28)]) lv st σ c z := rfl
theorem go_C_extent_12 : g_go c_C_extent K k 12 lv st σ c z = k 12 (.iload_n 2, 1, 0, []) lv st σ c z := rfl
theorem go_C_extent_13 : g_go c_C_extent K k 13 lv st σ c z = k 13 (.ifCond .lt 15, 3, 0, [(0, 28)]) lv st σ c z := rfl
theorem go_C_extent_16 : g_go c_C_extent K k 16 lv st σ c z = k 16 (.iload_n 2, 1, 0, []) lv st σ c z := rfl
theorem go_C_extent_17 : g_go c_C_extent K k 17 lv st σ c z = k 17 (.aload 4, 2, 0, []) lv st σ c z := rfl
theorem go_C_extent_19 : g_go c_C_extent K k 19 lv st σ c z = k 19 (.getfield 51, 3, 0, []) lv st σ c z := rfl
theorem go_C_extent_22 : g_go c_C_extent K k 22 lv st σ c z = k 22 (.getfield 71, 3, 0, []) lv st σ c z := rfl
theorem go_C_extent_25 : g_go c_C_extent K k 25 lv st σ c z = k 25 (.if_icmp .lt 5, 3, 0, [(0, 30)]) lv st σ c z := rfl
theorem go_C_extent_28 : g_go c_C_extent K k 28 lv st σ c z = k 28 (.iconst (-1), 1, (-1), []) lv st σ c z := rfl
theorem go_C_extent_29 : g_go c_C_extent K k 29 lv st σ c z = k 29 (.ireturn, 1, 0, []) lv st σ c z := rfl
theorem go_C_extent_30 : g_go c_C_extent K k 30 lv st σ c z = k 30 (.iload_n 3, 1, 0, []) lv st σ c z := rfl
theorem go_C_extent_31 : g_go c_C_extent K k 31 lv st σ c z = k 31 (.lookupswitch 47 #[(0, 25), (1, 36)], 25, 0, [(0, 56), (1, 67), (0, 78)]) lv st σ c z := rfl
theorem go_C_extent_56 : g_go c_C_extent K k 56 lv st σ c z = k 56 (.aload 4, 2, 0, []) lv st σ c z := rfl
theorem go_C_extent_58 : g_go c_C_extent K k 58 lv st σ c z = k 58 (.getfield 51, 3, 0, []) lv st σ c z := rfl
theorem go_C_extent_61 : g_go c_C_extent K k 61 lv st σ c z = k 61 (.getfield 167, 3, 0, []) lv st σ c z := rfl
theorem go_C_extent_64 : g_go c_C_extent K k 64 lv st σ c z = k 64 (.iload_n 2, 1, 0, []) lv st σ c z := rfl
theorem go_C_extent_65 : g_go c_C_extent K k 65 lv st σ c z = k 65 (.iaload, 1, 0, []) lv st σ c z := rfl
theorem go_C_extent_66 : g_go c_C_extent K k 66 lv st σ c z = k 66 (.ireturn, 1, 0, []) lv st σ c z := rfl
theorem go_C_extent_67 : g_go c_C_extent K k 67 lv st σ c z = k 67 (.aload 4, 2, 0, []) lv st σ c z := rfl
theorem go_C_extent_69 : g_go c_C_extent K k 69 lv st σ c z = k 69 (.getfield 51, 3, 0, []) lv st σ c z := rfl
theorem go_C_extent_72 : g_go c_C_extent K k 72 lv st σ c z = k 72 (.getfield 171, 3, 0, []) lv st σ c z := rfl
theorem go_C_extent_75 : g_go c_C_extent K k 75 lv st σ c z = k 75 (.iload_n 2, 1, 0, []) lv st σ c z := rfl
theorem go_C_extent_76 : g_go c_C_extent K k 76 lv st σ c z = k 76 (.iaload, 1, 0, []) lv st σ c z := rfl
theorem go_C_extent_77 : g_go c_C_extent K k 77 lv st σ c z = k 77 (.ireturn, 1, 0, []) lv st σ c z := rfl
theorem go_C_extent_78 : g_go c_C_extent K k 78 lv st σ c z = k 78 (.iconst (-1), 1, (-1), []) lv st σ c z := rfl
theorem go_C_extent_79 : g_go c_C_extent K k 79 lv st σ c z = k 79 (.ireturn, 1, 0, []) lv st σ c z := rfl
theorem go_C_isName_0 : g_go c_C_isName K k 0 lv st σ c z = k 0 (.iload_n 0, 1, 0, []) lv st σ c z := rfl
theorem at_C_isName_0 : g_at c_C_isName k 0 lv st σ c z = k 0 (.iload_n 0, 1, 0, []) lv st σ c z := rfl
theorem go_C_isName_1 : g_go c_C_isName K k 1 lv st σ c z = k 1 (.ifCond .lt 13, 3, 0, [(0, 14)]) lv st σ c z := rfl
theorem go_C_isName_4 : g_go c_C_isName K k 4 lv st σ c z = k 4 (.iload_n 0, 1, 0, []) lv st σ c z := rfl
theorem go_C_isName_5 : g_go c_C_isName K k 5 lv st σ c z = k 5 (.bipush 100, 2, 100, []) lv st σ c z := rfl
theorem go_C_isName_7 : g_go c_C_isName K k 7 lv st σ c z = k 7 (.if_icmp .ge 7, 3, 0, [(0, 14)]) lv st σ c z := rfl
theorem go_C_isName_10 : g_go c_C_isName K k 10 lv st σ c z = k 10 (.iconst 1, 1, 1, []) lv st σ c z := rfl
theorem go_C_isName_11 : g_go c_C_isName K k 11 lv st σ c z = k 11 (.goto 4, 3, 0, [(0, 15)]) lv st σ c z := rfl
theorem go_C_isName_14 : g_go c_C_isName K k 14 lv st σ c z = k 14 (.iconst 0, 1, 0, []) lv st σ c z := rfl
theorem go_C_isName_15 : g_go c_C_isName K k 15 lv st σ c z = k 15 (.ireturn, 1, 0, []) lv st σ c z := rfl
theorem go_C_isJob_0 : g_go c_C_isJob K k 0 lv st σ c z = k 0 (.iload_n 0, 1, 0, []) lv st σ c z := rfl
theorem at_C_isJob_0 : g_at c_C_isJob k 0 lv st σ c z = k 0 (.iload_n 0, 1, 0, []) lv st σ c z := rfl
theorem go_C_isJob_1 : g_go c_C_isJob K k 1 lv st σ c z = k 1 (.iconst 1, 1, 1, []) lv st σ c z := rfl
theorem go_C_isJob_2 : g_go c_C_isJob K k 2 lv st σ c z = k 2 (.if_icmp .lt 13, 3, 0, [(0, 15)]) lv st σ c z := rfl
theorem go_C_isJob_5 : g_go c_C_isJob K k 5 lv st σ c z = k 5 (.iload_n 0, 1, 0, []) lv st σ c z := rfl
theorem go_C_isJob_6 : g_go c_C_isJob K k 6 lv st σ c z = k 6 (.bipush 20, 2, 20, []) lv st σ c z := rfl
theorem go_C_isJob_8 : g_go c_C_isJob K k 8 lv st σ c z = k 8 (.if_icmp .gt 7, 3, 0, [(0, 15)]) lv st σ c z := rfl
theorem go_C_isJob_11 : g_go c_C_isJob K k 11 lv st σ c z = k 11 (.iconst 1, 1, 1, []) lv st σ c z := rfl
theorem go_C_isJob_12 : g_go c_C_isJob K k 12 lv st σ c z = k 12 (.goto 4, 3, 0, [(0, 16)]) lv st σ c z := rfl
theorem go_C_isJob_15 : g_go c_C_isJob K k 15 lv st σ c z = k 15 (.iconst 0, 1, 0, []) lv st σ c z := rfl
theorem go_C_isJob_16 : g_go c_C_isJob K k 16 lv st σ c z = k 16 (.ireturn, 1, 0, []) lv st σ c z := rfl
theorem go_C_isAttribute_0 : g_go c_C_isAttribute K k 0 lv st σ c z = k 0 (.iload_n 0, 1, 0, []) lv st σ c z := rfl
theorem at_C_isAttribute_0 : g_at c_C_isAttribute k 0 lv st σ c z = k 0 (.iload_n 0, 1, 0, []) lv st σ c z := rfl
theorem go_C_isAttribute_1 : g_go c_C_isAttribute K k 1 lv st σ c z = k 1 (.ifCond .lt 13, 3, 0, [(0, 14)]) lv st σ c z := rfl
theorem go_C_isAttribute_4 : g_go c_C_isAttribute K k 4 lv st σ c z = k 4 (.iload_n 0, 1, 0, []) lv st σ c z := rfl
theorem go_C_isAttribute_5 : g_go c_C_isAttribute K k 5 lv st σ c z = k 5 (.bipush 10, 2, 10, []) lv st σ c z := rfl
theorem go_C_isAttribute_7 : g_go c_C_isAttribute K k 7 lv st σ c z = k 7 (.if_icmp .ge 7, 3, 0, [(0, 14)]) lv st σ c z := rfl
theorem go_C_isAttribute_10 : g_go c_C_isAttribute K k 10 lv st σ c z = k 10 (.iconst 1, 1, 1, []) lv st σ c z := rfl
theorem go_C_isAttribute_11 : g_go c_C_isAttribute K k 11 lv st σ c z = k 11 (.goto 4, 3, 0, [(0, 15)]) lv st σ c z := rfl
theorem go_C_isAttribute_14 : g_go c_C_isAttribute K k 14 lv st σ c z = k 14 (.iconst 0, 1, 0, []) lv st σ c z := rfl
theorem go_C_isAttribute_15 : g_go c_C_isAttribute K k 15 lv st σ c z = k 15 (.ireturn, 1, 0, []) lv st σ c z := rfl
theorem go_C_setOf_0 : g_go c_C_setOf K k 0 lv st σ c z = k 0 (.iload_n 1, 1, 0, []) lv st σ c z := rfl
theorem at_C_setOf_0 : g_at c_C_setOf k 0 lv st σ c z = k 0 (.iload_n 1, 1, 0, []) lv st σ c z := rfl
theorem go_C_setOf_1 : g_go c_C_setOf K k 1 lv st σ c z = k 1 (.iconst 1, 1, 1, []) lv st σ c z := rfl
theorem go_C_setOf_2 : g_go c_C_setOf K k 2 lv st σ c z = k 2 (.if_icmp .lt 20, 3, 0, [(0, 22)]) lv st σ c z := rfl
theorem go_C_setOf_5 : g_go c_C_setOf K k 5 lv st σ c z = k 5 (.iload_n 1, 1, 0, []) lv st σ c z := rfl
theorem go_C_setOf_6 : g_go c_C_setOf K k 6 lv st σ c z = k 6 (.bipush 60, 2, 60, []) lv st σ c z := rfl
theorem go_C_setOf_8 : g_go c_C_setOf K k 8 lv st σ c z = k 8 (.if_icmp .gt 14, 3, 0, [(0, 22)]) lv st σ c z := rfl
theorem go_C_setOf_11 : g_go c_C_setOf K k 11 lv st σ c z = k 11 (.aload_n 0, 1, 0, []) lv st σ c z := rfl
theorem go_C_setOf_12 : g_go c_C_setOf K k 12 lv st σ c z = k 12 (.getfield 20, 3, 0, []) lv st σ c z := rfl
theorem go_C_setOf_15 : g_go c_C_setOf K k 15 lv st σ c z = k 15 (.iload_n 1, 1, 0, []) lv st σ c z := rfl
theorem go_C_setOf_16 : g_go c_C_setOf K k 16 lv st σ c z = k 16 (.iconst 1, 1, 1, []) lv st σ c z := rfl
theorem go_C_setOf_17 : g_go c_C_setOf K k 17 lv st σ c z = k 17 (.isub, 1, 0, []) lv st σ c z := rfl
theorem go_C_setOf_18 : g_go c_C_setOf K k 18 lv st σ c z = k 18 (.aaload, 1, 0, []) lv st σ c z := rfl
theorem go_C_setOf_19 : g_go c_C_setOf K k 19 lv st σ c z = k 19 (.goto 4, 3, 0, [(0, 23)]) lv st σ c z := rfl
theorem go_C_setOf_22 : g_go c_C_setOf K k 22 lv st σ c z = k 22 (.aconst_null, 1, 0, []) lv st σ c z := rfl
theorem go_C_setOf_23 : g_go c_C_setOf K k 23 lv st σ c z = k 23 (.areturn, 1, 0, []) lv st σ c z := rfl
theorem go_C_numberOf_0 : g_go c_C_numberOf K k 0 lv st σ c z = k 0 (.iconst 0, 1, 0, []) lv st σ c z := rfl
theorem at_C_numberOf_0 : g_at c_C_numberOf k 0 lv st σ c z = k 0 (.iconst 0, 1, 0, []) lv st σ c z := rfl
theorem go_C_numberOf_1 : g_go c_C_numberOf K k 1 lv st σ c z = k 1 (.istore_n 2, 1, 0, []) lv st σ c z := rfl
theorem go_C_numberOf_2 : g_go c_C_numberOf K k 2 lv st σ c z = K 2 (lv.take 3) st σ c z := rfl
theorem at_C_numberOf_2 : g_at c_C_numberOf k 2 lv st σ c z = k 2 (.iload_n 2, 1, 0, []) lv st σ c z := rfl
theorem go_C_numberOf_3 : g_go c_C_numberOf K k 3 lv st σ c z = k 3 (.bipush 60, 2, 60, []) lv st σ c z := rfl
theorem go_C_numberOf_5 : g_go c_C_numberOf K k 5 lv st σ c z = k 5 (.if_icmp .ge 35, 3, 0, [(0, 40)]) lv st σ c z := rfl
theorem go_C_numberOf_8 : g_go c_C_numberOf K k 8 lv st σ c z = k 8 (.aload_n 0, 1, 0, []) lv st σ c z := rfl
theorem go_C_numberOf_9 : g_go c_C_numberOf K k 9 lv st σ c z = k 9 (.getfield 20, 3, 0, []) lv st σ c z := rfl
theorem go_C_numberOf_12 : g_go c_C_numberOf K k 12 lv st σ c z = k 12 (.iload_n 2, 1, 0, []) lv st σ c z := rfl
theorem go_C_numberOf_13 : g_go c_C_numberOf K k 13 lv st σ c z = k 13 (.aaload, 1, 0, []) lv st σ c z := rfl
theorem go_C_numberOf_14 : g_go c_C_numberOf K k 14 lv st σ c z = k 14 (.ifnull 20, 3, 0, [(0, 34)]) lv st σ c z := rfl
theorem go_C_numberOf_17 : g_go c_C_numberOf K k 17 lv st σ c z = k 17 (.aload_n 0, 1, 0, []) lv st σ c z := rfl
theorem go_C_numberOf_18 : g_go c_C_numberOf K k 18 lv st σ c z = k 18 (.getfield 20, 3, 0, []) lv st σ c z := rfl
theorem go_C_numberOf_21 : g_go c_C_numberOf K k 21 lv st σ c z = k 21 (.iload_n 2, 1, 0, []) lv st σ c z := rfl
theorem go_C_numberOf_22 : g_go c_C_numberOf K k 22 lv st σ c z = k 22 (.aaload, 1, 0, []) lv st σ c z := rfl
theorem go_C_numberOf_23 : g_go c_C_numberOf K k 23 lv st σ c z = k 23 (.getfield 110, 3, 0, []) lv st σ c z := rfl
theorem go_C_numberOf_26 : g_go c_C_numberOf K k 26 lv st σ c z = k 26 (.iload_n 1, 1, 0, []) lv st σ c z := rfl
theorem go_C_numberOf_27 : g_go c_C_numberOf K k 27 lv st σ c z = k 27 (.if_icmp .ne 7, 3, 0, [(0, 34)]) lv st σ c z := rfl
theorem go_C_numberOf_30 : g_go c_C_numberOf K k 30 lv st σ c z = k 30 (.iload_n 2, 1, 0, []) lv st σ c z := rfl
theorem go_C_numberOf_31 : g_go c_C_numberOf K k 31 lv st σ c z = k 31 (.iconst 1, 1, 1, []) lv st σ c z := rfl
theorem go_C_numberOf_32 : g_go c_C_numberOf K k 32 lv st σ c z = k 32 (.iadd, 1, 0, []) lv st σ c z := rfl
theorem go_C_numberOf_33 : g_go c_C_numberOf K k 33 lv st σ c z = k 33 (.ireturn, 1, 0, []) lv st σ c z := rfl
theorem go_C_numberOf_34 : g_go c_C_numberOf K k 34 lv st σ c z = k 34 (.iinc 2 1, 3, 1, []) lv st σ c z := rfl
theorem go_C_numberOf_37 : g_go c_C_numberOf K k 37 lv st σ c z = k 37 (.goto (-35), 3, 0, [(0, 2)]) lv st σ c z := rfl
theorem go_C_numberOf_40 : g_go c_C_numberOf K k 40 lv st σ c z = k 40 (.iconst 0, 1, 0, []) lv st σ c z := rfl
theorem go_C_numberOf_41 : g_go c_C_numberOf K k 41 lv st σ c z = k 41 (.ireturn, 1, 0, []) lv st σ c z := rfl
theorem go_C_isInUse_0 : g_go c_C_isInUse K k 0 lv st σ c z = k 0 (.iload_n 1, 1, 0, []) lv st σ c z := rfl
theorem at_C_isInUse_0 : g_at c_C_isInUse k 0 lv st σ c z = k 0 (.iload_n 1, 1, 0, []) lv st σ c z := rfl
theorem go_C_isInUse_1 : g_go c_C_isInUse K k 1 lv st σ c z = k 1 (.invokestatic 34, 3, 0, []) lv st σ c z := rfl
theorem go_C_isInUse_4 : g_go c_C_isInUse K k 4 lv st σ c z = k 4 (.ifCond .eq 28, 3, 0, [(0, 32)]) lv st σ c z := rfl
theorem go_C_isInUse_7 : g_go c_C_isInUse K k 7 lv st σ c z = k 7 (.aload_n 0, 1, 0, []) lv st σ c z := rfl
theorem go_C_isInUse_8 : g_go c_C_isInUse K k 8 lv st σ c z = k 8 (.getfield 26, 3, 0, []) lv st σ c z := rfl
theorem go_C_isInUse_11 : g_go c_C_isInUse K k 11 lv st σ c z = k 11 (.iload_n 1, 1, 0, []) lv st σ c z := rfl
theorem go_C_isInUse_12 : g_go c_C_isInUse K k 12 lv st σ c z = k 12 (.aaload, 1, 0, []) lv st σ c z := rfl
theorem go_C_isInUse_13 : g_go c_C_isInUse K k 13 lv st σ c z = k 13 (.ifnull 19, 3, 0, [(0, 32)]) lv st σ c z := rfl
theorem go_C_isInUse_16 : g_go c_C_isInUse K k 16 lv st σ c z = k 16 (.aload_n 0, 1, 0, []) lv st σ c z := rfl
theorem go_C_isInUse_17 : g_go c_C_isInUse K k 17 lv st σ c z = k 17 (.getfield 26, 3, 0, []) lv st σ c z := rfl
theorem go_C_isInUse_20 : g_go c_C_isInUse K k 20 lv st σ c z = k 20 (.iload_n 1, 1, 0, []) lv st σ c z := rfl
theorem go_C_isInUse_21 : g_go c_C_isInUse K k 21 lv st σ c z = k 21 (.aaload, 1, 0, []) lv st σ c z := rfl
theorem go_C_isInUse_22 : g_go c_C_isInUse K k 22 lv st σ c z = k 22 (.getfield 174, 3, 0, []) lv st σ c z := rfl
theorem go_C_isInUse_25 : g_go c_C_isInUse K k 25 lv st σ c z = k 25 (.ifCond .le 7, 3, 0, [(0, 32)]) lv st σ c z := rfl
theorem go_C_isInUse_28 : g_go c_C_isInUse K k 28 lv st σ c z = k 28 (.iconst 1, 1, 1, []) lv st σ c z := rfl
theorem go_C_isInUse_29 : g_go c_C_isInUse K k 29 lv st σ c z = k 29 (.goto 4, 3, 0, [(0, 33)]) lv st σ c z := rfl
theorem go_C_isInUse_32 : g_go c_C_isInUse K k 32 lv st σ c z = k 32 (.iconst 0, 1, 0, []) lv st σ c z := rfl
theorem go_C_isInUse_33 : g_go c_C_isInUse K k 33 lv st σ c z = k 33 (.ireturn, 1, 0, []) lv st σ c z := rfl
theorem go_C_countSets_0 : g_go c_C_countSets K k 0 lv st σ c z = k 0 (.iconst 0, 1, 0, []) lv st σ c z := rfl
theorem at_C_countSets_0 : g_at c_C_countSets k 0 lv st σ c z = k 0 (.iconst 0, 1, 0, []) lv st σ c z := rfl
theorem go_C_countSets_1 : g_go c_C_countSets K k 1 lv st σ c z = k 1 (.istore_n 1, 1, 0, []) lv st σ c z := rfl
theorem go_C_countSets_2 : g_go c_C_countSets K k 2 lv st σ c z = k 2 (.iconst 0, 1, 0, []) lv st σ c z := rfl
theorem go_C_countSets_3 : g_go c_C_countSets K k 3 lv st σ c z = k 3 (.istore_n 2, 1, 0, []) lv st σ c z := rfl
theorem go_C_countSets_4 : g_go c_C_countSets K k 4 lv st σ c z = K 4 (lv.take 3) st σ c z := rfl
theorem at_C_countSets_4 : g_at c_C_countSets k 4 lv st σ c z = k 4 (.iload_n 2, 1, 0, []) lv st σ c z := rfl
theorem go_C_countSets_5 : g_go c_C_countSets K k 5 lv st σ c z = k 5 (.bipush 60, 2, 60, []) lv st σ c z := rfl
theorem go_C_countSets_7 : g_go c_C_countSets K k 7 lv st σ c z = k 7 (.if_icmp .ge 21, 3, 0, [(0, 28)]) lv st σ c z := rfl
theorem go_C_countSets_10 : g_go c_C_countSets K k 10 lv st σ c z = k 10 (.aload_n 0, 1, 0, []) lv st σ c z := rfl
theorem go_C_countSets_11 : g_go c_C_countSets K k 11 lv st σ c z = k 11 (.getfield 20, 3, 0, []) lv st σ c z := rfl
theorem go_C_countSets_14 : g_go c_C_countSets K k 14 lv st σ c z = k 14 (.iload_n 2, 1, 0, []) lv st σ c z := rfl
theorem go_C_countSets_15 : g_go c_C_countSets K k 15 lv st σ c z = k 15 (.aaload, 1, 0, []) lv st σ c z := rfl
theorem go_C_countSets_16 : g_go c_C_countSets K k 16 lv st σ c z = k 16 (.ifnull 6, 3, 0, [(0, 22)]) lv st σ c z := rfl
theorem go_C_countSets_19 : g_go c_C_countSets K k 19 lv st σ c z = k 19 (.iinc 1 1, 3, 1, []) lv st σ c z := rfl
theorem go_C_countSets_22 : g_go c_C_countSets K k 22 lv st σ c z = k 22 (.iinc 2 1, 3, 1, []) lv st σ c z := rfl
theorem go_C_countSets_25 : g_go c_C_countSets K k 25 lv st σ c z = k 25 (.goto (-21), 3, 0, [(0, 4)]) lv st σ c z := rfl
theorem go_C_countSets_28 : g_go c_C_countSets K k 28 lv st σ c z = k 28 (.iload_n 1, 1, 0, []) lv st σ c z := rfl
theorem go_C_countSets_29 : g_go c_C_countSets K k 29 lv st σ c z = k 29 (.ireturn, 1, 0, []) lv st σ c z := rfl
theorem go_C_countExtents_0 : g_go c_C_countExtents K k 0 lv st σ c z = k 0 (.iconst 0, 1, 0, []) lv st σ c z := rfl
theorem at_C_countExtents_0 : g_at c_C_countExtents k 0 lv st σ c z = k 0 (.iconst 0, 1, 0, []) lv st σ c z := rfl
theorem go_C_countExtents_1 : g_go c_C_countExtents K k 1 lv st σ c z = k 1 (.istore_n 1, 1, 0, []) lv st σ c z := rfl
theorem go_C_countExtents_2 : g_go c_C_countExtents K k 2 lv st σ c z = k 2 (.iconst 0, 1, 0, []) lv st σ c z := rfl
theorem go_C_countExtents_3 : g_go c_C_countExtents K k 3 lv st σ c z = k 3 (.istore_n 2, 1, 0, []) lv st σ c z := rfl
theorem go_C_countExtents_4 : g_go c_C_countExtents K k 4 lv st σ c z = K 4 (lv.take 3) st σ c z := rfl
theorem at_C_countExtents_4 : g_at c_C_countExtents k 4 lv st σ c z = k 4 (.iload_n 2, 1, 0, []) lv st σ c z := rfl
theorem go_C_countExtents_5 : g_go c_C_countExtents K k 5 lv st σ c z = k 5 (.bipush 60, 2, 60, []) lv st σ c z := rfl
theorem go_C_countExtents_7 : g_go c_C_countExtents K k 7 lv st σ c z = k 7 (.if_icmp .ge 33, 3, 0, [(0, 40)]) lv st σ c z := rfl
theorem go_C_countExtents_10 : g_go c_C_countExtents K k 10 lv st σ c z = k 10 (.aload_n 0, 1, 0, []) lv st σ c z := rfl
theorem go_C_countExtents_11 : g_go c_C_countExtents K k 11 lv st σ c z = k 11 (.getfield 20, 3, 0, []) lv st σ c z := rfl
theorem go_C_countExtents_14 : g_go c_C_countExtents K k 14 lv st σ c z = k 14 (.iload_n 2, 1, 0, []) lv st σ c z := rfl
theorem go_C_countExtents_15 : g_go c_C_countExtents K k 15 lv st σ c z = k 15 (.aaload, 1, 0, []) lv st σ c z := rfl
theorem go_C_countExtents_16 : g_go c_C_countExtents K k 16 lv st σ c z = k 16 (.ifnull 18, 3, 0, [(0, 34)]) lv st σ c z := rfl
theorem go_C_countExtents_19 : g_go c_C_countExtents K k 19 lv st σ c z = k 19 (.iload_n 1, 1, 0, []) lv st σ c z := rfl
theorem go_C_countExtents_20 : g_go c_C_countExtents K k 20 lv st σ c z = k 20 (.aload_n 0, 1, 0, []) lv st σ c z := rfl
theorem go_C_countExtents_21 : g_go c_C_countExtents K k 21 lv st σ c z = k 21 (.getfield 20, 3, 0, []) lv st σ c z := rfl
theorem go_C_countExtents_24 : g_go c_C_countExtents K k 24 lv st σ c z = k 24 (.iload_n 2, 1, 0, []) lv st σ c z := rfl
theorem go_C_countExtents_25 : g_go c_C_countExtents K k 25 lv st σ c z = k 25 (.aaload, 1, 0, []) lv st σ c z := rfl
theorem go_C_countExtents_26 : g_go c_C_countExtents K k 26 lv st σ c z = k 26 (.getfield 51, 3, 0, []) lv st σ c z := rfl
theorem go_C_countExtents_29 : g_go c_C_countExtents K k 29 lv st σ c z = k 29 (.getfield 71, 3, 0, []) lv st σ c z := rfl
theorem go_C_countExtents_32 : g_go c_C_countExtents K k 32 lv st σ c z = k 32 (.iadd, 1, 0, []) lv st σ c z := rfl
theorem go_C_countExtents_33 : g_go c_C_countExtents K k 33 lv st σ c z = k 33 (.istore_n 1, 1, 0, []) lv st σ c z := rfl
theorem go_C_countExtents_34 : g_go c_C_countExtents K k 34 lv st σ c z = k 34 (.iinc 2 1, 3, 1, []) lv st σ c z := rfl
theorem go_C_countExtents_37 : g_go c_C_countExtents K k 37 lv st σ c z = k 37 (.goto (-33), 3, 0, [(0, 4)]) lv st σ c z := rfl
theorem go_C_countExtents_40 : g_go c_C_countExtents K k 40 lv st σ c z = k 40 (.iload_n 1, 1, 0, []) lv st σ c z := rfl
theorem go_C_countExtents_41 : g_go c_C_countExtents K k 41 lv st σ c z = k 41 (.ireturn, 1, 0, []) lv st σ c z := rfl
theorem go_C_countHoldings_0 : g_go c_C_countHoldings K k 0 lv st σ c z = k 0 (.iconst 0, 1, 0, []) lv st σ c z := rfl
theorem at_C_countHoldings_0 : g_at c_C_countHoldings k 0 lv st σ c z = k 0 (.iconst 0, 1, 0, []) lv st σ c z := rfl
theorem go_C_countHoldings_1 : g_go c_C_countHoldings K k 1 lv st σ c z = k 1 (.istore_n 1, 1, 0, []) lv st σ c z := rfl
theorem go_C_countHoldings_2 : g_go c_C_countHoldings K k 2 lv st σ c z = k 2 (.iconst 0, 1, 0, []) lv st σ c z := rfl
theorem go_C_countHoldings_3 : g_go c_C_countHoldings K k 3 lv st σ c z = k 3 (.istore_n 2, 1, 0, []) lv st σ c z := rfl
theorem go_C_countHoldings_4 : g_go c_C_countHoldings K k 4 lv st σ c z = K 4 (lv.take 3) st σ c z := rfl
theorem at_C_countHoldings_4 : g_at c_C_countHoldings k 4 lv st σ c z = k 4 (.iload_n 2, 1, 0, []) lv st σ c z := rfl
theorem go_C_countHoldings_5 : g_go c_C_countHoldings K k 5 lv st σ c z = k 5 (.bipush 100, 2, 100, []) lv st σ c z := rfl
theorem go_C_countHoldings_7 : g_go c_C_countHoldings K k 7 lv st σ c z = k 7 (.if_icmp .ge 30, 3, 0, [(0, 37)]) lv st σ c z := rfl
theorem go_C_countHoldings_10 : g_go c_C_countHoldings K k 10 lv st σ c z = k 10 (.aload_n 0, 1, 0, []) lv st σ c z := rfl
theorem go_C_countHoldings_11 : g_go c_C_countHoldings K k 11 lv st σ c z = k 11 (.getfield 26, 3, 0, []) lv st σ c z := rfl
theorem go_C_countHoldings_14 : g_go c_C_countHoldings K k 14 lv st σ c z = k 14 (.iload_n 2, 1, 0, []) lv st σ c z := rfl
theorem go_C_countHoldings_15 : g_go c_C_countHoldings K k 15 lv st σ c z = k 15 (.aaload, 1, 0, []) lv st σ c z := rfl
theorem go_C_countHoldings_16 : g_go c_C_countHoldings K k 16 lv st σ c z = k 16 (.ifnull 15, 3, 0, [(0, 31)]) lv st σ c z := rfl
theorem go_C_countHoldings_19 : g_go c_C_countHoldings K k 19 lv st σ c z = k 19 (.iload_n 1, 1, 0, []) lv st σ c z := rfl
theorem go_C_countHoldings_20 : g_go c_C_countHoldings K k 20 lv st σ c z = k 20 (.aload_n 0, 1, 0, []) lv st σ c z := rfl
theorem go_C_countHoldings_21 : g_go c_C_countHoldings K k 21 lv st σ c z = k 21 (.getfield 26, 3, 0, []) lv st σ c z := rfl
theorem go_C_countHoldings_24 : g_go c_C_countHoldings K k 24 lv st σ c z = k 24 (.iload_n 2, 1, 0, []) lv st σ c z := rfl
theorem go_C_countHoldings_25 : g_go c_C_countHoldings K k 25 lv st σ c z = k 25 (.aaload, 1, 0, []) lv st σ c z := rfl
theorem go_C_countHoldings_26 : g_go c_C_countHoldings K k 26 lv st σ c z = k 26 (.getfield 177, 3, 0, []) lv st σ c z := rfl
theorem go_C_countHoldings_29 : g_go c_C_countHoldings K k 29 lv st σ c z = k 29 (.iadd, 1, 0, []) lv st σ c z := rfl
theorem go_C_countHoldings_30 : g_go c_C_countHoldings K k 30 lv st σ c z = k 30 (.istore_n 1, 1, 0, []) lv st σ c z := rfl
theorem go_C_countHoldings_31 : g_go c_C_countHoldings K k 31 lv st σ c z = k 31 (.iinc 2 1, 3, 1, []) lv st σ c z := rfl
theorem go_C_countHoldings_34 : g_go c_C_countHoldings K k 34 lv st σ c z = k 34 (.goto (-30), 3, 0, [(0, 4)]) lv st σ c z := rfl
theorem go_C_countHoldings_37 : g_go c_C_countHoldings K k 37 lv st σ c z = k 37 (.iload_n 1, 1, 0, []) lv st σ c z := rfl
theorem go_C_countHoldings_38 : g_go c_C_countHoldings K k 38 lv st σ c z = k 38 (.ireturn, 1, 0, []) lv st σ c z := rfl
theorem go_C_countWaiting_0 : g_go c_C_countWaiting K k 0 lv st σ c z = k 0 (.iconst 0, 1, 0, []) lv st σ c z := rfl
theorem at_C_countWaiting_0 : g_at c_C_countWaiting k 0 lv st σ c z = k 0 (.iconst 0, 1, 0, []) lv st σ c z := rfl
theorem go_C_countWaiting_1 : g_go c_C_countWaiting K k 1 lv st σ c z = k 1 (.istore_n 1, 1, 0, []) lv st σ c z := rfl
theorem go_C_countWaiting_2 : g_go c_C_countWaiting K k 2 lv st σ c z = k 2 (.iconst 0, 1, 0, []) lv st σ c z := rfl
theorem go_C_countWaiting_3 : g_go c_C_countWaiting K k 3 lv st σ c z = k 3 (.istore_n 2, 1, 0, []) lv st σ c z := rfl
theorem go_C_countWaiting_4 : g_go c_C_countWaiting K k 4 lv st σ c z = K 4 (lv.take 3) st σ c z := rfl
theorem at_C_countWaiting_4 : g_at c_C_countWaiting k 4 lv st σ c z = k 4 (.iload_n 2, 1, 0, []) lv st σ c z := rfl
theorem go_C_countWaiting_5 : g_go c_C_countWaiting K k 5 lv st σ c z = k 5 (.bipush 100, 2, 100, []) lv st σ c z := rfl
theorem go_C_countWaiting_7 : g_go c_C_countWaiting K k 7 lv st σ c z = k 7 (.if_icmp .ge 40, 3, 0, [(0, 47)]) lv st σ c z := rfl
theorem go_C_countWaiting_10 : g_go c_C_countWaiting K k 10 lv st σ c z = k 10 (.aload_n 0, 1, 0, []) lv st σ c z := rfl
theorem go_C_countWaiting_11 : g_go c_C_countWaiting K k 11 lv st σ c z = k 11 (.getfield 26, 3, 0, []) lv st σ c z := rfl
theorem go_C_countWaiting_14 : g_go c_C_countWaiting K k 14 lv st σ c z = k 14 (.iload_n 2, 1, 0, []) lv st σ c z := rfl
theorem go_C_countWaiting_15 : g_go c_C_countWaiting K k 15 lv st σ c z = k 15 (.aaload, 1, 0, []) lv st σ c z := rfl
theorem go_C_countWaiting_16 : g_go c_C_countWaiting K k 16 lv st σ c z = k 16 (.ifnull 25, 3, 0, [(0, 41)]) lv st σ c z := rfl
theorem go_C_countWaiting_19 : g_go c_C_countWaiting K k 19 lv st σ c z = k 19 (.iload_n 1, 1, 0, []) lv st σ c z := rfl
theorem go_C_countWaiting_20 : g_go c_C_countWaiting K k 20 lv st σ c z = k 20 (.aload_n 0, 1, 0, []) lv st σ c z := rfl
theorem go_C_countWaiting_21 : g_go c_C_countWaiting K k 21 lv st σ c z = k 21 (.getfield 26, 3, 0, []) lv st σ c z := rfl
theorem go_C_countWaiting_24 : g_go c_C_countWaiting K k 24 lv st σ c z = k 24 (.iload_n 2, 1, 0, []) lv st σ c z := rfl
theorem go_C_countWaiting_25 : g_go c_C_countWaiting K k 25 lv st σ c z = k 25 (.aaload, 1, 0, []) lv st σ c z := rfl
theorem go_C_countWaiting_26 : g_go c_C_countWaiting K k 26 lv st σ c z = k 26 (.getfield 174, 3, 0, []) lv st σ c z := rfl
theorem go_C_countWaiting_29 : g_go c_C_countWaiting K k 29 lv st σ c z = k 29 (.aload_n 0, 1, 0, []) lv st σ c z := rfl
theorem go_C_countWaiting_30 : g_go c_C_countWaiting K k 30 lv st σ c z = k 30 (.getfield 26, 3, 0, []) lv st σ c z := rfl
theorem go_C_countWaiting_33 : g_go c_C_countWaiting K k 33 lv st σ c z = k 33 (.iload_n 2, 1, 0, []) lv st σ c z := rfl
theorem go_C_countWaiting_34 : g_go c_C_countWaiting K k 34 lv st σ c z = k 34 (.aaload, 1, 0, []) lv st σ c z := rfl
theorem go_C_countWaiting_35 : g_go c_C_countWaiting K k 35 lv st σ c z = k 35 (.getfield 177, 3, 0, []) lv st σ c z := rfl
theorem go_C_countWaiting_38 : g_go c_C_countWaiting K k 38 lv st σ c z = k 38 (.isub, 1, 0, []) lv st σ c z := rfl
theorem go_C_countWaiting_39 : g_go c_C_countWaiting K k 39 lv st σ c z = k 39 (.iadd, 1, 0, []) lv st σ c z := rfl
theorem go_C_countWaiting_40 : g_go c_C_countWaiting K k 40 lv st σ c z = k 40 (.istore_n 1, 1, 0, []) lv st σ c z := rfl
theorem go_C_countWaiting_41 : g_go c_C_countWaiting K k 41 lv st σ c z = k 41 (.iinc 2 1, 3, 1, []) lv st σ c z := rfl
theorem go_C_countWaiting_44 : g_go c_C_countWaiting K k 44 lv st σ c z = k 44 (.goto (-40), 3, 0, [(0, 4)]) lv st σ c z := rfl
theorem go_C_countWaiting_47 : g_go c_C_countWaiting K k 47 lv st σ c z = k 47 (.iload_n 1, 1, 0, []) lv st σ c z := rfl
theorem go_C_countWaiting_48 : g_go c_C_countWaiting K k 48 lv st σ c z = k 48 (.ireturn, 1, 0, []) lv st σ c z := rfl
theorem go_A_init_0 : g_go c_A_init K k 0 lv st σ c z = k 0 (.aload_n 0, 1, 0, []) lv st σ c z := rfl
theorem at_A_init_0 : g_at c_A_init k 0 lv st σ c z = k 0 (.aload_n 0, 1, 0, []) lv st σ c z := rfl
theorem go_A_init_1 : g_go c_A_init K k 1 lv st σ c z = k 1 (.invokespecial 3, 3, 0, []) lv st σ c z := rfl
theorem go_A_init_4 : g_go c_A_init K k 4 lv st σ c z = k 4 (.aload_n 0, 1, 0, []) lv st σ c z := rfl
theorem go_A_init_5 : g_go c_A_init K k 5 lv st σ c z = k 5 (.bipush 30, 2, 30, []) lv st σ c z := rfl
theorem go_A_init_7 : g_go c_A_init K k 7 lv st σ c z = k 7 (.newarray .boolean, 2, 0, []) lv st σ c z := rfl
theorem go_A_init_9 : g_go c_A_init K k 9 lv st σ c z = k 9 (.putfield 9, 3, 0, []) lv st σ c z := rfl
theorem go_A_init_12 : g_go c_A_init K k 12 lv st σ c z = k 12 (.aload_n 0, 1, 0, []) lv st σ c z := rfl
theorem go_A_init_13 : g_go c_A_init K k 13 lv st σ c z = k 13 (.bipush 30, 2, 30, []) lv st σ c z := rfl
theorem go_A_init_15 : g_go c_A_init K k 15 lv st σ c z = k 15 (.newarray .int, 2, 0, []) lv st σ c z := rfl
theorem go_A_init_17 : g_go c_A_init K k 17 lv st σ c z = k 17 (.putfield 15, 3, 0, []) lv st σ c z := rfl
theorem go_A_init_20 : g_go c_A_init K k 20 lv st σ c z = k 20 (.return_, 1, 0, []) lv st σ c z := rfl
theorem go_A_tell_0 : g_go c_A_tell K k 0 lv st σ c z = k 0 (.iload_n 1, 1, 0, []) lv st σ c z := rfl
theorem at_A_tell_0 : g_at c_A_tell k 0 lv st σ c z = k 0 (.iload_n 1, 1, 0, []) lv st σ c z := rfl
theorem go_A_tell_1 : g_go c_A_tell K k 1 lv st σ c z = k 1 (.bipush 10, 2, 10, []) lv st σ c z := rfl
theorem go_A_tell_3 : g_go c_A_tell K k 3 lv st σ c z = k 3 (.imul, 1, 0, []) lv st σ c z := rfl
theorem go_A_tell_4 : g_go c_A_tell K k 4 lv st σ c z = k 4 (.iload_n 2, 1, 0, []) lv st σ c z := rfl
theorem go_A_tell_5 : g_go c_A_tell K k 5 lv st σ c z = k 5 (.iadd, 1, 0, []) lv st σ c z := rfl
theorem go_A_tell_6 : g_go c_A_tell K k 6 lv st σ c z = k 6 (.istore 4, 2, 0, []) lv st σ c z := rfl
theorem go_A_tell_8 : g_go c_A_tell K k 8 lv st σ c z = k 8 (.iload 4, 2, 0, []) lv st σ c z := rfl
theorem go_A_tell_10 : g_go c_A_tell K k 10 lv st σ c z = k 10 (.ifCond .lt 13, 3, 0, [(0, 23)]) lv st σ c z := rfl
theorem go_A_tell_13 : g_go c_A_tell K k 13 lv st σ c z = k 13 (.iload 4, 2, 0, []) lv st σ c z := rfl
theorem go_A_tell_15 : g_go c_A_tell K k 15 lv st σ c z = k 15 (.aload_n 0, 1, 0, []) lv st σ c z := rfl
theorem go_A_tell_16 : g_go c_A_tell K k 16 lv st σ c z = k 16 (.getfield 9, 3, 0, []) lv st σ c z := rfl
theorem go_A_tell_19 : g_go c_A_tell K k 19 lv st σ c z = k 19 (.arraylength, 1, 0, []) lv st σ c z := rfl
theorem go_A_tell_20 : g_go c_A_tell K k 20 lv st σ c z = k 20 (.if_icmp .lt 4, 3, 0, [(0, 24)]) lv st σ c z := rfl
theorem go_A_tell_23 : g_go c_A_tell K k 23 lv st σ c z = k 23 (.return_, 1, 0, []) lv st σ c z := rfl
theorem go_A_tell_24 : g_go c_A_tell K k 24 lv st σ c z = k 24 (.aload_n 0, 1, 0, []) lv st σ c z := rfl
theorem go_A_tell_25 : g_go c_A_tell K k 25 lv st σ c z = k 25 (.getfield 9, 3, 0, []) lv st σ c z := rfl
theorem go_A_tell_28 : g_go c_A_tell K k 28 lv st σ c z = k 28 (.iload 4, 2, 0, []) lv st σ c z := rfl
theorem go_A_tell_30 : g_go c_A_tell K k 30 lv st σ c z = k 30 (.iconst 1, 1, 1, []) lv st σ c z := rfl
theorem go_A_tell_31 : g_go c_A_tell K k 31 lv st σ c z = k 31 (.bastore, 1, 0, []) lv st σ c z := rfl
theorem go_A_tell_32 : g_go c_A_tell K k 32 lv st σ c z = k 32 (.aload_n 0, 1, 0, []) lv st σ c z := rfl
theorem go_A_tell_33 : g_go c_A_tell K k 33 lv st σ c z = k 33 (.getfield 15, 3, 0, []) lv st σ c z := rfl
theorem go_A_tell_36 : g_go c_A_tell K k 36 lv st σ c z = k 36 (.iload 4, 2, 0, []) lv st σ c z := rfl
theorem go_A_tell_38 : g_go c_A_tell K k 38 lv st σ c z = k 38 (.iload_n 3, 1, 0, []) lv st σ c z := rfl
theorem go_A_tell_39 : g_go c_A_tell K k 39 lv st σ c z = k 39 (.iastore, 1, 0, []) lv st σ c z := rfl
theorem go_A_tell_40 : g_go c_A_tell K k 40 lv st σ c z = k 40 (.return_, 1, 0, []) lv st σ c z := rfl
theorem go_A_firstTold_0 : g_go c_A_firstTold K k 0 lv st σ c z = k 0 (.iload_n 1, 1, 0, []) lv st σ c z := rfl
theorem at_A_firstTold_0 : g_at c_A_firstTold k 0 lv st σ c z = k 0 (.iload_n 1, 1, 0, []) lv st σ c z := rfl
theorem go_A_firstTold_1 : g_go c_A_firstTold K k 1 lv st σ c z = k 1 (.invokestatic 19, 3, 0, []) lv st σ c z := rfl
theorem go_A_firstTold_4 : g_go c_A_firstTold K k 4 lv st σ c z = k 4 (.ifCond .ne 5, 3, 0, [(0, 9)]) lv st σ c z := rfl
theorem go_A_firstTold_7 : g_go c_A_firstTold K k 7 lv st σ c z = k 7 (.iconst (-1), 1, (-1), []) lv st σ c z := rfl
theorem go_A_firstTold_8 : g_go c_A_firstTold K k 8 lv st σ c z = k 8 (.ireturn, 1, 0, []) lv st σ c z := rfl
theorem go_A_firstTold_9 : g_go c_A_firstTold K k 9 lv st σ c z = k 9 (.iconst 0, 1, 0, []) lv st σ c z := rfl
theorem go_A_firstTold_10 : g_go c_A_firstTold K k 10 lv st σ c z = k 10 (.istore_n 2, 1, 0, []) lv st σ c z := rfl
theorem go_A_firstTold_11 : g_go c_A_firstTold K k 11 lv st σ c z = K 11 (lv.take 3) st σ c z := rfl
theorem at_A_firstTold_11 : g_at c_A_firstTold k 11 lv st σ c z = k 11 (.iload_n 2, 1, 0, []) lv st σ c z := rfl
theorem go_A_firstTold_12 : g_go c_A_firstTold K k 12 lv st σ c z = k 12 (.iconst 3, 1, 3, []) lv st σ c z := rfl
theorem go_A_firstTold_13 : g_go c_A_firstTold K k 13 lv st σ c z = k 13 (.if_icmp .ge 32, 3, 0, [(0, 45)]) lv st σ c z := rfl
theorem go_A_firstTold_16 : g_go c_A_firstTold K k 16 lv st σ c z = k 16 (.iload_n 2, 1, 0, []) lv st σ c z := rfl
theorem go_A_firstTold_17 : g_go c_A_firstTold K k 17 lv st σ c z = k 17 (.bipush 10, 2, 10, []) lv st σ c z := rfl
theorem go_A_firstTold_19 : g_go c_A_firstTold K k 19 lv st σ c z = k 19 (.imul, 1, 0, []) lv st σ c z := rfl
theorem go_A_firstTold_20 : g_go c_A_firstTold K k 20 lv st σ c z = k 20 (.iload_n 1, 1, 0, []) lv st σ c z := rfl
theorem go_A_firstTold_21 : g_go c_A_firstTold K k 21 lv st σ c z = k 21 (.iadd, 1, 0, []) lv st σ c z := rfl
theorem go_A_firstTold_22 : g_go c_A_firstTold K k 22 lv st σ c z = k 22 (.istore_n 3, 1, 0, []) lv st σ c z := rfl
theorem go_A_firstTold_23 : g_go c_A_firstTold K k 23 lv st σ c z = k 23 (.aload_n 0, 1, 0, []) lv st σ c z := rfl
theorem go_A_firstTold_24 : g_go c_A_firstTold K k 24 lv st σ c z = k 24 (.getfield 9, 3, 0, []) lv st σ c z := rfl
theorem go_A_firstTold_27 : g_go c_A_firstTold K k 27 lv st σ c z = k 27 (.iload_n 3, 1, 0, []) lv st σ c z := rfl
theorem go_A_firstTold_28 : g_go c_A_firstTold K k 28 lv st σ c z = k 28 (.baload, 1, 0, []) lv st σ c z := rfl
theorem go_A_firstTold_29 : g_go c_A_firstTold K k 29 lv st σ c z = k 29 (.ifCond .eq 10, 3, 0, [(0, 39)]) lv st σ c z := rfl
theorem go_A_firstTold_32 : g_go c_A_firstTold K k 32 lv st σ c z = k 32 (.aload_n 0, 1, 0, []) lv st σ c z := rfl
theorem go_A_firstTold_33 : g_go c_A_firstTold K k 33 lv st σ c z = k 33 (.getfield 15, 3, 0, []) lv st σ c z := rfl
theorem go_A_firstTold_36 : g_go c_A_firstTold K k 36 lv st σ c z = k 36 (.iload_n 3, 1, 0, []) lv st σ c z := rfl
theorem go_A_firstTold_37 : g_go c_A_firstTold K k 37 lv st σ c z = k 37 (.iaload, 1, 0, []) lv st σ c z := rfl
theorem go_A_firstTold_38 : g_go c_A_firstTold K k 38 lv st σ c z = k 38 (.ireturn, 1, 0, []) lv st σ c z := rfl
theorem go_A_firstTold_39 : g_go c_A_firstTold K k 39 lv st σ c z = k 39 (.iinc 2 1, 3, 1, []) lv st σ c z := rfl
theorem go_A_firstTold_42 : g_go c_A_firstTold K k 42 lv st σ c z = k 42 (.goto (-31), 3, 0, [(0, 11)]) lv st σ c z := rfl
theorem go_A_firstTold_45 : g_go c_A_firstTold K k 45 lv st σ c z = k 45 (.iconst (-1), 1, (-1), []) lv st σ c z := rfl
theorem go_A_firstTold_46 : g_go c_A_firstTold K k 46 lv st σ c z = k 46 (.ireturn, 1, 0, []) lv st σ c z := rfl
theorem go_S_init_0 : g_go c_S_init K k 0 lv st σ c z = k 0 (.aload_n 0, 1, 0, []) lv st σ c z := rfl
theorem at_S_init_0 : g_at c_S_init k 0 lv st σ c z = k 0 (.aload_n 0, 1, 0, []) lv st σ c z := rfl
theorem go_S_init_1 : g_go c_S_init K k 1 lv st σ c z = k 1 (.invokespecial 1, 3, 0, []) lv st σ c z := rfl
theorem go_S_init_4 : g_go c_S_init K k 4 lv st σ c z = k 4 (.aload_n 0, 1, 0, []) lv st σ c z := rfl
theorem go_S_init_5 : g_go c_S_init K k 5 lv st σ c z = k 5 (.iload_n 1, 1, 0, []) lv st σ c z := rfl
theorem go_S_init_6 : g_go c_S_init K k 6 lv st σ c z = k 6 (.putfield 7, 3, 0, []) lv st σ c z := rfl
theorem go_S_init_9 : g_go c_S_init K k 9 lv st σ c z = k 9 (.aload_n 0, 1, 0, []) lv st σ c z := rfl
theorem go_S_init_10 : g_go c_S_init K k 10 lv st σ c z = k 10 (.iload_n 2, 1, 0, []) lv st σ c z := rfl
theorem go_S_init_11 : g_go c_S_init K k 11 lv st σ c z = k 11 (.putfield 13, 3, 0, []) lv st σ c z := rfl
theorem go_S_init_14 : g_go c_S_init K k 14 lv st σ c z = k 14 (.aload_n 0, 1, 0, []) lv st σ c z := rfl
theorem go_S_init_15 : g_go c_S_init K k 15 lv st σ c z = k 15 (.ldc2_w 18, 3, 0, []) lv st σ c z := rfl
theorem go_S_init_18 : g_go c_S_init K k 18 lv st σ c z = k 18 (.putfield 20, 3, 0, []) lv st σ c z := rfl
theorem go_S_init_21 : g_go c_S_init K k 21 lv st σ c z = k 21 (.aload_n 0, 1, 0, []) lv st σ c z := rfl
theorem go_S_init_22 : g_go c_S_init K k 22 lv st σ c z = k 22 (.new 24, 3, 0, []) lv st σ c z := rfl
theorem go_S_init_25 : g_go c_S_init K k 25 lv st σ c z = k 25 (.dup, 1, 0, []) lv st σ c z := rfl
theorem go_S_init_26 : g_go c_S_init K k 26 lv st σ c z = k 26 (.invokespecial 26, 3, 0, []) lv st σ c z := rfl
theorem go_S_init_29 : g_go c_S_init K k 29 lv st σ c z = k 29 (.putfield 27, 3, 0, []) lv st σ c z := rfl
theorem go_S_init_32 : g_go c_S_init K k 32 lv st σ c z = k 32 (.aload_n 0, 1, 0, []) lv st σ c z := rfl
theorem go_S_init_33 : g_go c_S_init K k 33 lv st σ c z = k 33 (.new 31, 3, 0, []) lv st σ c z := rfl
theorem go_S_init_36 : g_go c_S_init K k 36 lv st σ c z = k 36 (.dup, 1, 0, []) lv st σ c z := rfl
theorem go_S_init_37 : g_go c_S_init K k 37 lv st σ c z = k 37 (.invokespecial 33, 3, 0, []) lv st σ c z := rfl
theorem go_S_init_40 : g_go c_S_init K k 40 lv st σ c z = k 40 (.putfield 34, 3, 0, []) lv st σ c z := rfl
theorem go_S_init_43 : g_go c_S_init K k 43 lv st σ c z = k 43 (.aload_n 0, 1, 0, []) lv st σ c z := rfl
theorem go_S_init_44 : g_go c_S_init K k 44 lv st σ c z = k 44 (.new 38, 3, 0, []) lv st σ c z := rfl
theorem go_S_init_47 : g_go c_S_init K k 47 lv st σ c z = k 47 (.dup, 1, 0, []) lv st σ c z := rfl
theorem go_S_init_48 : g_go c_S_init K k 48 lv st σ c z = k 48 (.invokespecial 40, 3, 0, []) lv st σ c z := rfl
theorem go_S_init_51 : g_go c_S_init K k 51 lv st σ c z = k 51 (.putfield 41, 3, 0, []) lv st σ c z := rfl
theorem go_S_init_54 : g_go c_S_init K k 54 lv st σ c z = k 54 (.return_, 1, 0, []) lv st σ c z := rfl
theorem go_D_init_0 : g_go c_D_init K k 0 lv st σ c z = k 0 (.aload_n 0, 1, 0, []) lv st σ c z := rfl
theorem at_D_init_0 : g_at c_D_init k 0 lv st σ c z = k 0 (.aload_n 0, 1, 0, []) lv st σ c z := rfl
theorem go_D_init_1 : g_go c_D_init K k 1 lv st σ c z = k 1 (.invokespecial 3, 3, 0, []) lv st σ c z := rfl
theorem go_D_init_4 : g_go c_D_init K k 4 lv st σ c z = k 4 (.aload_n 0, 1, 0, []) lv st σ c z := rfl
theorem go_D_init_5 : g_go c_D_init K k 5 lv st σ c z = k 5 (.bipush 12, 2, 12, []) lv st σ c z := rfl
theorem go_D_init_7 : g_go c_D_init K k 7 lv st σ c z = k 7 (.newarray .int, 2, 0, []) lv st σ c z := rfl
theorem go_D_init_9 : g_go c_D_init K k 9 lv st σ c z = k 9 (.putfield 9, 3, 0, []) lv st σ c z := rfl
theorem go_D_init_12 : g_go c_D_init K k 12 lv st σ c z = k 12 (.aload_n 0, 1, 0, []) lv st σ c z := rfl
theorem go_D_init_13 : g_go c_D_init K k 13 lv st σ c z = k 13 (.bipush 12, 2, 12, []) lv st σ c z := rfl
theorem go_D_init_15 : g_go c_D_init K k 15 lv st σ c z = k 15 (.newarray .int, 2, 0, []) lv st σ c z := rfl
theorem go_D_init_17 : g_go c_D_init K k 17 lv st σ c z = k 17 (.putfield 15, 3, 0, []) lv st σ c z := rfl
theorem go_D_init_20 : g_go c_D_init K k 20 lv st σ c z = k 20 (.aload_n 0, 1, 0, []) lv st σ c z := rfl
theorem go_D_init_21 : g_go c_D_init K k 21 lv st σ c z = k 21 (.bipush 12, 2, 12, []) lv st σ c z := rfl
theorem go_D_init_23 : g_go c_D_init K k 23 lv st σ c z = k 23 (.newarray .int, 2, 0, []) lv st σ c z := rfl
theorem go_D_init_25 : g_go c_D_init K k 25 lv st σ c z = k 25 (.putfield 18, 3, 0, []) lv st σ c z := rfl
theorem go_D_init_28 : g_go c_D_init K k 28 lv st σ c z = k 28 (.aload_n 0, 1, 0, []) lv st σ c z := rfl
theorem go_D_init_29 : g_go c_D_init K k 29 lv st σ c z = k 29 (.iconst 0, 1, 0, []) lv st σ c z := rfl
theorem go_D_init_30 : g_go c_D_init K k 30 lv st σ c z = k 30 (.putfield 21, 3, 0, []) lv st σ c z := rfl
theorem go_D_init_33 : g_go c_D_init K k 33 lv st σ c z = k 33 (.aload_n 0, 1, 0, []) lv st σ c z := rfl
theorem go_D_init_34 : g_go c_D_init K k 34 lv st σ c z = k 34 (.iconst 0, 1, 0, []) lv st σ c z := rfl
theorem go_D_init_35 : g_go c_D_init K k 35 lv st σ c z = k 35 (.putfield 25, 3, 0, []) lv st σ c z := rfl
theorem go_D_init_38 : g_go c_D_init K k 38 lv st σ c z = k 38 (.return_, 1, 0, []) lv st σ c z := rfl
theorem go_D_hasRoomFor_0 : g_go c_D_hasRoomFor K k 0 lv st σ c z = k 0 (.aload_n 0, 1, 0, []) lv st σ c z := rfl
theorem at_D_hasRoomFor_0 : g_at c_D_hasRoomFor k 0 lv st σ c z = k 0 (.aload_n 0, 1, 0, []) lv st σ c z := rfl
theorem go_D_hasRoomFor_1 : g_go c_D_hasRoomFor K k 1 lv st σ c z = k 1 (.getfield 21, 3, 0, []) lv st σ c z := rfl
theorem go_D_hasRoomFor_4 : g_go c_D_hasRoomFor K k 4 lv st σ c z = k 4 (.bipush 12, 2, 12, []) lv st σ c z := rfl
theorem go_D_hasRoomFor_6 : g_go c_D_hasRoomFor K k 6 lv st σ c z = k 6 (.if_icmp .lt 12, 3, 0, [(0, 18)]) lv st σ c z := rfl
theorem go_D_hasRoomFor_9 : g_go c_D_hasRoomFor K k 9 lv st σ c z = k 9 (.aload_n 0, 1, 0, []) lv st σ c z := rfl
theorem go_D_hasRoomFor_10 : g_go c_D_hasRoomFor K k 10 lv st σ c z = k 10 (.iload_n 1, 1, 0, []) lv st σ c z := rfl
theorem go_D_hasRoomFor_11 : g_go c_D_hasRoomFor K k 11 lv st σ c z = k 11 (.invokevirtual 28, 3, 0, []) lv st σ c z := rfl
theorem go_D_hasRoomFor_14 : g_go c_D_hasRoomFor K k 14 lv st σ c z = k 14 (.iconst (-1), 1, (-1), []) lv st σ c z := rfl
theorem go_D_hasRoomFor_15 : g_go c_D_hasRoomFor K k 15 lv st σ c z = k 15 (.if_icmp .eq 7, 3, 0, [(0, 22)]) lv st σ c z := rfl
theorem go_D_hasRoomFor_18 : g_go c_D_hasRoomFor K k 18 lv st σ c z = k 18 (.iconst 1, 1, 1, []) lv st σ c z := rfl
theorem go_D_hasRoomFor_19 : g_go c_D_hasRoomFor K k 19 lv st σ c z = k 19 (.goto 4, 3, 0, [(0, 23)]) lv st σ c z := rfl
theorem go_D_hasRoomFor_22 : g_go c_D_hasRoomFor K k 22 lv st σ c z = k 22 (.iconst 0, 1, 0, []) lv st σ c z := rfl
theorem go_D_hasRoomFor_23 : g_go c_D_hasRoomFor K k 23 lv st σ c z = k 23 (.ireturn, 1, 0, []) lv st σ c z := rfl
theorem go_D_put_0 : g_go c_D_put K k 0 lv st σ c z = k 0 (.aload_n 0, 1, 0, []) lv st σ c z := rfl
theorem at_D_put_0 : g_at c_D_put k 0 lv st σ c z = k 0 (.aload_n 0, 1, 0, []) lv st σ c z := rfl
theorem go_D_put_1 : g_go c_D_put K k 1 lv st σ c z = k 1 (.iload_n 1, 1, 0, []) lv st σ c z := rfl
theorem go_D_put_2 : g_go c_D_put K k 2 lv st σ c z = k 2 (.invokevirtual 32, 3, 0, []) lv st σ c z := rfl
theorem go_D_put_5 : g_go c_D_put K k 5 lv st σ c z = k 5 (.aload_n 0, 1, 0, []) lv st σ c z := rfl
theorem go_D_put_6 : g_go c_D_put K k 6 lv st σ c z = k 6 (.getfield 21, 3, 0, []) lv st σ c z := rfl
theorem go_D_put_9 : g_go c_D_put K k 9 lv st σ c z = k 9 (.bipush 12, 2, 12, []) lv st σ c z := rfl
theorem go_D_put_11 : g_go c_D_put K k 11 lv st σ c z = k 11 (.if_icmp .lt 4, 3, 0, [(0, 15)]) lv st σ c z := rfl
theorem go_D_put_14 : g_go c_D_put K k 14 lv st σ c z = k 14 (.return_, 1, 0, []) lv st σ c z := rfl
theorem go_D_put_15 : g_go c_D_put K k 15 lv st σ c z = k 15 (.aload_n 0, 1, 0, []) lv st σ c z := rfl
theorem go_D_put_16 : g_go c_D_put K k 16 lv st σ c z = k 16 (.getfield 9, 3, 0, []) lv st σ c z := rfl
theorem go_D_put_19 : g_go c_D_put K k 19 lv st σ c z = k 19 (.aload_n 0, 1, 0, []) lv st σ c z := rfl
theorem go_D_put_20 : g_go c_D_put K k 20 lv st σ c z = k 20 (.getfield 21, 3, 0, []) lv st σ c z := rfl
theorem go_D_put_23 : g_go c_D_put K k 23 lv st σ c z = k 23 (.iload_n 1, 1, 0, []) lv st σ c z := rfl
theorem go_D_put_24 : g_go c_D_put K k 24 lv st σ c z = k 24 (.iastore, 1, 0, []) lv st σ c z := rfl
theorem go_D_put_25 : g_go c_D_put K k 25 lv st σ c z = k 25 (.aload_n 0, 1, 0, []) lv st σ c z := rfl
theorem go_D_put_26 : g_go c_D_put K k 26 lv st σ c z = k 26 (.getfield 15, 3, 0, []) lv st σ c z := rfl
theorem go_D_put_29 : g_go c_D_put K k 29 lv st σ c z = k 29 (.aload_n 0, 1, 0, []) lv st σ c z := rfl
theorem go_D_put_30 : g_go c_D_put K k 30 lv st σ c z = k 30 (.getfield 21, 3, 0, []) lv st σ c z := rfl
theorem go_D_put_33 : g_go c_D_put K k 33 lv st σ c z = k 33 (.aload_n 0, 1, 0, []) lv st σ c z := rfl
theorem go_D_put_34 : g_go c_D_put K k 34 lv st σ c z = k 34 (.getfield 25, 3, 0, []) lv st σ c z := rfl
theorem go_D_put_37 : g_go c_D_put K k 37 lv st σ c z = k 37 (.iastore, 1, 0, []) lv st σ c z := rfl
theorem go_D_put_38 : g_go c_D_put K k 38 lv st σ c z = k 38 (.aload_n 0, 1, 0, []) lv st σ c z := rfl
theorem go_D_put_39 : g_go c_D_put K k 39 lv st σ c z = k 39 (.getfield 18, 3, 0, []) lv st σ c z := rfl
theorem go_D_put_42 : g_go c_D_put K k 42 lv st σ c z = k 42 (.aload_n 0, 1, 0, []) lv st σ c z := rfl
theorem go_D_put_43 : g_go c_D_put K k 43 lv st σ c z = k 43 (.getfield 21, 3, 0, []) lv st σ c z := rfl
theorem go_D_put_46 : g_go c_D_put K k 46 lv st σ c z = k 46 (.iload_n 2, 1, 0, []) lv st σ c z := rfl
theorem go_D_put_47 : g_go c_D_put K k 47 lv st σ c z = k 47 (.iastore, 1, 0, []) lv st σ c z := rfl
theorem go_D_put_48 : g_go c_D_put K k 48 lv st σ c z = k 48 (.aload_n 0, 1, 0, []) lv st σ c z := rfl
theorem go_D_put_49 : g_go c_D_put K k 49 lv st σ c z = k 49 (.dup, 1, 0, []) lv st σ c z := rfl
theorem go_D_put_50 : g_go c_D_put K k 50 lv st σ c z = k 50 (.getfield 21, 3, 0, []) lv st σ c z := rfl
theorem go_D_put_53 : g_go c_D_put K k 53 lv st σ c z = k 53 (.iconst 1, 1, 1, []) lv st σ c z := rfl
theorem go_D_put_54 : g_go c_D_put K k 54 lv st σ c z = k 54 (.iadd, 1, 0, []) lv st σ c z := rfl
theorem go_D_put_55 : g_go c_D_put K k 55 lv st σ c z = k 55 (.putfield 21, 3, 0, []) lv st σ c z := rfl
theorem go_D_put_58 : g_go c_D_put K k 58 lv st σ c z = k 58 (.aload_n 0, 1, 0, []) lv st σ c z := rfl
theorem go_D_put_59 : g_go c_D_put K k 59 lv st σ c z = k 59 (.dup, 1, 0, []) lv st σ c z := rfl
theorem go_D_put_60 : g_go c_D_put K k 60 lv st σ c z = k 60 (.getfield 25, 3, 0, []) lv st σ c z := rfl
theorem go_D_put_63 : g_go c_D_put K k 63 lv st σ c z = k 63 (.iload_n 2, 1, 0, []) lv st σ c z := rfl
theorem go_D_put_64 : g_go c_D_put K k 64 lv st σ c z = k 64 (.iadd, 1, 0, []) lv st σ c z := rfl
theorem go_D_put_65 : g_go c_D_put K k 65 lv st σ c z = k 65 (.putfield 25, 3, 0, []) lv st σ c z := rfl
theorem go_D_put_68 : g_go c_D_put K k 68 lv st σ c z = k 68 (.return_, 1, 0, []) lv st σ c z := rfl
theorem go_D_startOf_0 : g_go c_D_startOf K k 0 lv st σ c z = k 0 (.aload_n 0, 1, 0, []) lv st σ c z := rfl
theorem at_D_startOf_0 : g_at c_D_startOf k 0 lv st σ c z = k 0 (.aload_n 0, 1, 0, []) lv st σ c z := rfl
theorem go_D_startOf_1 : g_go c_D_startOf K k 1 lv st σ c z = k 1 (.iload_n 1, 1, 0, []) lv st σ c z := rfl
theorem go_D_startOf_2 : g_go c_D_startOf K k 2 lv st σ c z = k 2 (.invokevirtual 28, 3, 0, []) lv st σ c z := rfl
theorem go_D_startOf_5 : g_go c_D_startOf K k 5 lv st σ c z = k 5 (.istore_n 2, 1, 0, []) lv st σ c z := rfl
theorem go_D_startOf_6 : g_go c_D_startOf K k 6 lv st σ c z = k 6 (.iload_n 2, 1, 0, []) lv st σ c z := rfl
theorem go_D_startOf_7 : g_go c_D_startOf K k 7 lv st σ c z = k 7 (.iconst (-1), 1, (-1), []) lv st σ c z := rfl
theorem go_D_startOf_8 : g_go c_D_startOf K k 8 lv st σ c z = k 8 (.if_icmp .eq 12, 3, 0, [(0, 20)]) lv st σ c z := rfl
theorem go_D_startOf_11 : g_go c_D_startOf K k 11 lv st σ c z = k 11 (.aload_n 0, 1, 0, []) lv st σ c z := rfl
theorem go_D_startOf_12 : g_go c_D_startOf K k 12 lv st σ c z = k 12 (.getfield 18, 3, 0, []) lv st σ c z := rfl
theorem go_D_startOf_15 : g_go c_D_startOf K k 15 lv st σ c z = k 15 (.iload_n 2, 1, 0, []) lv st σ c z := rfl
theorem go_D_startOf_16 : g_go c_D_startOf K k 16 lv st σ c z = k 16 (.iaload, 1, 0, []) lv st σ c z := rfl
theorem go_D_startOf_17 : g_go c_D_startOf K k 17 lv st σ c z = k 17 (.ifCond .ne 7, 3, 0, [(0, 24)]) lv st σ c z := rfl
theorem go_D_startOf_20 : g_go c_D_startOf K k 20 lv st σ c z = k 20 (.iconst (-1), 1, (-1), []) lv st σ c z := rfl
theorem go_D_startOf_21 : g_go c_D_startOf K k 21 lv st σ c z = k 21 (.goto 9, 3, 0, [(0, 30)]) lv st σ c z := rfl
theorem go_D_startOf_24 : g_go c_D_startOf K k 24 lv st σ c z = k 24 (.aload_n 0, 1, 0, []) lv st σ c z := rfl
theorem go_D_startOf_25 : g_go c_D_startOf K k 25 lv st σ c z = k 25 (.getfield 15, 3, 0, []) lv st σ c z := rfl
theorem go_D_startOf_28 : g_go c_D_startOf K k 28 lv st σ c z = k 28 (.iload_n 2, 1, 0, []) lv st σ c z := rfl
theorem go_D_startOf_29 : g_go c_D_startOf K k 29 lv st σ c z = k 29 (.iaload, 1, 0, []) lv st σ c z := rfl
theorem go_D_startOf_30 : g_go c_D_startOf K k 30 lv st σ c z = k 30 (.ireturn, 1, 0, []) lv st σ c z := rfl
theorem go_D_closeGaps_0 : g_go c_D_closeGaps K k 0 lv st σ c z = k 0 (.aload_n 0, 1, 0, []) lv st σ c z := rfl
theorem at_D_closeGaps_0 : g_at c_D_closeGaps k 0 lv st σ c z = k 0 (.aload_n 0, 1, 0, []) lv st σ c z := rfl
theorem go_D_closeGaps_1 : g_go c_D_closeGaps K k 1 lv st σ c z = k 1 (.getfield 25, 3, 0, []) lv st σ c z := rfl
theorem go_D_closeGaps_4 : g_go c_D_closeGaps K k 4 lv st σ c z = k 4 (.istore_n 1, 1, 0, []) lv st σ c z := rfl
theorem go_D_closeGaps_5 : g_go c_D_closeGaps K k 5 lv st σ c z = k 5 (.aload_n 0, 1, 0, []) lv st σ c z := rfl
theorem go_D_closeGaps_6 : g_go c_D_closeGaps K k 6 lv st σ c z = k 6 (.iconst 0, 1, 0, []) lv st σ c z := rfl
theorem go_D_closeGaps_7 : g_go c_D_closeGaps K k 7 lv st σ c z = k 7 (.putfield 25, 3, 0, []) lv st σ c z := rfl
theorem go_D_closeGaps_10 : g_go c_D_closeGaps K k 10 lv st σ c z = k 10 (.iconst 0, 1, 0, []) lv st σ c z := rfl
theorem go_D_closeGaps_11 : g_go c_D_closeGaps K k 11 lv st σ c z = k 11 (.istore_n 2, 1, 0, []) lv st σ c z := rfl
theorem go_D_closeGaps_12 : g_go c_D_closeGaps K k 12 lv st σ c z = K 12 (lv.take 3) st σ c z := rfl
theorem at_D_closeGaps_12 : g_at c_D_closeGaps k 12 lv st σ c z = k 12 (.iload_n 2, 1, 0, []) lv st σ c z := rfl
theorem go_D_closeGaps_13 : g_go c_D_closeGaps K k 13 lv st σ c z = k 13 (.aload_n 0, 1, 0, []) lv st σ c z := rfl
theorem go_D_closeGaps_14 : g_go c_D_closeGaps K k 14 lv st σ c z = k 14 (.getfield 21, 3, 0, []) lv st σ c z := rfl
theorem go_D_closeGaps_17 : g_go c_D_closeGaps K k 17 lv st σ c z = k 17 (.if_icmp .ge 34, 3, 0, [(0, 51)]) lv st σ c z := rfl
theorem go_D_closeGaps_20 : g_go c_D_closeGaps K k 20 lv st σ c z = k 20 (.aload_n 0, 1, 0, []) lv st σ c z := rfl
theorem go_D_closeGaps_21 : g_go c_D_closeGaps K k 21 lv st σ c z = k 21 (.getfield 15, 3, 0, []) lv st σ c z := rfl
theorem go_D_closeGaps_24 : g_go c_D_closeGaps K k 24 lv st σ c z = k 24 (.iload_n 2, 1, 0, []) lv st σ c z := rfl
theorem go_D_closeGaps_25 : g_go c_D_closeGaps K k 25 lv st σ c z = k 25 (.aload_n 0, 1, 0, []) lv st σ c z := rfl
theorem go_D_closeGaps_26 : g_go c_D_closeGaps K k 26 lv st σ c z = k 26 (.getfield 25, 3, 0, []) lv st σ c z := rfl
theorem go_D_closeGaps_29 : g_go c_D_closeGaps K k 29 lv st σ c z = k 29 (.iastore, 1, 0, []) lv st σ c z := rfl
theorem go_D_closeGaps_30 : g_go c_D_closeGaps K k 30 lv st σ c z = k 30 (.aload_n 0, 1, 0, []) lv st σ c z := rfl
theorem go_D_closeGaps_31 : g_go c_D_closeGaps K k 31 lv st σ c z = k 31 (.dup, 1, 0, []) lv st σ c z := rfl
theorem go_D_closeGaps_32 : g_go c_D_closeGaps K k 32 lv st σ c z = k 32 (.getfield 25, 3, 0, []) lv st σ c z := rfl
theorem go_D_closeGaps_35 : g_go c_D_closeGaps K k 35 lv st σ c z = k 35 (.aload_n 0, 1, 0, []) lv st σ c z := rfl
theorem go_D_closeGaps_36 : g_go c_D_closeGaps K k 36 lv st σ c z = k 36 (.getfield 18, 3, 0, []) lv st σ c z := rfl
theorem go_D_closeGaps_39 : g_go c_D_closeGaps K k 39 lv st σ c z = k 39 (.iload_n 2, 1, 0, []) lv st σ c z := rfl
theorem go_D_closeGaps_40 : g_go c_D_closeGaps K k 40 lv st σ c z = k 40 (.iaload, 1, 0, []) lv st σ c z := rfl
theorem go_D_closeGaps_41 : g_go c_D_closeGaps K k 41 lv st σ c z = k 41 (.iadd, 1, 0, []) lv st σ c z := rfl
theorem go_D_closeGaps_42 : g_go c_D_closeGaps K k 42 lv st σ c z = k 42 (.putfield 25, 3, 0, []) lv st σ c z := rfl
theorem go_D_closeGaps_45 : g_go c_D_closeGaps K k 45 lv st σ c z = k 45 (.iinc 2 1, 3, 1, []) lv st σ c z := rfl
theorem go_D_closeGaps_48 : g_go c_D_closeGaps K k 48 lv st σ c z = k 48 (.goto (-36), 3, 0, [(0, 12)]) lv st σ c z := rfl
theorem go_D_closeGaps_51 : g_go c_D_closeGaps K k 51 lv st σ c z = k 51 (.iload_n 1, 1, 0, []) lv st σ c z := rfl
theorem go_D_closeGaps_52 : g_go c_D_closeGaps K k 52 lv st σ c z = k 52 (.aload_n 0, 1, 0, []) lv st σ c z := rfl
theorem go_D_closeGaps_53 : g_go c_D_closeGaps K k 53 lv st σ c z = k 53 (.getfield 25, 3, 0, []) lv st σ c z := rfl
theorem go_D_closeGaps_56 : g_go c_D_closeGaps K k 56 lv st σ c z = k 56 (.isub, 1, 0, []) lv st σ c z := rfl
theorem go_D_closeGaps_57 : g_go c_D_closeGaps K k 57 lv st σ c z = k 57 (.ireturn, 1, 0, []) lv st σ c z := rfl
theorem go_D_indexOf_0 : g_go c_D_indexOf K k 0 lv st σ c z = k 0 (.iconst 0, 1, 0, []) lv st σ c z := rfl
theorem at_D_indexOf_0 : g_at c_D_indexOf k 0 lv st σ c z = k 0 (.iconst 0, 1, 0, []) lv st σ c z := rfl
theorem go_D_indexOf_1 : g_go c_D_indexOf K k 1 lv st σ c z = k 1 (.istore_n 2, 1, 0, []) lv st σ c z := rfl
theorem go_D_indexOf_2 : g_go c_D_indexOf K k 2 lv st σ c z = K 2 (lv.take 3) st σ c z := rfl
theorem at_D_indexOf_2 : g_at c_D_indexOf k 2 lv st σ c z = k 2 (.iload_n 2, 1, 0, []) lv st σ c z := rfl
theorem go_D_indexOf_3 : g_go c_D_indexOf K k 3 lv st σ c z = k 3 (.aload_n 0, 1, 0, []) lv st σ c z := rfl
theorem go_D_indexOf_4 : g_go c_D_indexOf K k 4 lv st σ c z = k 4 (.getfield 21, 3, 0, []) lv st σ c z := rfl
theorem go_D_indexOf_7 : g_go c_D_indexOf K k 7 lv st σ c z = k 7 (.if_icmp .ge 21, 3, 0, [(0, 28)]) lv st σ c z := rfl
theorem go_D_indexOf_10 : g_go c_D_indexOf K k 10 lv st σ c z = k 10 (.aload_n 0, 1, 0, []) lv st σ c z := rfl
theorem go_D_indexOf_11 : g_go c_D_indexOf K k 11 lv st σ c z = k 11 (.getfield 9, 3, 0, []) lv st σ c z := rfl
theorem go_D_indexOf_14 : g_go c_D_indexOf K k 14 lv st σ c z = k 14 (.iload_n 2, 1, 0, []) lv st σ c z := rfl
theorem go_D_indexOf_15 : g_go c_D_indexOf K k 15 lv st σ c z = k 15 (.iaload, 1, 0, []) lv st σ c z := rfl
theorem go_D_indexOf_16 : g_go c_D_indexOf K k 16 lv st σ c z = k 16 (.iload_n 1, 1, 0, []) lv st σ c z := rfl
theorem go_D_indexOf_17 : g_go c_D_indexOf K k 17 lv st σ c z = k 17 (.if_icmp .ne 5, 3, 0, [(0, 22)]) lv st σ c z := rfl
theorem go_D_indexOf_20 : g_go c_D_indexOf K k 20 lv st σ c z = k 20 (.iload_n 2, 1, 0, []) lv st σ c z := rfl
theorem go_D_indexOf_21 : g_go c_D_indexOf K k 21 lv st σ c z = k 21 (.ireturn, 1, 0, []) lv st σ c z := rfl
theorem go_D_indexOf_22 : g_go c_D_indexOf K k 22 lv st σ c z = k 22 (.iinc 2 1, 3, 1, []) lv st σ c z := rfl
theorem go_D_indexOf_25 : g_go c_D_indexOf K k 25 lv st σ c z = k 25 (.goto (-23), 3, 0, [(0, 2)]) lv st σ c z := rfl
theorem go_D_indexOf_28 : g_go c_D_indexOf K k 28 lv st σ c z = k 28 (.iconst (-1), 1, (-1), []) lv st σ c z := rfl
theorem go_D_indexOf_29 : g_go c_D_indexOf K k 29 lv st σ c z = k 29 (.ireturn, 1, 0, []) lv st σ c z := rfl
theorem go_D_drop_0 : g_go c_D_drop K k 0 lv st σ c z = k 0 (.aload_n 0, 1, 0, []) lv st σ c z := rfl
theorem at_D_drop_0 : g_at c_D_drop k 0 lv st σ c z = k 0 (.aload_n 0, 1, 0, []) lv st σ c z := rfl
theorem go_D_drop_1 : g_go c_D_drop K k 1 lv st σ c z = k 1 (.iload_n 1, 1, 0, []) lv st σ c z := rfl
theorem go_D_drop_2 : g_go c_D_drop K k 2 lv st σ c z = k 2 (.invokevirtual 28, 3, 0, []) lv st σ c z := rfl
theorem go_D_drop_5 : g_go c_D_drop K k 5 lv st σ c z = k 5 (.istore_n 2, 1, 0, []) lv st σ c z := rfl
theorem go_D_drop_6 : g_go c_D_drop K k 6 lv st σ c z = k 6 (.iload_n 2, 1, 0, []) lv st σ c z := rfl
theorem go_D_drop_7 : g_go c_D_drop K k 7 lv st σ c z = k 7 (.iconst (-1), 1, (-1), []) lv st σ c z := rfl
theorem go_D_drop_8 : g_go c_D_drop K k 8 lv st σ c z = k 8 (.if_icmp .ne 4, 3, 0, [(0, 12)]) lv st σ c z := rfl
theorem go_D_drop_11 : g_go c_D_drop K k 11 lv st σ c z = k 11 (.return_, 1, 0, []) lv st σ c z := rfl
theorem go_D_drop_12 : g_go c_D_drop K k 12 lv st σ c z = k 12 (.iload_n 2, 1, 0, []) lv st σ c z := rfl
theorem go_D_drop_13 : g_go c_D_drop K k 13 lv st σ c z = k 13 (.istore_n 3, 1, 0, []) lv st σ c z := rfl
theorem go_D_drop_14 : g_go c_D_drop K k 14 lv st σ c z = K 14 (lv.take 4) st σ c z := rfl
theorem at_D_drop_14 : g_at c_D_drop k 14 lv st σ c z = k 14 (.iload_n 3, 1, 0, []) lv st σ c z := rfl
theorem go_D_drop_15 : g_go c_D_drop K k 15 lv st σ c z = k 15 (.iconst 1, 1, 1, []) lv st σ c z := rfl
theorem go_D_drop_16 : g_go c_D_drop K k 16 lv st σ c z = k 16 (.iadd, 1, 0, []) lv st σ c z := rfl
theorem go_D_drop_17 : g_go c_D_drop K k 17 lv st σ c z = k 17 (.aload_n 0, 1, 0, []) lv st σ c z := rfl
theorem go_D_drop_18 : g_go c_D_drop K k 18 lv st σ c z = k 18 (.getfield 21, 3, 0, []) lv st σ c z := rfl
theorem go_D_drop_21 : g_go c_D_drop K k 21 lv st σ c z = k 21 (.if_icmp .ge 51, 3, 0, [(0, 72)]) lv st σ c z := rfl
theorem go_D_drop_24 : g_go c_D_drop K k 24 lv st σ c z = k 24 (.aload_n 0, 1, 0, []) lv st σ c z := rfl
theorem go_D_drop_25 : g_go c_D_drop K k 25 lv st σ c z = k 25 (.getfield 9, 3, 0, []) lv st σ c z := rfl
theorem go_D_drop_28 : g_go c_D_drop K k 28 lv st σ c z = k 28 (.iload_n 3, 1, 0, []) lv st σ c z := rfl
theorem go_D_drop_29 : g_go c_D_drop K k 29 lv st σ c z = k 29 (.aload_n 0, 1, 0, []) lv st σ c z := rfl
theorem go_D_drop_30 : g_go c_D_drop K k 30 lv st σ c z = k 30 (.getfield 9, 3, 0, []) lv st σ c z := rfl
theorem go_D_drop_33 : g_go c_D_drop K k 33 lv st σ c z = k 33 (.iload_n 3, 1, 0, []) lv st σ c z := rfl
theorem go_D_drop_34 : g_go c_D_drop K k 34 lv st σ c z = k 34 (.iconst 1, 1, 1, []) lv st σ c z := rfl
theorem go_D_drop_35 : g_go c_D_drop K k 35 lv st σ c z = k 35 (.iadd, 1, 0, []) lv st σ c z := rfl
theorem go_D_drop_36 : g_go c_D_drop K k 36 lv st σ c z = k 36 (.iaload, 1, 0, []) lv st σ c z := rfl
theorem go_D_drop_37 : g_go c_D_drop K k 37 lv st σ c z = k 37 (.iastore, 1, 0, []) lv st σ c z := rfl
theorem go_D_drop_38 : g_go c_D_drop K k 38 lv st σ c z = k 38 (.aload_n 0, 1, 0, []) lv st σ c z := rfl
theorem go_D_drop_39 : g_go c_D_drop K k 39 lv st σ c z = k 39 (.getfield 15, 3, 0, []) lv st σ c z := rfl
theorem go_D_drop_42 : g_go c_D_drop K k 42 lv st σ c z = k 42 (.iload_n 3, 1, 0, []) lv st σ c z := rfl
theorem go_D_drop_43 : g_go c_D_drop K k 43 lv st σ c z = k 43 (.aload_n 0, 1, 0, []) lv st σ c z := rfl
theorem go_D_drop_44 : g_go c_D_drop K k 44 lv st σ c z = k 44 (.getfield 15, 3, 0, []) lv st σ c z := rfl
theorem go_D_drop_47 : g_go c_D_drop K k 47 lv st σ c z = k 47 (.iload_n 3, 1, 0, []) lv st σ c z := rfl
theorem go_D_drop_48 : g_go c_D_drop K k 48 lv st σ c z = k 48 (.iconst 1, 1, 1, []) lv st σ c z := rfl
theorem go_D_drop_49 : g_go c_D_drop K k 49 lv st σ c z = k 49 (.iadd, 1, 0, []) lv st σ c z := rfl
theorem go_D_drop_50 : g_go c_D_drop K k 50 lv st σ c z = k 50 (.iaload, 1, 0, []) lv st σ c z := rfl
theorem go_D_drop_51 : g_go c_D_drop K k 51 lv st σ c z = k 51 (.iastore, 1, 0, []) lv st σ c z := rfl
theorem go_D_drop_52 : g_go c_D_drop K k 52 lv st σ c z = k 52 (.aload_n 0, 1, 0, []) lv st σ c z := rfl
theorem go_D_drop_53 : g_go c_D_drop K k 53 lv st σ c z = k 53 (.getfield 18, 3, 0, []) lv st σ c z := rfl
theorem go_D_drop_56 : g_go c_D_drop K k 56 lv st σ c z = k 56 (.iload_n 3, 1, 0, []) lv st σ c z := rfl
theorem go_D_drop_57 : g_go c_D_drop K k 57 lv st σ c z = k 57 (.aload_n 0, 1, 0, []) lv st σ c z := rfl
theorem go_D_drop_58 : g_go c_D_drop K k 58 lv st σ c z = k 58 (.getfield 18, 3, 0, []) lv st σ c z := rfl
theorem go_D_drop_61 : g_go c_D_drop K k 61 lv st σ c z = k 61 (.iload_n 3, 1, 0, []) lv st σ c z := rfl
theorem go_D_drop_62 : g_go c_D_drop K k 62 lv st σ c z = k 62 (.iconst 1, 1, 1, []) lv st σ c z := rfl
theorem go_D_drop_63 : g_go c_D_drop K k 63 lv st σ c z = k 63 (.iadd, 1, 0, []) lv st σ c z := rfl
theorem go_D_drop_64 : g_go c_D_drop K k 64 lv st σ c z = k 64 (.iaload, 1, 0, []) lv st σ c z := rfl
theorem go_D_drop_65 : g_go c_D_drop K k 65 lv st σ c z = k 65 (.iastore, 1, 0, []) lv st σ c z := rfl
theorem go_D_drop_66 : g_go c_D_drop K k 66 lv st σ c z = k 66 (.iinc 3 1, 3, 1, []) lv st σ c z := rfl
theorem go_D_drop_69 : g_go c_D_drop K k 69 lv st σ c z = k 69 (.goto (-55), 3, 0, [(0, 14)]) lv st σ c z := rfl
theorem go_D_drop_72 : g_go c_D_drop K k 72 lv st σ c z = k 72 (.aload_n 0, 1, 0, []) lv st σ c z := rfl
theorem go_D_drop_73 : g_go c_D_drop K k 73 lv st σ c z = k 73 (.dup, 1, 0, []) lv st σ c z := rfl
theorem go_D_drop_74 : g_go c_D_drop K k 74 lv st σ c z = k 74 (.getfield 21, 3, 0, []) lv st σ c z := rfl
theorem go_D_drop_77 : g_go c_D_drop K k 77 lv st σ c z = k 77 (.iconst 1, 1, 1, []) lv st σ c z := rfl
theorem go_D_drop_78 : g_go c_D_drop K k 78 lv st σ c z = k 78 (.isub, 1, 0, []) lv st σ c z := rfl
theorem go_D_drop_79 : g_go c_D_drop K k 79 lv st σ c z = k 79 (.putfield 21, 3, 0, []) lv st σ c z := rfl
theorem go_D_drop_82 : g_go c_D_drop K k 82 lv st σ c z = k 82 (.return_, 1, 0, []) lv st σ c z := rfl
theorem go_E_init_0 : g_go c_E_init K k 0 lv st σ c z = k 0 (.aload_n 0, 1, 0, []) lv st σ c z := rfl
theorem at_E_init_0 : g_at c_E_init k 0 lv st σ c z = k 0 (.aload_n 0, 1, 0, []) lv st σ c z := rfl
theorem go_E_init_1 : g_go c_E_init K k 1 lv st σ c z = k 1 (.invokespecial 3, 3, 0, []) lv st σ c z := rfl
theorem go_E_init_4 : g_go c_E_init K k 4 lv st σ c z = k 4 (.aload_n 0, 1, 0, []) lv st σ c z := rfl
theorem go_E_init_5 : g_go c_E_init K k 5 lv st σ c z = k 5 (.bipush 16, 2, 16, []) lv st σ c z := rfl
theorem go_E_init_7 : g_go c_E_init K k 7 lv st σ c z = k 7 (.newarray .int, 2, 0, []) lv st σ c z := rfl
theorem go_E_init_9 : g_go c_E_init K k 9 lv st σ c z = k 9 (.putfield 9, 3, 0, []) lv st σ c z := rfl
theorem go_E_init_12 : g_go c_E_init K k 12 lv st σ c z = k 12 (.aload_n 0, 1, 0, []) lv st σ c z := rfl
theorem go_E_init_13 : g_go c_E_init K k 13 lv st σ c z = k 13 (.bipush 16, 2, 16, []) lv st σ c z := rfl
theorem go_E_init_15 : g_go c_E_init K k 15 lv st σ c z = k 15 (.newarray .int, 2, 0, []) lv st σ c z := rfl
theorem go_E_init_17 : g_go c_E_init K k 17 lv st σ c z = k 17 (.putfield 15, 3, 0, []) lv st σ c z := rfl
theorem go_E_init_20 : g_go c_E_init K k 20 lv st σ c z = k 20 (.aload_n 0, 1, 0, []) lv st σ c z := rfl
theorem go_E_init_21 : g_go c_E_init K k 21 lv st σ c z = k 21 (.iconst 0, 1, 0, []) lv st σ c z := rfl
theorem go_E_init_22 : g_go c_E_init K k 22 lv st σ c z = k 22 (.putfield 18, 3, 0, []) lv st σ c z := rfl
theorem go_E_init_25 : g_go c_E_init K k 25 lv st σ c z = k 25 (.return_, 1, 0, []) lv st σ c z := rfl
theorem go_E_isFull_0 : g_go c_E_isFull K k 0 lv st σ c z = k 0 (.aload_n 0, 1, 0, []) lv st σ c z := rfl
theorem at_E_isFull_0 : g_at c_E_isFull k 0 lv st σ c z = k 0 (.aload_n 0, 1, 0, []) lv st σ c z := rfl
theorem go_E_isFull_1 : g_go c_E_isFull K k 1 lv st σ c z = k 1 (.getfield 18, 3, 0, []) lv st σ c z := rfl
theorem go_E_isFull_4 : g_go c_E_isFull K k 4 lv st σ c z = k 4 (.bipush 16, 2, 16, []) lv st σ c z := rfl
theorem go_E_isFull_6 : g_go c_E_isFull K k 6 lv st σ c z = k 6 (.if_icmp .lt 7, 3, 0, [(0, 13)]) lv st σ c z := rfl
theorem go_E_isFull_9 : g_go c_E_isFull K k 9 lv st σ c z = k 9 (.iconst 1, 1, 1, []) lv st σ c z := rfl
theorem go_E_isFull_10 : g_go c_E_isFull K k 10 lv st σ c z = k 10 (.goto 4, 3, 0, [(0, 14)]) lv st σ c z := rfl
theorem go_E_isFull_13 : g_go c_E_isFull K k 13 lv st σ c z = k 13 (.iconst 0, 1, 0, []) lv st σ c z := rfl
theorem go_E_isFull_14 : g_go c_E_isFull K k 14 lv st σ c z = k 14 (.ireturn, 1, 0, []) lv st σ c z := rfl
theorem go_E_add_0 : g_go c_E_add K k 0 lv st σ c z = k 0 (.aload_n 0, 1, 0, []) lv st σ c z := rfl
theorem at_E_add_0 : g_at c_E_add k 0 lv st σ c z = k 0 (.aload_n 0, 1, 0, []) lv st σ c z := rfl
theorem go_E_add_1 : g_go c_E_add K k 1 lv st σ c z = k 1 (.invokevirtual 22, 3, 0, []) lv st σ c z := rfl
theorem go_E_add_4 : g_go c_E_add K k 4 lv st σ c z = k 4 (.ifCond .eq 4, 3, 0, [(0, 8)]) lv st σ c z := rfl
theorem go_E_add_7 : g_go c_E_add K k 7 lv st σ c z = k 7 (.return_, 1, 0, []) lv st σ c z := rfl
theorem go_E_add_8 : g_go c_E_add K k 8 lv st σ c z = k 8 (.aload_n 0, 1, 0, []) lv st σ c z := rfl
theorem go_E_add_9 : g_go c_E_add K k 9 lv st σ c z = k 9 (.getfield 9, 3, 0, []) lv st σ c z := rfl
theorem go_E_add_12 : g_go c_E_add K k 12 lv st σ c z = k 12 (.aload_n 0, 1, 0, []) lv st σ c z := rfl
theorem go_E_add_13 : g_go c_E_add K k 13 lv st σ c z = k 13 (.getfield 18, 3, 0, []) lv st σ c z := rfl
theorem go_E_add_16 : g_go c_E_add K k 16 lv st σ c z = k 16 (.iload_n 1, 1, 0, []) lv st σ c z := rfl
theorem go_E_add_17 : g_go c_E_add K k 17 lv st σ c z = k 17 (.iastore, 1, 0, []) lv st σ c z := rfl
theorem go_E_add_18 : g_go c_E_add K k 18 lv st σ c z = k 18 (.aload_n 0, 1, 0, []) lv st σ c z := rfl
theorem go_E_add_19 : g_go c_E_add K k 19 lv st σ c z = k 19 (.getfield 15, 3, 0, []) lv st σ c z := rfl
theorem go_E_add_22 : g_go c_E_add K k 22 lv st σ c z = k 22 (.aload_n 0, 1, 0, []) lv st σ c z := rfl
theorem go_E_add_23 : g_go c_E_add K k 23 lv st σ c z = k 23 (.getfield 18, 3, 0, []) lv st σ c z := rfl
theorem go_E_add_26 : g_go c_E_add K k 26 lv st σ c z = k 26 (.iload_n 2, 1, 0, []) lv st σ c z := rfl
theorem go_E_add_27 : g_go c_E_add K k 27 lv st σ c z = k 27 (.iastore, 1, 0, []) lv st σ c z := rfl
theorem go_E_add_28 : g_go c_E_add K k 28 lv st σ c z = k 28 (.aload_n 0, 1, 0, []) lv st σ c z := rfl
theorem go_E_add_29 : g_go c_E_add K k 29 lv st σ c z = k 29 (.dup, 1, 0, []) lv st σ c z := rfl
theorem go_E_add_30 : g_go c_E_add K k 30 lv st σ c z = k 30 (.getfield 18, 3, 0, []) lv st σ c z := rfl
theorem go_E_add_33 : g_go c_E_add K k 33 lv st σ c z = k 33 (.iconst 1, 1, 1, []) lv st σ c z := rfl
theorem go_E_add_34 : g_go c_E_add K k 34 lv st σ c z = k 34 (.iadd, 1, 0, []) lv st σ c z := rfl
theorem go_E_add_35 : g_go c_E_add K k 35 lv st σ c z = k 35 (.putfield 18, 3, 0, []) lv st σ c z := rfl
theorem go_E_add_38 : g_go c_E_add K k 38 lv st σ c z = k 38 (.return_, 1, 0, []) lv st σ c z := rfl
theorem go_E_tracks_0 : g_go c_E_tracks K k 0 lv st σ c z = k 0 (.iconst 0, 1, 0, []) lv st σ c z := rfl
theorem at_E_tracks_0 : g_at c_E_tracks k 0 lv st σ c z = k 0 (.iconst 0, 1, 0, []) lv st σ c z := rfl
theorem go_E_tracks_1 : g_go c_E_tracks K k 1 lv st σ c z = k 1 (.istore_n 1, 1, 0, []) lv st σ c z := rfl
theorem go_E_tracks_2 : g_go c_E_tracks K k 2 lv st σ c z = k 2 (.iconst 0, 1, 0, []) lv st σ c z := rfl
theorem go_E_tracks_3 : g_go c_E_tracks K k 3 lv st σ c z = k 3 (.istore_n 2, 1, 0, []) lv st σ c z := rfl
theorem go_E_tracks_4 : g_go c_E_tracks K k 4 lv st σ c z = K 4 (lv.take 3) st σ c z := rfl
theorem at_E_tracks_4 : g_at c_E_tracks k 4 lv st σ c z = k 4 (.iload_n 2, 1, 0, []) lv st σ c z := rfl
theorem go_E_tracks_5 : g_go c_E_tracks K k 5 lv st σ c z = k 5 (.aload_n 0, 1, 0, []) lv st σ c z := rfl
theorem go_E_tracks_6 : g_go c_E_tracks K k 6 lv st σ c z = k 6 (.getfield 18, 3, 0, []) lv st σ c z := rfl
theorem go_E_tracks_9 : g_go c_E_tracks K k 9 lv st σ c z = k 9 (.if_icmp .ge 18, 3, 0, [(0, 27)]) lv st σ c z := rfl
theorem go_E_tracks_12 : g_go c_E_tracks K k 12 lv st σ c z = k 12 (.iload_n 1, 1, 0, []) lv st σ c z := rfl
theorem go_E_tracks_13 : g_go c_E_tracks K k 13 lv st σ c z = k 13 (.aload_n 0, 1, 0, []) lv st σ c z := rfl
theorem go_E_tracks_14 : g_go c_E_tracks K k 14 lv st σ c z = k 14 (.getfield 15, 3, 0, []) lv st σ c z := rfl
theorem go_E_tracks_17 : g_go c_E_tracks K k 17 lv st σ c z = k 17 (.iload_n 2, 1, 0, []) lv st σ c z := rfl
theorem go_E_tracks_18 : g_go c_E_tracks K k 18 lv st σ c z = k 18 (.iaload, 1, 0, []) lv st σ c z := rfl
theorem go_E_tracks_19 : g_go c_E_tracks K k 19 lv st σ c z = k 19 (.iadd, 1, 0, []) lv st σ c z := rfl
theorem go_E_tracks_20 : g_go c_E_tracks K k 20 lv st σ c z = k 20 (.istore_n 1, 1, 0, []) lv st σ c z := rfl
theorem go_E_tracks_21 : g_go c_E_tracks K k 21 lv st σ c z = k 21 (.iinc 2 1, 3, 1, []) lv st σ c z := rfl
theorem go_E_tracks_24 : g_go c_E_tracks K k 24 lv st σ c z = k 24 (.goto (-20), 3, 0, [(0, 4)]) lv st σ c z := rfl
theorem go_E_tracks_27 : g_go c_E_tracks K k 27 lv st σ c z = k 27 (.iload_n 1, 1, 0, []) lv st σ c z := rfl
theorem go_E_tracks_28 : g_go c_E_tracks K k 28 lv st σ c z = k 28 (.ireturn, 1, 0, []) lv st σ c z := rfl
theorem go_E_onVolume_0 : g_go c_E_onVolume K k 0 lv st σ c z = k 0 (.iload_n 1, 1, 0, []) lv st σ c z := rfl
theorem at_E_onVolume_0 : g_at c_E_onVolume k 0 lv st σ c z = k 0 (.iload_n 1, 1, 0, []) lv st σ c z := rfl
theorem go_E_onVolume_1 : g_go c_E_onVolume K k 1 lv st σ c z = k 1 (.istore_n 2, 1, 0, []) lv st σ c z := rfl
theorem go_E_onVolume_2 : g_go c_E_onVolume K k 2 lv st σ c z = k 2 (.iconst 0, 1, 0, []) lv st σ c z := rfl
theorem go_E_onVolume_3 : g_go c_E_onVolume K k 3 lv st σ c z = k 3 (.istore_n 3, 1, 0, []) lv st σ c z := rfl
theorem go_E_onVolume_4 : g_go c_E_onVolume K k 4 lv st σ c z = K 4 (lv.take 4) st σ c z := rfl
theorem at_E_onVolume_4 : g_at c_E_onVolume k 4 lv st σ c z = k 4 (.iload_n 3, 1, 0, []) lv st σ c z := rfl
theorem go_E_onVolume_5 : g_go c_E_onVolume K k 5 lv st σ c z = k 5 (.aload_n 0, 1, 0, []) lv st σ c z := rfl
theorem go_E_onVolume_6 : g_go c_E_onVolume K k 6 lv st σ c z = k 6 (.getfield 18, 3, 0, []) lv st σ c z := rfl
theorem go_E_onVolume_9 : g_go c_E_onVolume K k 9 lv st σ c z = k 9 (.if_icmp .ge 37, 3, 0, [(0, 46)]) lv st σ c z := rfl
theorem go_E_onVolume_12 : g_go c_E_onVolume K k 12 lv st σ c z = k 12 (.iload_n 2, 1, 0, []) lv st σ c z := rfl
theorem go_E_onVolume_13 : g_go c_E_onVolume K k 13 lv st σ c z = k 13 (.aload_n 0, 1, 0, []) lv st σ c z := rfl
theorem go_E_onVolume_14 : g_go c_E_onVolume K k 14 lv st σ c z = k 14 (.getfield 15, 3, 0, []) lv st σ c z := rfl
theorem go_E_onVolume_17 : g_go c_E_onVolume K k 17 lv st σ c z = k 17 (.iload_n 3, 1, 0, []) lv st σ c z := rfl
theorem go_E_onVolume_18 : g_go c_E_onVolume K k 18 lv st σ c z = k 18 (.iaload, 1, 0, []) lv st σ c z := rfl
theorem go_E_onVolume_19 : g_go c_E_onVolume K k 19 lv st σ c z = k 19 (.if_icmp .ge 12, 3, 0, [(0, 31)]) lv st σ c z := rfl
theorem go_E_onVolume_22 : g_go c_E_onVolume K k 22 lv st σ c z = k 22 (.aload_n 0, 1, 0, []) lv st σ c z := rfl
theorem go_E_onVolume_23 : g_go c_E_onVolume K k 23 lv st σ c z = k 23 (.getfield 9, 3, 0, []) lv st σ c z := rfl
theorem go_E_onVolume_26 : g_go c_E_onVolume K k 26 lv st σ c z = k 26 (.iload_n 3, 1, 0, []) lv st σ c z := rfl
theorem go_E_onVolume_27 : g_go c_E_onVolume K k 27 lv st σ c z = k 27 (.iaload, 1, 0, []) lv st σ c z := rfl
theorem go_E_onVolume_28 : g_go c_E_onVolume K k 28 lv st σ c z = k 28 (.iload_n 2, 1, 0, []) lv st σ c z := rfl
theorem go_E_onVolume_29 : g_go c_E_onVolume K k 29 lv st σ c z = k 29 (.iadd, 1, 0, []) lv st σ c z := rfl
theorem go_E_onVolume_30 : g_go c_E_onVolume K k 30 lv st σ c z = k 30 (.ireturn, 1, 0, []) lv st σ c z := rfl
theorem go_E_onVolume_31 : g_go c_E_onVolume K k 31 lv st σ c z = k 31 (.iload_n 2, 1, 0, []) lv st σ c z := rfl
theorem go_E_onVolume_32 : g_go c_E_onVolume K k 32 lv st σ c z = k 32 (.aload_n 0, 1, 0, []) lv st σ c z := rfl
theorem go_E_onVolume_33 : g_go c_E_onVolume K k 33 lv st σ c z = k 33 (.getfield 15, 3, 0, []) lv st σ c z := rfl
theorem go_E_onVolume_36 : g_go c_E_onVolume K k 36 lv st σ c z = k 36 (.iload_n 3, 1, 0, []) lv st σ c z := rfl
theorem go_E_onVolume_37 : g_go c_E_onVolume K k 37 lv st σ c z = k 37 (.iaload, 1, 0, []) lv st σ c z := rfl
theorem go_E_onVolume_38 : g_go c_E_onVolume K k 38 lv st σ c z = k 38 (.isub, 1, 0, []) lv st σ c z := rfl
theorem go_E_onVolume_39 : g_go c_E_onVolume K k 39 lv st σ c z = k 39 (.istore_n 2, 1, 0, []) lv st σ c z := rfl
theorem go_E_onVolume_40 : g_go c_E_onVolume K k 40 lv st σ c z = k 40 (.iinc 3 1, 3, 1, []) lv st σ c z := rfl
theorem go_E_onVolume_43 : g_go c_E_onVolume K k 43 lv st σ c z = k 43 (.goto (-39), 3, 0, [(0, 4)]) lv st σ c z := rfl
theorem go_E_onVolume_46 : g_go c_E_onVolume K k 46 lv st σ c z = k 46 (.iconst (-1), 1, (-1), []) lv st σ c z := rfl
theorem go_E_onVolume_47 : g_go c_E_onVolume K k 47 lv st σ c z = k 47 (.ireturn, 1, 0, []) lv st σ c z := rfl
theorem go_E_cutTo_0 : g_go c_E_cutTo K k 0 lv st σ c z = k 0 (.iload_n 1, 1, 0, []) lv st σ c z := rfl
theorem at_E_cutTo_0 : g_at c_E_cutTo k 0 lv st σ c z = k 0 (.iload_n 1, 1, 0, []) lv st σ c z := rfl
theorem go_E_cutTo_1 : g_go c_E_cutTo K k 1 lv st σ c z = k 1 (.istore_n 3, 1, 0, []) lv st σ c z := rfl
theorem go_E_cutTo_2 : g_go c_E_cutTo K k 2 lv st σ c z = k 2 (.iconst 0, 1, 0, []) lv st σ c z := rfl
theorem go_E_cutTo_3 : g_go c_E_cutTo K k 3 lv st σ c z = k 3 (.istore 4, 2, 0, []) lv st σ c z := rfl
theorem go_E_cutTo_5 : g_go c_E_cutTo K k 5 lv st σ c z = k 5 (.iconst 0, 1, 0, []) lv st σ c z := rfl
theorem go_E_cutTo_6 : g_go c_E_cutTo K k 6 lv st σ c z = k 6 (.istore 5, 2, 0, []) lv st σ c z := rfl
theorem go_E_cutTo_8 : g_go c_E_cutTo K k 8 lv st σ c z = k 8 (.iconst 0, 1, 0, []) lv st σ c z := rfl
theorem go_E_cutTo_9 : g_go c_E_cutTo K k 9 lv st σ c z = k 9 (.istore 6, 2, 0, []) lv st σ c z := rfl
theorem go_E_cutTo_11 : g_go c_E_cutTo K k 11 lv st σ c z = K 11 (lv.take 7) st σ c z := rfl
theorem at_E_cutTo_11 : g_at c_E_cutTo k 11 lv st σ c z = k 11 (.iload 6, 2, 0, []) lv st σ c z := rfl
theorem go_E_cutTo_13 : g_go c_E_cutTo K k 13 lv st σ c z = k 13 (.aload_n 0, 1, 0, []) lv st σ c z := rfl
theorem go_E_cutTo_14 : g_go c_E_cutTo K k 14 lv st σ c z = k 14 (.getfield 18, 3, 0, []) lv st σ c z := rfl
theorem go_E_cutTo_17 : g_go c_E_cutTo K k 17 lv st σ c z = k 17 (.if_icmp .ge 79, 3, 0, [(0, 96)]) lv st σ c z := rfl
theorem go_E_cutTo_20 : g_go c_E_cutTo K k 20 lv st σ c z = k 20 (.iload_n 3, 1, 0, []) lv st σ c z := rfl
theorem go_E_cutTo_21 : g_go c_E_cutTo K k 21 lv st σ c z = k 21 (.aload_n 0, 1, 0, []) lv st σ c z := rfl
theorem go_E_cutTo_22 : g_go c_E_cutTo K k 22 lv st σ c z = k 22 (.getfield 15, 3, 0, []) lv st σ c z := rfl
theorem go_E_cutTo_25 : g_go c_E_cutTo K k 25 lv st σ c z = k 25 (.iload 6, 2, 0, []) lv st σ c z := rfl
theorem go_E_cutTo_27 : g_go c_E_cutTo K k 27 lv st σ c z = k 27 (.iaload, 1, 0, []) lv st σ c z := rfl
theorem go_E_cutTo_28 : g_go c_E_cutTo K k 28 lv st σ c z = k 28 (.invokestatic 26, 3, 0, []) lv st σ c z := rfl
theorem go_E_cutTo_31 : g_go c_E_cutTo K k 31 lv st σ c z = k 31 (.istore 7, 2, 0, []) lv st σ c z := rfl
theorem go_E_cutTo_33 : g_go c_E_cutTo K k 33 lv st σ c z = k 33 (.aload_n 0, 1, 0, []) lv st σ c z := rfl
theorem go_E_cutTo_34 : g_go c_E_cutTo K k 34 lv st σ c z = k 34 (.getfield 15, 3, 0, []) lv st σ c z := rfl
theorem go_E_cutTo_37 : g_go c_E_cutTo K k 37 lv st σ c z = k 37 (.iload 6, 2, 0, []) lv st σ c z := rfl
theorem go_E_cutTo_39 : g_go c_E_cutTo K k 39 lv st σ c z = k 39 (.iaload, 1, 0, []) lv st σ c z := rfl
theorem go_E_cutTo_40 : g_go c_E_cutTo K k 40 lv st σ c z = k 40 (.iload 7, 2, 0, []) lv st σ c z := rfl
theorem go_E_cutTo_42 : g_go c_E_cutTo K k 42 lv st σ c z = k 42 (.isub, 1, 0, []) lv st σ c z := rfl
theorem go_E_cutTo_43 : g_go c_E_cutTo K k 43 lv st σ c z = k 43 (.istore 8, 2, 0, []) lv st σ c z := rfl
theorem go_E_cutTo_45 : g_go c_E_cutTo K k 45 lv st σ c z = k 45 (.aload_n 2, 1, 0, []) lv st σ c z := rfl
theorem go_E_cutTo_46 : g_go c_E_cutTo K k 46 lv st σ c z = k 46 (.aload_n 0, 1, 0, []) lv st σ c z := rfl
theorem go_E_cutTo_47 : g_go c_E_cutTo K k 47 lv st σ c z = k 47 (.getfield 9, 3, 0, []) lv st σ c z := rfl
theorem go_E_cutTo_50 : g_go c_E_cutTo K k 50 lv st σ c z = k 50 (.iload 6, 2, 0, []) lv st σ c z := rfl
theorem go_E_cutTo_52 : g_go c_E_cutTo K k 52 lv st σ c z = k 52 (.iaload, 1, 0, []) lv st σ c z := rfl
theorem go_E_cutTo_53 : g_go c_E_cutTo K k 53 lv st σ c z = k 53 (.iload 7, 2, 0, []) lv st σ c z := rfl
theorem go_E_cutTo_55 : g_go c_E_cutTo K k 55 lv st σ c z = k 55 (.iadd, 1, 0, []) lv st σ c z := rfl
theorem go_E_cutTo_56 : g_go c_E_cutTo K k 56 lv st σ c z = k 56 (.iload 8, 2, 0, []) lv st σ c z := rfl
theorem go_E_cutTo_58 : g_go c_E_cutTo K k 58 lv st σ c z = k 58 (.invokevirtual 32, 3, 0, []) lv st σ c z := rfl
theorem go_E_cutTo_61 : g_go c_E_cutTo K k 61 lv st σ c z = k 61 (.aload_n 0, 1, 0, []) lv st σ c z := rfl
theorem go_E_cutTo_62 : g_go c_E_cutTo K k 62 lv st σ c z = k 62 (.getfield 15, 3, 0, []) lv st σ c z := rfl
theorem go_E_cutTo_65 : g_go c_E_cutTo K k 65 lv st σ c z = k 65 (.iload 6, 2, 0, []) lv st σ c z := rfl
theorem go_E_cutTo_67 : g_go c_E_cutTo K k 67 lv st σ c z = k 67 (.iload 7, 2, 0, []) lv st σ c z := rfl
theorem go_E_cutTo_69 : g_go c_E_cutTo K k 69 lv st σ c z = k 69 (.iastore, 1, 0, []) lv st σ c z := rfl
theorem go_E_cutTo_70 : g_go c_E_cutTo K k 70 lv st σ c z = k 70 (.iload_n 3, 1, 0, []) lv st σ c z := rfl
theorem go_E_cutTo_71 : g_go c_E_cutTo K k 71 lv st σ c z = k 71 (.iload 7, 2, 0, []) lv st σ c z := rfl
theorem go_E_cutTo_73 : g_go c_E_cutTo K k 73 lv st σ c z = k 73 (.isub, 1, 0, []) lv st σ c z := rfl
theorem go_E_cutTo_74 : g_go c_E_cutTo K k 74 lv st σ c z = k 74 (.istore_n 3, 1, 0, []) lv st σ c z := rfl
theorem go_E_cutTo_75 : g_go c_E_cutTo K k 75 lv st σ c z = k 75 (.iload 4, 2, 0, []) lv st σ c z := rfl
theorem go_E_cutTo_77 : g_go c_E_cutTo K k 77 lv st σ c z = k 77 (.iload 8, 2, 0, []) lv st σ c z := rfl
theorem go_E_cutTo_79 : g_go c_E_cutTo K k 79 lv st σ c z = k 79 (.iadd, 1, 0, []) lv st σ c z := rfl
theorem go_E_cutTo_80 : g_go c_E_cutTo K k 80 lv st σ c z = k 80 (.istore 4, 2, 0, []) lv st σ c z := rfl
theorem go_E_cutTo_82 : g_go c_E_cutTo K k 82 lv st σ c z = k 82 (.iload 7, 2, 0, []) lv st σ c z := rfl
theorem go_E_cutTo_84 : g_go c_E_cutTo K k 84 lv st σ c z = k 84 (.ifCond .le 6, 3, 0, [(0, 90)]) lv st σ c z := rfl
theorem go_E_cutTo_87 : g_go c_E_cutTo K k 87 lv st σ c z = k 87 (.iinc 5 1, 3, 1, []) lv st σ c z := rfl
theorem go_E_cutTo_90 : g_go c_E_cutTo K k 90 lv st σ c z = k 90 (.iinc 6 1, 3, 1, []) lv st σ c z := rfl
theorem go_E_cutTo_93 : g_go c_E_cutTo K k 93 lv st σ c z = k 93 (.goto (-82), 3, 0, [(0, 11)]) lv st σ c z := rfl
theorem go_E_cutTo_96 : g_go c_E_cutTo K k 96 lv st σ c z = k 96 (.aload_n 0, 1, 0, []) lv st σ c z := rfl
theorem go_E_cutTo_97 : g_go c_E_cutTo K k 97 lv st σ c z = k 97 (.iload 5, 2, 0, []) lv st σ c z := rfl
theorem go_E_cutTo_99 : g_go c_E_cutTo K k 99 lv st σ c z = k 99 (.putfield 18, 3, 0, []) lv st σ c z := rfl
theorem go_E_cutTo_102 : g_go c_E_cutTo K k 102 lv st σ c z = k 102 (.iload 4, 2, 0, []) lv st σ c z := rfl
theorem go_E_cutTo_104 : g_go c_E_cutTo K k 104 lv st σ c z = k 104 (.ireturn, 1, 0, []) lv st σ c z := rfl
theorem go_L_init_0 : g_go c_L_init K k 0 lv st σ c z = k 0 (.aload_n 0, 1, 0, []) lv st σ c z := rfl
theorem at_L_init_0 : g_at c_L_init k 0 lv st σ c z = k 0 (.aload_n 0, 1, 0, []) lv st σ c z := rfl
theorem go_L_init_1 : g_go c_L_init K k 1 lv st σ c z = k 1 (.invokespecial 3, 3, 0, []) lv st σ c z := rfl
theorem go_L_init_4 : g_go c_L_init K k 4 lv st σ c z = k 4 (.aload_n 0, 1, 0, []) lv st σ c z := rfl
theorem go_L_init_5 : g_go c_L_init K k 5 lv st σ c z = k 5 (.bipush 20, 2, 20, []) lv st σ c z := rfl
theorem go_L_init_7 : g_go c_L_init K k 7 lv st σ c z = k 7 (.newarray .int, 2, 0, []) lv st σ c z := rfl
theorem go_L_init_9 : g_go c_L_init K k 9 lv st σ c z = k 9 (.putfield 9, 3, 0, []) lv st σ c z := rfl
theorem go_L_init_12 : g_go c_L_init K k 12 lv st σ c z = k 12 (.aload_n 0, 1, 0, []) lv st σ c z := rfl
theorem go_L_init_13 : g_go c_L_init K k 13 lv st σ c z = k 13 (.bipush 20, 2, 20, []) lv st σ c z := rfl
theorem go_L_init_15 : g_go c_L_init K k 15 lv st σ c z = k 15 (.newarray .boolean, 2, 0, []) lv st σ c z := rfl
theorem go_L_init_17 : g_go c_L_init K k 17 lv st σ c z = k 17 (.putfield 15, 3, 0, []) lv st σ c z := rfl
theorem go_L_init_20 : g_go c_L_init K k 20 lv st σ c z = k 20 (.aload_n 0, 1, 0, []) lv st σ c z := rfl
theorem go_L_init_21 : g_go c_L_init K k 21 lv st σ c z = k 21 (.iconst 0, 1, 0, []) lv st σ c z := rfl
theorem go_L_init_22 : g_go c_L_init K k 22 lv st σ c z = k 22 (.putfield 19, 3, 0, []) lv st σ c z := rfl
theorem go_L_init_25 : g_go c_L_init K k 25 lv st σ c z = k 25 (.aload_n 0, 1, 0, []) lv st σ c z := rfl
theorem go_L_init_26 : g_go c_L_init K k 26 lv st σ c z = k 26 (.iconst 0, 1, 0, []) lv st σ c z := rfl
theorem go_L_init_27 : g_go c_L_init K k 27 lv st σ c z = k 27 (.putfield 23, 3, 0, []) lv st σ c z := rfl
theorem go_L_init_30 : g_go c_L_init K k 30 lv st σ c z = k 30 (.return_, 1, 0, []) lv st σ c z := rfl
theorem go_L_ask_0 : g_go c_L_ask K k 0 lv st σ c z = k 0 (.aload_n 0, 1, 0, []) lv st σ c z := rfl
theorem at_L_ask_0 : g_at c_L_ask k 0 lv st σ c z = k 0 (.aload_n 0, 1, 0, []) lv st σ c z := rfl
theorem go_L_ask_1 : g_go c_L_ask K k 1 lv st σ c z = k 1 (.iload_n 1, 1, 0, []) lv st σ c z := rfl
theorem go_L_ask_2 : g_go c_L_ask K k 2 lv st σ c z = k 2 (.invokevirtual 26, 3, 0, []) lv st σ c z := rfl
theorem go_L_ask_5 : g_go c_L_ask K k 5 lv st σ c z = k 5 (.iconst (-1), 1, (-1), []) lv st σ c z := rfl
theorem go_L_ask_6 : g_go c_L_ask K k 6 lv st σ c z = k 6 (.if_icmp .ne 12, 3, 0, [(0, 18)]) lv st σ c z := rfl
theorem go_L_ask_9 : g_go c_L_ask K k 9 lv st σ c z = k 9 (.aload_n 0, 1, 0, []) lv st σ c z := rfl
theorem go_L_ask_10 : g_go c_L_ask K k 10 lv st σ c z = k 10 (.getfield 19, 3, 0, []) lv st σ c z := rfl
theorem go_L_ask_13 : g_go c_L_ask K k 13 lv st σ c z = k 13 (.bipush 20, 2, 20, []) lv st σ c z := rfl
theorem go_L_ask_15 : g_go c_L_ask K k 15 lv st σ c z = k 15 (.if_icmp .lt 6, 3, 0, [(0, 21)]) lv st σ c z := rfl
theorem go_L_ask_18 : g_go c_L_ask K k 18 lv st σ c z = k 18 (.bipush (-5), 2, (-5), []) lv st σ c z := rfl
theorem go_L_ask_20 : g_go c_L_ask K k 20 lv st σ c z = k 20 (.ireturn, 1, 0, []) lv st σ c z := rfl
theorem go_L_ask_21 : g_go c_L_ask K k 21 lv st σ c z = k 21 (.aload_n 0, 1, 0, []) lv st σ c z := rfl
theorem go_L_ask_22 : g_go c_L_ask K k 22 lv st σ c z = k 22 (.getfield 9, 3, 0, []) lv st σ c z := rfl
theorem go_L_ask_25 : g_go c_L_ask K k 25 lv st σ c z = k 25 (.aload_n 0, 1, 0, []) lv st σ c z := rfl
theorem go_L_ask_26 : g_go c_L_ask K k 26 lv st σ c z = k 26 (.getfield 19, 3, 0, []) lv st σ c z := rfl
theorem go_L_ask_29 : g_go c_L_ask K k 29 lv st σ c z = k 29 (.iload_n 1, 1, 0, []) lv st σ c z := rfl
theorem go_L_ask_30 : g_go c_L_ask K k 30 lv st σ c z = k 30 (.iastore, 1, 0, []) lv st σ c z := rfl
theorem go_L_ask_31 : g_go c_L_ask K k 31 lv st σ c z = k 31 (.aload_n 0, 1, 0, []) lv st σ c z := rfl
theorem go_L_ask_32 : g_go c_L_ask K k 32 lv st σ c z = k 32 (.getfield 15, 3, 0, []) lv st σ c z := rfl
theorem go_L_ask_35 : g_go c_L_ask K k 35 lv st σ c z = k 35 (.aload_n 0, 1, 0, []) lv st σ c z := rfl
theorem go_L_ask_36 : g_go c_L_ask K k 36 lv st σ c z = k 36 (.getfield 19, 3, 0, []) lv st σ c z := rfl
theorem go_L_ask_39 : g_go c_L_ask K k 39 lv st σ c z = k 39 (.iload_n 2, 1, 0, []) lv st σ c z := rfl
theorem go_L_ask_40 : g_go c_L_ask K k 40 lv st σ c z = k 40 (.bastore, 1, 0, []) lv st σ c z := rfl
theorem go_L_ask_41 : g_go c_L_ask K k 41 lv st σ c z = k 41 (.aload_n 0, 1, 0, []) lv st σ c z := rfl
theorem go_L_ask_42 : g_go c_L_ask K k 42 lv st σ c z = k 42 (.dup, 1, 0, []) lv st σ c z := rfl
theorem go_L_ask_43 : g_go c_L_ask K k 43 lv st σ c z = k 43 (.getfield 19, 3, 0, []) lv st σ c z := rfl
theorem go_L_ask_46 : g_go c_L_ask K k 46 lv st σ c z = k 46 (.iconst 1, 1, 1, []) lv st σ c z := rfl
theorem go_L_ask_47 : g_go c_L_ask K k 47 lv st σ c z = k 47 (.iadd, 1, 0, []) lv st σ c z := rfl
theorem go_L_ask_48 : g_go c_L_ask K k 48 lv st σ c z = k 48 (.putfield 19, 3, 0, []) lv st σ c z := rfl
theorem go_L_ask_51 : g_go c_L_ask K k 51 lv st σ c z = k 51 (.aload_n 0, 1, 0, []) lv st σ c z := rfl
theorem go_L_ask_52 : g_go c_L_ask K k 52 lv st σ c z = k 52 (.invokevirtual 30, 3, 0, []) lv st σ c z := rfl
theorem go_L_ask_55 : g_go c_L_ask K k 55 lv st σ c z = k 55 (.aload_n 0, 1, 0, []) lv st σ c z := rfl
theorem go_L_ask_56 : g_go c_L_ask K k 56 lv st σ c z = k 56 (.getfield 23, 3, 0, []) lv st σ c z := rfl
theorem go_L_ask_59 : g_go c_L_ask K k 59 lv st σ c z = k 59 (.aload_n 0, 1, 0, []) lv st σ c z := rfl
theorem go_L_ask_60 : g_go c_L_ask K k 60 lv st σ c z = k 60 (.getfield 19, 3, 0, []) lv st σ c z := rfl
theorem go_L_ask_63 : g_go c_L_ask K k 63 lv st σ c z = k 63 (.if_icmp .ne 7, 3, 0, [(0, 70)]) lv st σ c z := rfl
theorem go_L_ask_66 : g_go c_L_ask K k 66 lv st σ c z = k 66 (.iconst 1, 1, 1, []) lv st σ c z := rfl
theorem go_L_ask_67 : g_go c_L_ask K k 67 lv st σ c z = k 67 (.goto 4, 3, 0, [(0, 71)]) lv st σ c z := rfl
theorem go_L_ask_70 : g_go c_L_ask K k 70 lv st σ c z = k 70 (.iconst 0, 1, 0, []) lv st σ c z := rfl
theorem go_L_ask_71 : g_go c_L_ask K k 71 lv st σ c z = k 71 (.ireturn, 1, 0, []) lv st σ c z := rfl
theorem go_L_drop_0 : g_go c_L_drop K k 0 lv st σ c z = k 0 (.aload_n 0, 1, 0, []) lv st σ c z := rfl
theorem at_L_drop_0 : g_at c_L_drop k 0 lv st σ c z = k 0 (.aload_n 0, 1, 0, []) lv st σ c z := rfl
theorem go_L_drop_1 : g_go c_L_drop K k 1 lv st σ c z = k 1 (.iload_n 1, 1, 0, []) lv st σ c z := rfl
theorem go_L_drop_2 : g_go c_L_drop K k 2 lv st σ c z = k 2 (.invokevirtual 26, 3, 0, []) lv st σ c z := rfl
theorem go_L_drop_5 : g_go c_L_drop K k 5 lv st σ c z = k 5 (.istore_n 2, 1, 0, []) lv st σ c z := rfl
theorem go_L_drop_6 : g_go c_L_drop K k 6 lv st σ c z = k 6 (.iload_n 2, 1, 0, []) lv st σ c z := rfl
theorem go_L_drop_7 : g_go c_L_drop K k 7 lv st σ c z = k 7 (.iconst (-1), 1, (-1), []) lv st σ c z := rfl
theorem go_L_drop_8 : g_go c_L_drop K k 8 lv st σ c z = k 8 (.if_icmp .ne 5, 3, 0, [(0, 13)]) lv st σ c z := rfl
theorem go_L_drop_11 : g_go c_L_drop K k 11 lv st σ c z = k 11 (.iconst 0, 1, 0, []) lv st σ c z := rfl
theorem go_L_drop_12 : g_go c_L_drop K k 12 lv st σ c z = k 12 (.ireturn, 1, 0, []) lv st σ c z := rfl
theorem go_L_drop_13 : g_go c_L_drop K k 13 lv st σ c z = k 13 (.iload_n 2, 1, 0, []) lv st σ c z := rfl
theorem go_L_drop_14 : g_go c_L_drop K k 14 lv st σ c z = k 14 (.aload_n 0, 1, 0, []) lv st σ c z := rfl
theorem go_L_drop_15 : g_go c_L_drop K k 15 lv st σ c z = k 15 (.getfield 23, 3, 0, []) lv st σ c z := rfl
theorem go_L_drop_18 : g_go c_L_drop K k 18 lv st σ c z = k 18 (.if_icmp .ge 7, 3, 0, [(0, 25)]) lv st σ c z := rfl
theorem go_L_drop_21 : g_go c_L_drop K k 21 lv st σ c z = k 21 (.iconst 1, 1, 1, []) lv st σ c z := rfl
theorem go_L_drop_22 : g_go c_L_drop K k 22 lv st σ c z = k 22 (.goto 4, 3, 0, [(0, 26)]) lv st σ c z := rfl
theorem go_L_drop_25 : g_go c_L_drop K k 25 lv st σ c z = k 25 (.iconst 0, 1, 0, []) lv st σ c z := rfl
theorem go_L_drop_26 : g_go c_L_drop K k 26 lv st σ c z = k 26 (.istore_n 3, 1, 0, []) lv st σ c z := rfl
theorem go_L_drop_27 : g_go c_L_drop K k 27 lv st σ c z = k 27 (.iload_n 2, 1, 0, []) lv st σ c z := rfl
theorem go_L_drop_28 : g_go c_L_drop K k 28 lv st σ c z = k 28 (.istore 4, 2, 0, []) lv st σ c z := rfl
theorem go_L_drop_30 : g_go c_L_drop K k 30 lv st σ c z = K 30 (lv.take 5) st σ c z := rfl
theorem at_L_drop_30 : g_at c_L_drop k 30 lv st σ c z = k 30 (.iload 4, 2, 0, []) lv st σ c z := rfl
theorem go_L_drop_32 : g_go c_L_drop K k 32 lv st σ c z = k 32 (.iconst 1, 1, 1, []) lv st σ c z := rfl
theorem go_L_drop_33 : g_go c_L_drop K k 33 lv st σ c z = k 33 (.iadd, 1, 0, []) lv st σ c z := rfl
theorem go_L_drop_34 : g_go c_L_drop K k 34 lv st σ c z = k 34 (.aload_n 0, 1, 0, []) lv st σ c z := rfl
theorem go_L_drop_35 : g_go c_L_drop K k 35 lv st σ c z = k 35 (.getfield 19, 3, 0, []) lv st σ c z := rfl
theorem go_L_drop_38 : g_go c_L_drop K k 38 lv st σ c z = k 38 (.if_icmp .ge 41, 3, 0, [(0, 79)]) lv st σ c z := rfl
theorem go_L_drop_41 : g_go c_L_drop K k 41 lv st σ c z = k 41 (.aload_n 0, 1, 0, []) lv st σ c z := rfl
theorem go_L_drop_42 : g_go c_L_drop K k 42 lv st σ c z = k 42 (.getfield 9, 3, 0, []) lv st σ c z := rfl
theorem go_L_drop_45 : g_go c_L_drop K k 45 lv st σ c z = k 45 (.iload 4, 2, 0, []) lv st σ c z := rfl
theorem go_L_drop_47 : g_go c_L_drop K k 47 lv st σ c z = k 47 (.aload_n 0, 1, 0, []) lv st σ c z := rfl
theorem go_L_drop_48 : g_go c_L_drop K k 48 lv st σ c z = k 48 (.getfield 9, 3, 0, []) lv st σ c z := rfl
theorem go_L_drop_51 : g_go c_L_drop K k 51 lv st σ c z = k 51 (.iload 4, 2, 0, []) lv st σ c z := rfl
theorem go_L_drop_53 : g_go c_L_drop K k 53 lv st σ c z = k 53 (.iconst 1, 1, 1, []) lv st σ c z := rfl
theorem go_L_drop_54 : g_go c_L_drop K k 54 lv st σ c z = k 54 (.iadd, 1, 0, []) lv st σ c z := rfl
theorem go_L_drop_55 : g_go c_L_drop K k 55 lv st σ c z = k 55 (.iaload, 1, 0, []) lv st σ c z := rfl
theorem go_L_drop_56 : g_go c_L_drop K k 56 lv st σ c z = k 56 (.iastore, 1, 0, []) lv st σ c z := rfl
theorem go_L_drop_57 : g_go c_L_drop K k 57 lv st σ c z = k 57 (.aload_n 0, 1, 0, []) lv st σ c z := rfl
theorem go_L_drop_58 : g_go c_L_drop K k 58 lv st σ c z = k 58 (.getfield 15, 3, 0, []) lv st σ c z := rfl
theorem go_L_drop_61 : g_go c_L_drop K k 61 lv st σ c z = k 61 (.iload 4, 2, 0, []) lv st σ c z := rfl
theorem go_L_drop_63 : g_go c_L_drop K k 63 lv st σ c z = k 63 (.aload_n 0, 1, 0, []) lv st σ c z := rfl
theorem go_L_drop_64 : g_go c_L_drop K k 64 lv st σ c z = k 64 (.getfield 15, 3, 0, []) lv st σ c z := rfl
theorem go_L_drop_67 : g_go c_L_drop K k 67 lv st σ c z = k 67 (.iload 4, 2, 0, []) lv st σ c z := rfl
theorem go_L_drop_69 : g_go c_L_drop K k 69 lv st σ c z = k 69 (.iconst 1, 1, 1, []) lv st σ c z := rfl
theorem go_L_drop_70 : g_go c_L_drop K k 70 lv st σ c z = k 70 (.iadd, 1, 0, []) lv st σ c z := rfl
theorem go_L_drop_71 : g_go c_L_drop K k 71 lv st σ c z = k 71 (.baload, 1, 0, []) lv st σ c z := rfl
theorem go_L_drop_72 : g_go c_L_drop K k 72 lv st σ c z = k 72 (.bastore, 1, 0, []) lv st σ c z := rfl
theorem go_L_drop_73 : g_go c_L_drop K k 73 lv st σ c z = k 73 (.iinc 4 1, 3, 1, []) lv st σ c z := rfl
theorem go_L_drop_76 : g_go c_L_drop K k 76 lv st σ c z = k 76 (.goto (-46), 3, 0, [(0, 30)]) lv st σ c z := rfl
theorem go_L_drop_79 : g_go c_L_drop K k 79 lv st σ c z = k 79 (.aload_n 0, 1, 0, []) lv st σ c z := rfl
theorem go_L_drop_80 : g_go c_L_drop K k 80 lv st σ c z = k 80 (.dup, 1, 0, []) lv st σ c z := rfl
theorem go_L_drop_81 : g_go c_L_drop K k 81 lv st σ c z = k 81 (.getfield 19, 3, 0, []) lv st σ c z := rfl
theorem go_L_drop_84 : g_go c_L_drop K k 84 lv st σ c z = k 84 (.iconst 1, 1, 1, []) lv st σ c z := rfl
theorem go_L_drop_85 : g_go c_L_drop K k 85 lv st σ c z = k 85 (.isub, 1, 0, []) lv st σ c z := rfl
theorem go_L_drop_86 : g_go c_L_drop K k 86 lv st σ c z = k 86 (.putfield 19, 3, 0, []) lv st σ c z := rfl
theorem go_L_drop_89 : g_go c_L_drop K k 89 lv st σ c z = k 89 (.aload_n 0, 1, 0, []) lv st σ c z := rfl
theorem go_L_drop_90 : g_go c_L_drop K k 90 lv st σ c z = k 90 (.dup, 1, 0, []) lv st σ c z := rfl
theorem go_L_drop_91 : g_go c_L_drop K k 91 lv st σ c z = k 91 (.getfield 23, 3, 0, []) lv st σ c z := rfl
theorem go_L_drop_94 : g_go c_L_drop K k 94 lv st σ c z = k 94 (.iload_n 3, 1, 0, []) lv st σ c z := rfl
theorem go_L_drop_95 : g_go c_L_drop K k 95 lv st σ c z = k 95 (.isub, 1, 0, []) lv st σ c z := rfl
theorem go_L_drop_96 : g_go c_L_drop K k 96 lv st σ c z = k 96 (.putfield 23, 3, 0, []) lv st σ c z := rfl
theorem go_L_drop_99 : g_go c_L_drop K k 99 lv st σ c z = k 99 (.aload_n 0, 1, 0, []) lv st σ c z := rfl
theorem go_L_drop_100 : g_go c_L_drop K k 100 lv st σ c z = k 100 (.invokevirtual 30, 3, 0, []) lv st σ c z := rfl
theorem go_L_drop_103 : g_go c_L_drop K k 103 lv st σ c z = k 103 (.iload_n 3, 1, 0, []) lv st σ c z := rfl
theorem go_L_drop_104 : g_go c_L_drop K k 104 lv st σ c z = k 104 (.ireturn, 1, 0, []) lv st σ c z := rfl
theorem go_L_admit_0 : g_go c_L_admit K k 0 lv st σ c z = K 0 (lv.take 1) st σ c z := rfl
theorem at_L_admit_0 : g_at c_L_admit k 0 lv st σ c z = k 0 (.aload_n 0, 1, 0, []) lv st σ c z := rfl
theorem go_L_admit_1 : g_go c_L_admit K k 1 lv st σ c z = k 1 (.getfield 23, 3, 0, []) lv st σ c z := rfl
theorem go_L_admit_4 : g_go c_L_admit K k 4 lv st σ c z = k 4 (.aload_n 0, 1, 0, []) lv st σ c z := rfl
theorem go_L_admit_5 : g_go c_L_admit K k 5 lv st σ c z = k 5 (.getfield 19, 3, 0, []) lv st σ c z := rfl
theorem go_L_admit_8 : g_go c_L_admit K k 8 lv st σ c z = k 8 (.if_icmp .ge 32, 3, 0, [(0, 40)]) lv st σ c z := rfl
theorem go_L_admit_11 : g_go c_L_admit K k 11 lv st σ c z = k 11 (.aload_n 0, 1, 0, []) lv st σ c z := rfl
theorem go_L_admit_12 : g_go c_L_admit K k 12 lv st σ c z = k 12 (.aload_n 0, 1, 0, []) lv st σ c z := rfl
theorem go_L_admit_13 : g_go c_L_admit K k 13 lv st σ c z = k 13 (.getfield 15, 3, 0, []) lv st σ c z := rfl
theorem go_L_admit_16 : g_go c_L_admit K k 16 lv st σ c z = k 16 (.aload_n 0, 1, 0, []) lv st σ c z := rfl
theorem go_L_admit_17 : g_go c_L_admit K k 17 lv st σ c z = k 17 (.getfield 23, 3, 0, []) lv st σ c z := rfl
theorem go_L_admit_20 : g_go c_L_admit K k 20 lv st σ c z = k 20 (.baload, 1, 0, []) lv st σ c z := rfl
theorem go_L_admit_21 : g_go c_L_admit K k 21 lv st σ c z = k 21 (.invokevirtual 33, 3, 0, []) lv st σ c z := rfl
theorem go_L_admit_24 : g_go c_L_admit K k 24 lv st σ c z = k 24 (.ifCond .eq 16, 3, 0, [(0, 40)]) lv st σ c z := rfl
theorem go_L_admit_27 : g_go c_L_admit K k 27 lv st σ c z = k 27 (.aload_n 0, 1, 0, []) lv st σ c z := rfl
theorem go_L_admit_28 : g_go c_L_admit K k 28 lv st σ c z = k 28 (.dup, 1, 0, []) lv st σ c z := rfl
theorem go_L_admit_29 : g_go c_L_admit K k 29 lv st σ c z = k 29 (.getfield 23, 3, 0, []) lv st σ c z := rfl
theorem go_L_admit_32 : g_go c_L_admit K k 32 lv st σ c z = k 32 (.iconst 1, 1, 1, []) lv st σ c z := rfl
theorem go_L_admit_33 : g_go c_L_admit K k 33 lv st σ c z = k 33 (.iadd, 1, 0, []) lv st σ c z := rfl
theorem go_L_admit_34 : g_go c_L_admit K k 34 lv st σ c z = k 34 (.putfield 23, 3, 0, []) lv st σ c z := rfl
theorem go_L_admit_37 : g_go c_L_admit K k 37 lv st σ c z = k 37 (.goto (-37), 3, 0, [(0, 0)]) lv st σ c z := rfl
theorem go_L_admit_40 : g_go c_L_admit K k 40 lv st σ c z = k 40 (.return_, 1, 0, []) lv st σ c z := rfl
theorem go_L_canHold_0 : g_go c_L_canHold K k 0 lv st σ c z = k 0 (.aload_n 0, 1, 0, []) lv st σ c z := rfl
theorem at_L_canHold_0 : g_at c_L_canHold k 0 lv st σ c z = k 0 (.aload_n 0, 1, 0, []) lv st σ c z := rfl
theorem go_L_canHold_1 : g_go c_L_canHold K k 1 lv st σ c z = k 1 (.getfield 23, 3, 0, []) lv st σ c z := rfl
theorem go_L_canHold_4 : g_go c_L_canHold K k 4 lv st σ c z = k 4 (.ifCond .eq 16, 3, 0, [(0, 20)]) lv st σ c z := rfl
theorem go_L_canHold_7 : g_go c_L_canHold K k 7 lv st σ c z = k 7 (.iload_n 1, 1, 0, []) lv st σ c z := rfl
theorem go_L_canHold_8 : g_go c_L_canHold K k 8 lv st σ c z = k 8 (.ifCond .ne 16, 3, 0, [(0, 24)]) lv st σ c z := rfl
theorem go_L_canHold_11 : g_go c_L_canHold K k 11 lv st σ c z = k 11 (.aload_n 0, 1, 0, []) lv st σ c z := rfl
theorem go_L_canHold_12 : g_go c_L_canHold K k 12 lv st σ c z = k 12 (.getfield 15, 3, 0, []) lv st σ c z := rfl
theorem go_L_canHold_15 : g_go c_L_canHold K k 15 lv st σ c z = k 15 (.iconst 0, 1, 0, []) lv st σ c z := rfl
theorem go_L_canHold_16 : g_go c_L_canHold K k 16 lv st σ c z = k 16 (.baload, 1, 0, []) lv st σ c z := rfl
theorem go_L_canHold_17 : g_go c_L_canHold K k 17 lv st σ c z = k 17 (.ifCond .ne 7, 3, 0, [(0, 24)]) lv st σ c z := rfl
theorem go_L_canHold_20 : g_go c_L_canHold K k 20 lv st σ c z = k 20 (.iconst 1, 1, 1, []) lv st σ c z := rfl
theorem go_L_canHold_21 : g_go c_L_canHold K k 21 lv st σ c z = k 21 (.goto 4, 3, 0, [(0, 25)]) lv st σ c z := rfl
theorem go_L_canHold_24 : g_go c_L_canHold K k 24 lv st σ c z = k 24 (.iconst 0, 1, 0, []) lv st σ c z := rfl
theorem go_L_canHold_25 : g_go c_L_canHold K k 25 lv st σ c z = k 25 (.ireturn, 1, 0, []) lv st σ c z := rfl
theorem go_L_placeOf_0 : g_go c_L_placeOf K k 0 lv st σ c z = k 0 (.iconst 0, 1, 0, []) lv st σ c z := rfl
theorem at_L_placeOf_0 : g_at c_L_placeOf k 0 lv st σ c z = k 0 (.iconst 0, 1, 0, []) lv st σ c z := rfl
theorem go_L_placeOf_1 : g_go c_L_placeOf K k 1 lv st σ c z = k 1 (.istore_n 2, 1, 0, []) lv st σ c z := rfl
theorem go_L_placeOf_2 : g_go c_L_placeOf K k 2 lv st σ c z = K 2 (lv.take 3) st σ c z := rfl
theorem at_L_placeOf_2 : g_at c_L_placeOf k 2 lv st σ c z = k 2 (.iload_n 2, 1, 0, []) lv st σ c z := rfl
theorem go_L_placeOf_3 : g_go c_L_placeOf K k 3 lv st σ c z = k 3 (.aload_n 0, 1, 0, []) lv st σ c z := rfl
theorem go_L_placeOf_4 : g_go c_L_placeOf K k 4 lv st σ c z = k 4 (.getfield 19, 3, 0, []) lv st σ c z := rfl
theorem go_L_placeOf_7 : g_go c_L_placeOf K k 7 lv st σ c z = k 7 (.if_icmp .ge 21, 3, 0, [(0, 28)]) lv st σ c z := rfl
theorem go_L_placeOf_10 : g_go c_L_placeOf K k 10 lv st σ c z = k 10 (.aload_n 0, 1, 0, []) lv st σ c z := rfl
theorem go_L_placeOf_11 : g_go c_L_placeOf K k 11 lv st σ c z = k 11 (.getfield 9, 3, 0, []) lv st σ c z := rfl
theorem go_L_placeOf_14 : g_go c_L_placeOf K k 14 lv st σ c z = k 14 (.iload_n 2, 1, 0, []) lv st σ c z := rfl
theorem go_L_placeOf_15 : g_go c_L_placeOf K k 15 lv st σ c z = k 15 (.iaload, 1, 0, []) lv st σ c z := rfl
theorem go_L_placeOf_16 : g_go c_L_placeOf K k 16 lv st σ c z = k 16 (.iload_n 1, 1, 0, []) lv st σ c z := rfl
theorem go_L_placeOf_17 : g_go c_L_placeOf K k 17 lv st σ c z = k 17 (.if_icmp .ne 5, 3, 0, [(0, 22)]) lv st σ c z := rfl
theorem go_L_placeOf_20 : g_go c_L_placeOf K k 20 lv st σ c z = k 20 (.iload_n 2, 1, 0, []) lv st σ c z := rfl
theorem go_L_placeOf_21 : g_go c_L_placeOf K k 21 lv st σ c z = k 21 (.ireturn, 1, 0, []) lv st σ c z := rfl
theorem go_L_placeOf_22 : g_go c_L_placeOf K k 22 lv st σ c z = k 22 (.iinc 2 1, 3, 1, []) lv st σ c z := rfl
theorem go_L_placeOf_25 : g_go c_L_placeOf K k 25 lv st σ c z = k 25 (.goto (-23), 3, 0, [(0, 2)]) lv st σ c z := rfl
theorem go_L_placeOf_28 : g_go c_L_placeOf K k 28 lv st σ c z = k 28 (.iconst (-1), 1, (-1), []) lv st σ c z := rfl
theorem go_L_placeOf_29 : g_go c_L_placeOf K k 29 lv st σ c z = k 29 (.ireturn, 1, 0, []) lv st σ c z := rfl
theorem go_V_init_0 : g_go c_V_init K k 0 lv st σ c z = k 0 (.aload_n 0, 1, 0, []) lv st σ c z := rfl
theorem at_V_init_0 : g_at c_V_init k 0 lv st σ c z = k 0 (.aload_n 0, 1, 0, []) lv st σ c z := rfl
theorem go_V_init_1 : g_go c_V_init K k 1 lv st σ c z = k 1 (.invokespecial 3, 3, 0, []) lv st σ c z := rfl
theorem go_V_init_4 : g_go c_V_init K k 4 lv st σ c z = k 4 (.aload_n 0, 1, 0, []) lv st σ c z := rfl
theorem go_V_init_5 : g_go c_V_init K k 5 lv st σ c z = k 5 (.iconst 1, 1, 1, []) lv st σ c z := rfl
theorem go_V_init_6 : g_go c_V_init K k 6 lv st σ c z = k 6 (.iload_n 1, 1, 0, []) lv st σ c z := rfl
theorem go_V_init_7 : g_go c_V_init K k 7 lv st σ c z = k 7 (.sipush 500, 3, 500, []) lv st σ c z := rfl
theorem go_V_init_10 : g_go c_V_init K k 10 lv st σ c z = k 10 (.invokestatic 9, 3, 0, []) lv st σ c z := rfl
theorem go_V_init_13 : g_go c_V_init K k 13 lv st σ c z = k 13 (.invokestatic 15, 3, 0, []) lv st σ c z := rfl
theorem go_V_init_16 : g_go c_V_init K k 16 lv st σ c z = k 16 (.newarray .boolean, 2, 0, []) lv st σ c z := rfl
theorem go_V_init_18 : g_go c_V_init K k 18 lv st σ c z = k 18 (.putfield 18, 3, 0, []) lv st σ c z := rfl
theorem go_V_init_21 : g_go c_V_init K k 21 lv st σ c z = k 21 (.return_, 1, 0, []) lv st σ c z := rfl
theorem go_V_firstRun_0 : g_go c_V_firstRun K k 0 lv st σ c z = k 0 (.iconst 0, 1, 0, []) lv st σ c z := rfl
theorem at_V_firstRun_0 : g_at c_V_firstRun k 0 lv st σ c z = k 0 (.iconst 0, 1, 0, []) lv st σ c z := rfl
theorem go_V_firstRun_1 : g_go c_V_firstRun K k 1 lv st σ c z = k 1 (.istore_n 2, 1, 0, []) lv st σ c z := rfl
theorem go_V_firstRun_2 : g_go c_V_firstRun K k 2 lv st σ c z = k 2 (.iconst 0, 1, 0, []) lv st σ c z := rfl
theorem go_V_firstRun_3 : g_go c_V_firstRun K k 3 lv st σ c z = k 3 (.istore_n 3, 1, 0, []) lv st σ c z := rfl
theorem go_V_firstRun_4 : g_go c_V_firstRun K k 4 lv st σ c z = K 4 (lv.take 4) st σ c z := rfl
theorem at_V_firstRun_4 : g_at c_V_firstRun k 4 lv st σ c z = k 4 (.iload_n 3, 1, 0, []) lv st σ c z := rfl
theorem go_V_firstRun_5 : g_go c_V_firstRun K k 5 lv st σ c z = k 5 (.aload_n 0, 1, 0, []) lv st σ c z := rfl
theorem go_V_firstRun_6 : g_go c_V_firstRun K k 6 lv st σ c z = k 6 (.getfield 18, 3, 0, []) lv st σ c z := rfl
theorem go_V_firstRun_9 : g_go c_V_firstRun K k 9 lv st σ c z = k 9 (.arraylength, 1, 0, []) lv st σ c z := rfl
theorem go_V_firstRun_10 : g_go c_V_firstRun K k 10 lv st σ c z = k 10 (.if_icmp .ge 37, 3, 0, [(0, 47)]) lv st σ c z := rfl
theorem go_V_firstRun_13 : g_go c_V_firstRun K k 13 lv st σ c z = k 13 (.aload_n 0, 1, 0, []) lv st σ c z := rfl
theorem go_V_firstRun_14 : g_go c_V_firstRun K k 14 lv st σ c z = k 14 (.getfield 18, 3, 0, []) lv st σ c z := rfl
theorem go_V_firstRun_17 : g_go c_V_firstRun K k 17 lv st σ c z = k 17 (.iload_n 3, 1, 0, []) lv st σ c z := rfl
theorem go_V_firstRun_18 : g_go c_V_firstRun K k 18 lv st σ c z = k 18 (.baload, 1, 0, []) lv st σ c z := rfl
theorem go_V_firstRun_19 : g_go c_V_firstRun K k 19 lv st σ c z = k 19 (.ifCond .eq 7, 3, 0, [(0, 26)]) lv st σ c z := rfl
theorem go_V_firstRun_22 : g_go c_V_firstRun K k 22 lv st σ c z = k 22 (.iconst 0, 1, 0, []) lv st σ c z := rfl
theorem go_V_firstRun_23 : g_go c_V_firstRun K k 23 lv st σ c z = k 23 (.goto 6, 3, 0, [(0, 29)]) lv st σ c z := rfl
theorem go_V_firstRun_26 : g_go c_V_firstRun K k 26 lv st σ c z = k 26 (.iload_n 2, 1, 0, []) lv st σ c z := rfl
theorem go_V_firstRun_27 : g_go c_V_firstRun K k 27 lv st σ c z = k 27 (.iconst 1, 1, 1, []) lv st σ c z := rfl
theorem go_V_firstRun_28 : g_go c_V_firstRun K k 28 lv st σ c z = k 28 (.iadd, 1, 0, []) lv st σ c z := rfl
theorem go_V_firstRun_29 : g_go c_V_firstRun K k 29 lv st σ c z = k 29 (.istore_n 2, 1, 0, []) lv st σ c z := rfl
theorem go_V_firstRun_30 : g_go c_V_firstRun K k 30 lv st σ c z = k 30 (.iload_n 2, 1, 0, []) lv st σ c z := rfl
theorem go_V_firstRun_31 : g_go c_V_firstRun K k 31 lv st σ c z = k 31 (.iload_n 1, 1, 0, []) lv st σ c z := rfl
theorem go_V_firstRun_32 : g_go c_V_firstRun K k 32 lv st σ c z = k 32 (.if_icmp .ne 9, 3, 0, [(0, 41)]) lv st σ c z := rfl
theorem go_V_firstRun_35 : g_go c_V_firstRun K k 35 lv st σ c z = k 35 (.iload_n 3, 1, 0, []) lv st σ c z := rfl
theorem go_V_firstRun_36 : g_go c_V_firstRun K k 36 lv st σ c z = k 36 (.iload_n 1, 1, 0, []) lv st σ c z := rfl
theorem go_V_firstRun_37 : g_go c_V_firstRun K k 37 lv st σ c z = k 37 (.isub, 1, 0, []) lv st σ c z := rfl
theorem go_V_firstRun_38 : g_go c_V_firstRun K k 38 lv st σ c z = k 38 (.iconst 1, 1, 1, []) lv st σ c z := rfl
theorem go_V_firstRun_39 : g_go c_V_firstRun K k 39 lv st σ c z = k 39 (.iadd, 1, 0, []) lv st σ c z := rfl
theorem go_V_firstRun_40 : g_go c_V_firstRun K k 40 lv st σ c z = k 40 (.ireturn, 1, 0, []) lv st σ c z := rfl
theorem go_V_firstRun_41 : g_go c_V_firstRun K k 41 lv st σ c z = k 41 (.iinc 3 1, 3, 1, []) lv st σ c z := rfl
theorem go_V_firstRun_44 : g_go c_V_firstRun K k 44 lv st σ c z = k 44 (.goto (-40), 3, 0, [(0, 4)]) lv st σ c z := rfl
theorem go_V_firstRun_47 : g_go c_V_firstRun K k 47 lv st σ c z = k 47 (.iconst (-1), 1, (-1), []) lv st σ c z := rfl
theorem go_V_firstRun_48 : g_go c_V_firstRun K k 48 lv st σ c z = k 48 (.ireturn, 1, 0, []) lv st σ c z := rfl
theorem go_V_longestRun_0 : g_go c_V_longestRun K k 0 lv st σ c z = k 0 (.iconst 0, 1, 0, []) lv st σ c z := rfl
theorem at_V_longestRun_0 : g_at c_V_longestRun k 0 lv st σ c z = k 0 (.iconst 0, 1, 0, []) lv st σ c z := rfl
theorem go_V_longestRun_1 : g_go c_V_longestRun K k 1 lv st σ c z = k 1 (.istore_n 1, 1, 0, []) lv st σ c z := rfl
theorem go_V_longestRun_2 : g_go c_V_longestRun K k 2 lv st σ c z = k 2 (.iconst 0, 1, 0, []) lv st σ c z := rfl
theorem go_V_longestRun_3 : g_go c_V_longestRun K k 3 lv st σ c z = k 3 (.istore_n 2, 1, 0, []) lv st σ c z := rfl
theorem go_V_longestRun_4 : g_go c_V_longestRun K k 4 lv st σ c z = k 4 (.iconst 0, 1, 0, []) lv st σ c z := rfl
theorem go_V_longestRun_5 : g_go c_V_longestRun K k 5 lv st σ c z = k 5 (.istore_n 3, 1, 0, []) lv st σ c z := rfl
theorem go_V_longestRun_6 : g_go c_V_longestRun K k 6 lv st σ c z = K 6 (lv.take 4) st σ c z := rfl
theorem at_V_longestRun_6 : g_at c_V_longestRun k 6 lv st σ c z = k 6 (.iload_n 3, 1, 0, []) lv st σ c z := rfl
theorem go_V_longestRun_7 : g_go c_V_longestRun K k 7 lv st σ c z = k 7 (.aload_n 0, 1, 0, []) lv st σ c z := rfl
theorem go_V_longestRun_8 : g_go c_V_longestRun K k 8 lv st σ c z = k 8 (.getfield 18, 3, 0, []) lv st σ c z := rfl
theorem go_V_longestRun_11 : g_go c_V_longestRun K k 11 lv st σ c z = k 11 (.arraylength, 1, 0, []) lv st σ c z := rfl
theorem go_V_longestRun_12 : g_go c_V_longestRun K k 12 lv st σ c z = k 12 (.if_icmp .ge 32, 3, 0, [(0, 44)]) lv st σ c z := rfl
theorem go_V_longestRun_15 : g_go c_V_longestRun K k 15 lv st σ c z = k 15 (.aload_n 0, 1, 0, []) lv st σ c z := rfl
theorem go_V_longestRun_16 : g_go c_V_longestRun K k 16 lv st σ c z = k 16 (.getfield 18, 3, 0, []) lv st σ c z := rfl
theorem go_V_longestRun_19 : g_go c_V_longestRun K k 19 lv st σ c z = k 19 (.iload_n 3, 1, 0, []) lv st σ c z := rfl
theorem go_V_longestRun_20 : g_go c_V_longestRun K k 20 lv st σ c z = k 20 (.baload, 1, 0, []) lv st σ c z := rfl
theorem go_V_longestRun_21 : g_go c_V_longestRun K k 21 lv st σ c z = k 21 (.ifCond .eq 7, 3, 0, [(0, 28)]) lv st σ c z := rfl
theorem go_V_longestRun_24 : g_go c_V_longestRun K k 24 lv st σ c z = k 24 (.iconst 0, 1, 0, []) lv st σ c z := rfl
theorem go_V_longestRun_25 : g_go c_V_longestRun K k 25 lv st σ c z = k 25 (.goto 6, 3, 0, [(0, 31)]) lv st σ c z := rfl
theorem go_V_longestRun_28 : g_go c_V_longestRun K k 28 lv st σ c z = k 28 (.iload_n 2, 1, 0, []) lv st σ c z := rfl
theorem go_V_longestRun_29 : g_go c_V_longestRun K k 29 lv st σ c z = k 29 (.iconst 1, 1, 1, []) lv st σ c z := rfl
theorem go_V_longestRun_30 : g_go c_V_longestRun K k 30 lv st σ c z = k 30 (.iadd, 1, 0, []) lv st σ c z := rfl
theorem go_V_longestRun_31 : g_go c_V_longestRun K k 31 lv st σ c z = k 31 (.istore_n 2, 1, 0, []) lv st σ c z := rfl
theorem go_V_longestRun_32 : g_go c_V_longestRun K k 32 lv st σ c z = k 32 (.iload_n 1, 1, 0, []) lv st σ c z := rfl
theorem go_V_longestRun_33 : g_go c_V_longestRun K k 33 lv st σ c z = k 33 (.iload_n 2, 1, 0, []) lv st σ c z := rfl
theorem go_V_longestRun_34 : g_go c_V_longestRun K k 34 lv st σ c z = k 34 (.invokestatic 15, 3, 0, []) lv st σ c z := rfl
theorem go_V_longestRun_37 : g_go c_V_longestRun K k 37 lv st σ c z = k 37 (.istore_n 1, 1, 0, []) lv st σ c z := rfl
theorem go_V_longestRun_38 : g_go c_V_longestRun K k 38 lv st σ c z = k 38 (.iinc 3 1, 3, 1, []) lv st σ c z := rfl
theorem go_V_longestRun_41 : g_go c_V_longestRun K k 41 lv st σ c z = k 41 (.goto (-35), 3, 0, [(0, 6)]) lv st σ c z := rfl
theorem go_V_longestRun_44 : g_go c_V_longestRun K k 44 lv st σ c z = k 44 (.iload_n 1, 1, 0, []) lv st σ c z := rfl
theorem go_V_longestRun_45 : g_go c_V_longestRun K k 45 lv st σ c z = k 45 (.ireturn, 1, 0, []) lv st σ c z := rfl
theorem go_V_freeTracks_0 : g_go c_V_freeTracks K k 0 lv st σ c z = k 0 (.iconst 0, 1, 0, []) lv st σ c z := rfl
theorem at_V_freeTracks_0 : g_at c_V_freeTracks k 0 lv st σ c z = k 0 (.iconst 0, 1, 0, []) lv st σ c z := rfl
theorem go_V_freeTracks_1 : g_go c_V_freeTracks K k 1 lv st σ c z = k 1 (.istore_n 1, 1, 0, []) lv st σ c z := rfl
theorem go_V_freeTracks_2 : g_go c_V_freeTracks K k 2 lv st σ c z = k 2 (.iconst 0, 1, 0, []) lv st σ c z := rfl
theorem go_V_freeTracks_3 : g_go c_V_freeTracks K k 3 lv st σ c z = k 3 (.istore_n 2, 1, 0, []) lv st σ c z := rfl
theorem go_V_freeTracks_4 : g_go c_V_freeTracks K k 4 lv st σ c z = K 4 (lv.take 3) st σ c z := rfl
theorem at_V_freeTracks_4 : g_at c_V_freeTracks k 4 lv st σ c z = k 4 (.iload_n 2, 1, 0, []) lv st σ c z := rfl
theorem go_V_freeTracks_5 : g_go c_V_freeTracks K k 5 lv st σ c z = k 5 (.aload_n 0, 1, 0, []) lv st σ c z := rfl
theorem go_V_freeTracks_6 : g_go c_V_freeTracks K k 6 lv st σ c z = k 6 (.getfield 18, 3, 0, []) lv st σ c z := rfl
theorem go_V_freeTracks_9 : g_go c_V_freeTracks K k 9 lv st σ c z = k 9 (.arraylength, 1, 0, []) lv st σ c z := rfl
theorem go_V_freeTracks_10 : g_go c_V_freeTracks K k 10 lv st σ c z = k 10 (.if_icmp .ge 21, 3, 0, [(0, 31)]) lv st σ c z := rfl
theorem go_V_freeTracks_13 : g_go c_V_freeTracks K k 13 lv st σ c z = k 13 (.aload_n 0, 1, 0, []) lv st σ c z := rfl
theorem go_V_freeTracks_14 : g_go c_V_freeTracks K k 14 lv st σ c z = k 14 (.getfield 18, 3, 0, []) lv st σ c z := rfl
theorem go_V_freeTracks_17 : g_go c_V_freeTracks K k 17 lv st σ c z = k 17 (.iload_n 2, 1, 0, []) lv st σ c z := rfl
theorem go_V_freeTracks_18 : g_go c_V_freeTracks K k 18 lv st σ c z = k 18 (.baload, 1, 0, []) lv st σ c z := rfl
theorem go_V_freeTracks_19 : g_go c_V_freeTracks K k 19 lv st σ c z = k 19 (.ifCond .ne 6, 3, 0, [(0, 25)]) lv st σ c z := rfl
theorem go_V_freeTracks_22 : g_go c_V_freeTracks K k 22 lv st σ c z = k 22 (.iinc 1 1, 3, 1, []) lv st σ c z := rfl
theorem go_V_freeTracks_25 : g_go c_V_freeTracks K k 25 lv st σ c z = k 25 (.iinc 2 1, 3, 1, []) lv st σ c z := rfl
theorem go_V_freeTracks_28 : g_go c_V_freeTracks K k 28 lv st σ c z = k 28 (.goto (-24), 3, 0, [(0, 4)]) lv st σ c z := rfl
theorem go_V_freeTracks_31 : g_go c_V_freeTracks K k 31 lv st σ c z = k 31 (.iload_n 1, 1, 0, []) lv st σ c z := rfl
theorem go_V_freeTracks_32 : g_go c_V_freeTracks K k 32 lv st σ c z = k 32 (.ireturn, 1, 0, []) lv st σ c z := rfl
theorem go_V_take_0 : g_go c_V_take K k 0 lv st σ c z = k 0 (.aload_n 0, 1, 0, []) lv st σ c z := rfl
theorem at_V_take_0 : g_at c_V_take k 0 lv st σ c z = k 0 (.aload_n 0, 1, 0, []) lv st σ c z := rfl
theorem go_V_take_1 : g_go c_V_take K k 1 lv st σ c z = k 1 (.iload_n 1, 1, 0, []) lv st σ c z := rfl
theorem go_V_take_2 : g_go c_V_take K k 2 lv st σ c z = k 2 (.iload_n 2, 1, 0, []) lv st σ c z := rfl
theorem go_V_take_3 : g_go c_V_take K k 3 lv st σ c z = k 3 (.iconst 1, 1, 1, []) lv st σ c z := rfl
theorem go_V_take_4 : g_go c_V_take K k 4 lv st σ c z = k 4 (.invokevirtual 24, 3, 0, []) lv st σ c z := rfl
theorem go_V_take_7 : g_go c_V_take K k 7 lv st σ c z = k 7 (.return_, 1, 0, []) lv st σ c z := rfl
theorem go_V_giveBack_0 : g_go c_V_giveBack K k 0 lv st σ c z = k 0 (.aload_n 0, 1, 0, []) lv st σ c z := rfl
theorem at_V_giveBack_0 : g_at c_V_giveBack k 0 lv st σ c z = k 0 (.aload_n 0, 1, 0, []) lv st σ c z := rfl
theorem go_V_giveBack_1 : g_go c_V_giveBack K k 1 lv st σ c z = k 1 (.iload_n 1, 1, 0, []) lv st σ c z := rfl
theorem go_V_giveBack_2 : g_go c_V_giveBack K k 2 lv st σ c z = k 2 (.iload_n 2, 1, 0, []) lv st σ c z := rfl
theorem go_V_giveBack_3 : g_go c_V_giveBack K k 3 lv st σ c z = k 3 (.iconst 0, 1, 0, []) lv st σ c z := rfl
theorem go_V_giveBack_4 : g_go c_V_giveBack K k 4 lv st σ c z = k 4 (.invokevirtual 24, 3, 0, []) lv st σ c z := rfl
theorem go_V_giveBack_7 : g_go c_V_giveBack K k 7 lv st σ c z = k 7 (.return_, 1, 0, []) lv st σ c z := rfl
theorem go_V_mark_0 : g_go c_V_mark K k 0 lv st σ c z = k 0 (.iload_n 1, 1, 0, []) lv st σ c z := rfl
theorem at_V_mark_0 : g_at c_V_mark k 0 lv st σ c z = k 0 (.iload_n 1, 1, 0, []) lv st σ c z := rfl
theorem go_V_mark_1 : g_go c_V_mark K k 1 lv st σ c z = k 1 (.iload_n 2, 1, 0, []) lv st σ c z := rfl
theorem go_V_mark_2 : g_go c_V_mark K k 2 lv st σ c z = k 2 (.iadd, 1, 0, []) lv st σ c z := rfl
theorem go_V_mark_3 : g_go c_V_mark K k 3 lv st σ c z = k 3 (.aload_n 0, 1, 0, []) lv st σ c z := rfl
theorem go_V_mark_4 : g_go c_V_mark K k 4 lv st σ c z = k 4 (.getfield 18, 3, 0, []) lv st σ c z := rfl
theorem go_V_mark_7 : g_go c_V_mark K k 7 lv st σ c z = k 7 (.arraylength, 1, 0, []) lv st σ c z := rfl
theorem go_V_mark_8 : g_go c_V_mark K k 8 lv st σ c z = k 8 (.invokestatic 9, 3, 0, []) lv st σ c z := rfl
theorem go_V_mark_11 : g_go c_V_mark K k 11 lv st σ c z = k 11 (.istore 4, 2, 0, []) lv st σ c z := rfl
theorem go_V_mark_13 : g_go c_V_mark K k 13 lv st σ c z = k 13 (.iload_n 1, 1, 0, []) lv st σ c z := rfl
theorem go_V_mark_14 : g_go c_V_mark K k 14 lv st σ c z = k 14 (.iconst 0, 1, 0, []) lv st σ c z := rfl
theorem go_V_mark_15 : g_go c_V_mark K k 15 lv st σ c z = k 15 (.invokestatic 15, 3, 0, []) lv st σ c z := rfl
theorem go_V_mark_18 : g_go c_V_mark K k 18 lv st σ c z = k 18 (.istore 5, 2, 0, []) lv st σ c z := rfl
theorem go_V_mark_20 : g_go c_V_mark K k 20 lv st σ c z = K 20 (lv.take 6) st σ c z := rfl
theorem at_V_mark_20 : g_at c_V_mark k 20 lv st σ c z = k 20 (.iload 5, 2, 0, []) lv st σ c z := rfl
theorem go_V_mark_22 : g_go c_V_mark K k 22 lv st σ c z = k 22 (.iload 4, 2, 0, []) lv st σ c z := rfl
theorem go_V_mark_24 : g_go c_V_mark K k 24 lv st σ c z = k 24 (.if_icmp .ge 17, 3, 0, [(0, 41)]) lv st σ c z := rfl
theorem go_V_mark_27 : g_go c_V_mark K k 27 lv st σ c z = k 27 (.aload_n 0, 1, 0, []) lv st σ c z := rfl
theorem go_V_mark_28 : g_go c_V_mark K k 28 lv st σ c z = k 28 (.getfield 18, 3, 0, []) lv st σ c z := rfl
theorem go_V_mark_31 : g_go c_V_mark K k 31 lv st σ c z = k 31 (.iload 5, 2, 0, []) lv st σ c z := rfl
theorem go_V_mark_33 : g_go c_V_mark K k 33 lv st σ c z = k 33 (.iload_n 3, 1, 0, []) lv st σ c z := rfl
theorem go_V_mark_34 : g_go c_V_mark K k 34 lv st σ c z = k 34 (.bastore, 1, 0, []) lv st σ c z := rfl
theorem go_V_mark_35 : g_go c_V_mark K k 35 lv st σ c z = k 35 (.iinc 5 1, 3, 1, []) lv st σ c z := rfl
theorem go_V_mark_38 : g_go c_V_mark K k 38 lv st σ c z = k 38 (.goto (-18), 3, 0, [(0, 20)]) lv st σ c z := rfl
theorem go_V_mark_41 : g_go c_V_mark K k 41 lv st σ c z = k 41 (.return_, 1, 0, []) lv st σ c z := rfl
end GO
