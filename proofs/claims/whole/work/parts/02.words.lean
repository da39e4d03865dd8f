abbrev cX1_divided : ByteArray := prog_3_method_3_code
def yX1_divided : MethodName := ⟨RX1, "divided", "(I)Z"⟩
theorem dX1_divided_0 : decode cX1_divided 0 = .ok (.iconst 0, 1) := by decide +kernel
theorem dX1_divided_1 : decode cX1_divided 1 = .ok (.istore_n 2, 1) := by decide +kernel
theorem dX1_divided_2 : decode cX1_divided 2 = .ok (.iconst 0, 1) := by decide +kernel
theorem dX1_divided_3 : decode cX1_divided 3 = .ok (.istore_n 3, 1) := by decide +kernel
theorem dX1_divided_4 : decode cX1_divided 4 = .ok (.iload_n 3, 1) := by decide +kernel
theorem dX1_divided_5 : decode cX1_divided 5 = .ok (.bipush 63, 2) := by decide +kernel
theorem dX1_divided_7 : decode cX1_divided 7 = .ok (.if_icmp .ge 63, 3) := by decide +kernel
theorem dX1_divided_10 : decode cX1_divided 10 = .ok (.aload_n 0, 1) := by decide +kernel
theorem dX1_divided_11 : decode cX1_divided 11 = .ok (.getfield 7, 3) := by decide +kernel
theorem dX1_divided_14 : decode cX1_divided 14 = .ok (.iload_n 3, 1) := by decide +kernel
theorem dX1_divided_15 : decode cX1_divided 15 = .ok (.iaload, 1) := by decide +kernel
theorem dX1_divided_16 : decode cX1_divided 16 = .ok (.iload_n 3, 1) := by decide +kernel
theorem dX1_divided_17 : decode cX1_divided 17 = .ok (.bipush 55, 2) := by decide +kernel
theorem dX1_divided_19 : decode cX1_divided 19 = .ok (.if_icmp .le 7, 3) := by decide +kernel
theorem dX1_divided_22 : decode cX1_divided 22 = .ok (.iconst 1, 1) := by decide +kernel
theorem dX1_divided_23 : decode cX1_divided 23 = .ok (.goto 4, 3) := by decide +kernel
theorem dX1_divided_26 : decode cX1_divided 26 = .ok (.iconst 0, 1) := by decide +kernel
theorem dX1_divided_27 : decode cX1_divided 27 = .ok (.ixor, 1) := by decide +kernel
theorem dX1_divided_28 : decode cX1_divided 28 = .ok (.iload_n 3, 1) := by decide +kernel
theorem dX1_divided_29 : decode cX1_divided 29 = .ok (.iload_n 1, 1) := by decide +kernel
theorem dX1_divided_30 : decode cX1_divided 30 = .ok (.if_icmp .ne 7, 3) := by decide +kernel
theorem dX1_divided_33 : decode cX1_divided 33 = .ok (.iconst 1, 1) := by decide +kernel
theorem dX1_divided_34 : decode cX1_divided 34 = .ok (.goto 4, 3) := by decide +kernel
theorem dX1_divided_37 : decode cX1_divided 37 = .ok (.iconst 0, 1) := by decide +kernel
theorem dX1_divided_38 : decode cX1_divided 38 = .ok (.ixor, 1) := by decide +kernel
theorem dX1_divided_39 : decode cX1_divided 39 = .ok (.istore 4, 2) := by decide +kernel
theorem dX1_divided_41 : decode cX1_divided 41 = .ok (.iconst 2, 1) := by decide +kernel
theorem dX1_divided_42 : decode cX1_divided 42 = .ok (.iload_n 2, 1) := by decide +kernel
theorem dX1_divided_43 : decode cX1_divided 43 = .ok (.imul, 1) := by decide +kernel
theorem dX1_divided_44 : decode cX1_divided 44 = .ok (.iload 4, 2) := by decide +kernel
theorem dX1_divided_46 : decode cX1_divided 46 = .ok (.iadd, 1) := by decide +kernel
theorem dX1_divided_47 : decode cX1_divided 47 = .ok (.istore_n 2, 1) := by decide +kernel
theorem dX1_divided_48 : decode cX1_divided 48 = .ok (.iload_n 2, 1) := by decide +kernel
theorem dX1_divided_49 : decode cX1_divided 49 = .ok (.bipush 127, 2) := by decide +kernel
theorem dX1_divided_51 : decode cX1_divided 51 = .ok (.if_icmp .le 11, 3) := by decide +kernel
theorem dX1_divided_54 : decode cX1_divided 54 = .ok (.iload_n 2, 1) := by decide +kernel
theorem dX1_divided_55 : decode cX1_divided 55 = .ok (.sipush 197, 3) := by decide +kernel
theorem dX1_divided_58 : decode cX1_divided 58 = .ok (.ixor, 1) := by decide +kernel
theorem dX1_divided_59 : decode cX1_divided 59 = .ok (.goto 4, 3) := by decide +kernel
theorem dX1_divided_62 : decode cX1_divided 62 = .ok (.iload_n 2, 1) := by decide +kernel
theorem dX1_divided_63 : decode cX1_divided 63 = .ok (.istore_n 2, 1) := by decide +kernel
theorem dX1_divided_64 : decode cX1_divided 64 = .ok (.iinc 3 1, 3) := by decide +kernel
theorem dX1_divided_67 : decode cX1_divided 67 = .ok (.goto (-63), 3) := by decide +kernel
theorem dX1_divided_70 : decode cX1_divided 70 = .ok (.iload_n 2, 1) := by decide +kernel
theorem dX1_divided_71 : decode cX1_divided 71 = .ok (.ifCond .ne 7, 3) := by decide +kernel
theorem dX1_divided_74 : decode cX1_divided 74 = .ok (.iconst 1, 1) := by decide +kernel
theorem dX1_divided_75 : decode cX1_divided 75 = .ok (.goto 4, 3) := by decide +kernel
theorem dX1_divided_78 : decode cX1_divided 78 = .ok (.iconst 0, 1) := by decide +kernel
theorem dX1_divided_79 : decode cX1_divided 79 = .ok (.ireturn, 1) := by decide +kernel
abbrev cX1_ends : ByteArray := prog_3_method_6_code
def yX1_ends : MethodName := ⟨RX1, "ends", "()V"⟩
theorem dX1_ends_0 : decode cX1_ends 0 = .ok (.aload_n 0, 1) := by decide +kernel
theorem dX1_ends_1 : decode cX1_ends 1 = .ok (.getfield 25, 3) := by decide +kernel
theorem dX1_ends_4 : decode cX1_ends 4 = .ok (.iconst 1, 1) := by decide +kernel
theorem dX1_ends_5 : decode cX1_ends 5 = .ok (.dup2, 1) := by decide +kernel
theorem dX1_ends_6 : decode cX1_ends 6 = .ok (.iaload, 1) := by decide +kernel
theorem dX1_ends_7 : decode cX1_ends 7 = .ok (.iconst 1, 1) := by decide +kernel
theorem dX1_ends_8 : decode cX1_ends 8 = .ok (.iadd, 1) := by decide +kernel
theorem dX1_ends_9 : decode cX1_ends 9 = .ok (.iastore, 1) := by decide +kernel
theorem dX1_ends_10 : decode cX1_ends 10 = .ok (.iconst 0, 1) := by decide +kernel
theorem dX1_ends_11 : decode cX1_ends 11 = .ok (.istore_n 1, 1) := by decide +kernel
theorem dX1_ends_12 : decode cX1_ends 12 = .ok (.iload_n 1, 1) := by decide +kernel
theorem dX1_ends_13 : decode cX1_ends 13 = .ok (.aload_n 0, 1) := by decide +kernel
theorem dX1_ends_14 : decode cX1_ends 14 = .ok (.getfield 46, 3) := by decide +kernel
theorem dX1_ends_17 : decode cX1_ends 17 = .ok (.if_icmp .ge 21, 3) := by decide +kernel
theorem dX1_ends_20 : decode cX1_ends 20 = .ok (.aload_n 0, 1) := by decide +kernel
theorem dX1_ends_21 : decode cX1_ends 21 = .ok (.getfield 16, 3) := by decide +kernel
theorem dX1_ends_24 : decode cX1_ends 24 = .ok (.iload_n 1, 1) := by decide +kernel
theorem dX1_ends_25 : decode cX1_ends 25 = .ok (.aload_n 0, 1) := by decide +kernel
theorem dX1_ends_26 : decode cX1_ends 26 = .ok (.getfield 13, 3) := by decide +kernel
theorem dX1_ends_29 : decode cX1_ends 29 = .ok (.iload_n 1, 1) := by decide +kernel
theorem dX1_ends_30 : decode cX1_ends 30 = .ok (.iaload, 1) := by decide +kernel
theorem dX1_ends_31 : decode cX1_ends 31 = .ok (.iastore, 1) := by decide +kernel
theorem dX1_ends_32 : decode cX1_ends 32 = .ok (.iinc 1 1, 3) := by decide +kernel
theorem dX1_ends_35 : decode cX1_ends 35 = .ok (.goto (-23), 3) := by decide +kernel
theorem dX1_ends_38 : decode cX1_ends 38 = .ok (.aload_n 0, 1) := by decide +kernel
theorem dX1_ends_39 : decode cX1_ends 39 = .ok (.aload_n 0, 1) := by decide +kernel
theorem dX1_ends_40 : decode cX1_ends 40 = .ok (.getfield 46, 3) := by decide +kernel
theorem dX1_ends_43 : decode cX1_ends 43 = .ok (.ifCond .le 10, 3) := by decide +kernel
theorem dX1_ends_46 : decode cX1_ends 46 = .ok (.aload_n 0, 1) := by decide +kernel
theorem dX1_ends_47 : decode cX1_ends 47 = .ok (.getfield 46, 3) := by decide +kernel
theorem dX1_ends_50 : decode cX1_ends 50 = .ok (.goto 7, 3) := by decide +kernel
theorem dX1_ends_53 : decode cX1_ends 53 = .ok (.aload_n 0, 1) := by decide +kernel
theorem dX1_ends_54 : decode cX1_ends 54 = .ok (.getfield 49, 3) := by decide +kernel
theorem dX1_ends_57 : decode cX1_ends 57 = .ok (.putfield 49, 3) := by decide +kernel
theorem dX1_ends_60 : decode cX1_ends 60 = .ok (.aload_n 0, 1) := by decide +kernel
theorem dX1_ends_61 : decode cX1_ends 61 = .ok (.iconst 0, 1) := by decide +kernel
theorem dX1_ends_62 : decode cX1_ends 62 = .ok (.putfield 46, 3) := by decide +kernel
theorem dX1_ends_65 : decode cX1_ends 65 = .ok (.aload_n 0, 1) := by decide +kernel
theorem dX1_ends_66 : decode cX1_ends 66 = .ok (.iconst 1, 1) := by decide +kernel
theorem dX1_ends_67 : decode cX1_ends 67 = .ok (.invokevirtual 52, 3) := by decide +kernel
theorem dX1_ends_70 : decode cX1_ends 70 = .ok (.return_, 1) := by decide +kernel
abbrev cX1_look : ByteArray := prog_3_method_8_code
def yX1_look : MethodName := ⟨RX1, "look", "()V"⟩
theorem dX1_look_0 : decode cX1_look 0 = .ok (.iconst 0, 1) := by decide +kernel
theorem dX1_look_1 : decode cX1_look 1 = .ok (.istore_n 1, 1) := by decide +kernel
theorem dX1_look_2 : decode cX1_look 2 = .ok (.iconst 0, 1) := by decide +kernel
theorem dX1_look_3 : decode cX1_look 3 = .ok (.istore_n 2, 1) := by decide +kernel
theorem dX1_look_4 : decode cX1_look 4 = .ok (.iload_n 2, 1) := by decide +kernel
theorem dX1_look_5 : decode cX1_look 5 = .ok (.bipush 16, 2) := by decide +kernel
theorem dX1_look_7 : decode cX1_look 7 = .ok (.if_icmp .ge 35, 3) := by decide +kernel
theorem dX1_look_10 : decode cX1_look 10 = .ok (.iload_n 1, 1) := by decide +kernel
theorem dX1_look_11 : decode cX1_look 11 = .ok (.aload_n 0, 1) := by decide +kernel
theorem dX1_look_12 : decode cX1_look 12 = .ok (.getfield 7, 3) := by decide +kernel
theorem dX1_look_15 : decode cX1_look 15 = .ok (.iload_n 2, 1) := by decide +kernel
theorem dX1_look_16 : decode cX1_look 16 = .ok (.iaload, 1) := by decide +kernel
theorem dX1_look_17 : decode cX1_look 17 = .ok (.ldc 63, 2) := by decide +kernel
theorem dX1_look_19 : decode cX1_look 19 = .ok (.bipush 15, 2) := by decide +kernel
theorem dX1_look_21 : decode cX1_look 21 = .ok (.iload_n 2, 1) := by decide +kernel
theorem dX1_look_22 : decode cX1_look 22 = .ok (.isub, 1) := by decide +kernel
theorem dX1_look_23 : decode cX1_look 23 = .ok (.ishr, 1) := by decide +kernel
theorem dX1_look_24 : decode cX1_look 24 = .ok (.iconst 1, 1) := by decide +kernel
theorem dX1_look_25 : decode cX1_look 25 = .ok (.iand, 1) := by decide +kernel
theorem dX1_look_26 : decode cX1_look 26 = .ok (.if_icmp .eq 7, 3) := by decide +kernel
theorem dX1_look_29 : decode cX1_look 29 = .ok (.iconst 1, 1) := by decide +kernel
theorem dX1_look_30 : decode cX1_look 30 = .ok (.goto 4, 3) := by decide +kernel
theorem dX1_look_33 : decode cX1_look 33 = .ok (.iconst 0, 1) := by decide +kernel
theorem dX1_look_34 : decode cX1_look 34 = .ok (.iadd, 1) := by decide +kernel
theorem dX1_look_35 : decode cX1_look 35 = .ok (.istore_n 1, 1) := by decide +kernel
theorem dX1_look_36 : decode cX1_look 36 = .ok (.iinc 2 1, 3) := by decide +kernel
theorem dX1_look_39 : decode cX1_look 39 = .ok (.goto (-35), 3) := by decide +kernel
theorem dX1_look_42 : decode cX1_look 42 = .ok (.iload_n 1, 1) := by decide +kernel
theorem dX1_look_43 : decode cX1_look 43 = .ok (.ifCond .eq 15, 3) := by decide +kernel
theorem dX1_look_46 : decode cX1_look 46 = .ok (.iload_n 1, 1) := by decide +kernel
theorem dX1_look_47 : decode cX1_look 47 = .ok (.iconst 1, 1) := by decide +kernel
theorem dX1_look_48 : decode cX1_look 48 = .ok (.if_icmp .ne 40, 3) := by decide +kernel
theorem dX1_look_51 : decode cX1_look 51 = .ok (.aload_n 0, 1) := by decide +kernel
theorem dX1_look_52 : decode cX1_look 52 = .ok (.getfield 36, 3) := by decide +kernel
theorem dX1_look_55 : decode cX1_look 55 = .ok (.ifCond .eq 33, 3) := by decide +kernel
theorem dX1_look_58 : decode cX1_look 58 = .ok (.aload_n 0, 1) := by decide +kernel
theorem dX1_look_59 : decode cX1_look 59 = .ok (.getfield 25, 3) := by decide +kernel
theorem dX1_look_62 : decode cX1_look 62 = .ok (.iconst 0, 1) := by decide +kernel
theorem dX1_look_63 : decode cX1_look 63 = .ok (.dup2, 1) := by decide +kernel
theorem dX1_look_64 : decode cX1_look 64 = .ok (.iaload, 1) := by decide +kernel
theorem dX1_look_65 : decode cX1_look 65 = .ok (.iconst 1, 1) := by decide +kernel
theorem dX1_look_66 : decode cX1_look 66 = .ok (.iadd, 1) := by decide +kernel
theorem dX1_look_67 : decode cX1_look 67 = .ok (.iastore, 1) := by decide +kernel
theorem dX1_look_68 : decode cX1_look 68 = .ok (.aload_n 0, 1) := by decide +kernel
theorem dX1_look_69 : decode cX1_look 69 = .ok (.getfield 25, 3) := by decide +kernel
theorem dX1_look_72 : decode cX1_look 72 = .ok (.iconst 4, 1) := by decide +kernel
theorem dX1_look_73 : decode cX1_look 73 = .ok (.dup2, 1) := by decide +kernel
theorem dX1_look_74 : decode cX1_look 74 = .ok (.iaload, 1) := by decide +kernel
theorem dX1_look_75 : decode cX1_look 75 = .ok (.iload_n 1, 1) := by decide +kernel
theorem dX1_look_76 : decode cX1_look 76 = .ok (.iadd, 1) := by decide +kernel
theorem dX1_look_77 : decode cX1_look 77 = .ok (.iastore, 1) := by decide +kernel
theorem dX1_look_78 : decode cX1_look 78 = .ok (.aload_n 0, 1) := by decide +kernel
theorem dX1_look_79 : decode cX1_look 79 = .ok (.iconst 0, 1) := by decide +kernel
theorem dX1_look_80 : decode cX1_look 80 = .ok (.putfield 46, 3) := by decide +kernel
theorem dX1_look_83 : decode cX1_look 83 = .ok (.aload_n 0, 1) := by decide +kernel
theorem dX1_look_84 : decode cX1_look 84 = .ok (.iconst 2, 1) := by decide +kernel
theorem dX1_look_85 : decode cX1_look 85 = .ok (.invokevirtual 52, 3) := by decide +kernel
theorem dX1_look_88 : decode cX1_look 88 = .ok (.return_, 1) := by decide +kernel
abbrev cX1_state : ByteArray := prog_3_method_13_code
def yX1_state : MethodName := ⟨RX1, "state", "()I"⟩
theorem dX1_state_0 : decode cX1_state 0 = .ok (.aload_n 0, 1) := by decide +kernel
theorem dX1_state_1 : decode cX1_state 1 = .ok (.iconst 0, 1) := by decide +kernel
theorem dX1_state_2 : decode cX1_state 2 = .ok (.putfield 28, 3) := by decide +kernel
theorem dX1_state_5 : decode cX1_state 5 = .ok (.aload_n 0, 1) := by decide +kernel
theorem dX1_state_6 : decode cX1_state 6 = .ok (.getfield 40, 3) := by decide +kernel
theorem dX1_state_9 : decode cX1_state 9 = .ok (.ireturn, 1) := by decide +kernel
abbrev cX1_count : ByteArray := prog_3_method_14_code
def yX1_count : MethodName := ⟨RX1, "count", "(I)I"⟩
theorem dX1_count_0 : decode cX1_count 0 = .ok (.aload_n 0, 1) := by decide +kernel
theorem dX1_count_1 : decode cX1_count 1 = .ok (.iconst 0, 1) := by decide +kernel
theorem dX1_count_2 : decode cX1_count 2 = .ok (.putfield 28, 3) := by decide +kernel
theorem dX1_count_5 : decode cX1_count 5 = .ok (.iload_n 1, 1) := by decide +kernel
theorem dX1_count_6 : decode cX1_count 6 = .ok (.ifCond .lt 8, 3) := by decide +kernel
theorem dX1_count_9 : decode cX1_count 9 = .ok (.iload_n 1, 1) := by decide +kernel
theorem dX1_count_10 : decode cX1_count 10 = .ok (.iconst 4, 1) := by decide +kernel
theorem dX1_count_11 : decode cX1_count 11 = .ok (.if_icmp .le 7, 3) := by decide +kernel
theorem dX1_count_14 : decode cX1_count 14 = .ok (.iconst (-1), 1) := by decide +kernel
theorem dX1_count_15 : decode cX1_count 15 = .ok (.goto 9, 3) := by decide +kernel
theorem dX1_count_18 : decode cX1_count 18 = .ok (.aload_n 0, 1) := by decide +kernel
theorem dX1_count_19 : decode cX1_count 19 = .ok (.getfield 25, 3) := by decide +kernel
theorem dX1_count_22 : decode cX1_count 22 = .ok (.iload_n 1, 1) := by decide +kernel
theorem dX1_count_23 : decode cX1_count 23 = .ok (.iaload, 1) := by decide +kernel
theorem dX1_count_24 : decode cX1_count 24 = .ok (.ireturn, 1) := by decide +kernel
abbrev cX1_size : ByteArray := prog_3_method_15_code
def yX1_size : MethodName := ⟨RX1, "size", "()I"⟩
theorem dX1_size_0 : decode cX1_size 0 = .ok (.aload_n 0, 1) := by decide +kernel
theorem dX1_size_1 : decode cX1_size 1 = .ok (.iconst 0, 1) := by decide +kernel
theorem dX1_size_2 : decode cX1_size 2 = .ok (.putfield 28, 3) := by decide +kernel
theorem dX1_size_5 : decode cX1_size 5 = .ok (.aload_n 0, 1) := by decide +kernel
theorem dX1_size_6 : decode cX1_size 6 = .ok (.getfield 49, 3) := by decide +kernel
theorem dX1_size_9 : decode cX1_size 9 = .ok (.ireturn, 1) := by decide +kernel
abbrev cX1_byteAt : ByteArray := prog_3_method_16_code
def yX1_byteAt : MethodName := ⟨RX1, "byteAt", "(I)I"⟩
theorem dX1_byteAt_0 : decode cX1_byteAt 0 = .ok (.aload_n 0, 1) := by decide +kernel
theorem dX1_byteAt_1 : decode cX1_byteAt 1 = .ok (.iconst 0, 1) := by decide +kernel
theorem dX1_byteAt_2 : decode cX1_byteAt 2 = .ok (.putfield 28, 3) := by decide +kernel
theorem dX1_byteAt_5 : decode cX1_byteAt 5 = .ok (.iload_n 1, 1) := by decide +kernel
theorem dX1_byteAt_6 : decode cX1_byteAt 6 = .ok (.ifCond .lt 11, 3) := by decide +kernel
theorem dX1_byteAt_9 : decode cX1_byteAt 9 = .ok (.iload_n 1, 1) := by decide +kernel
theorem dX1_byteAt_10 : decode cX1_byteAt 10 = .ok (.aload_n 0, 1) := by decide +kernel
theorem dX1_byteAt_11 : decode cX1_byteAt 11 = .ok (.getfield 49, 3) := by decide +kernel
theorem dX1_byteAt_14 : decode cX1_byteAt 14 = .ok (.if_icmp .lt 7, 3) := by decide +kernel
theorem dX1_byteAt_17 : decode cX1_byteAt 17 = .ok (.iconst (-1), 1) := by decide +kernel
theorem dX1_byteAt_18 : decode cX1_byteAt 18 = .ok (.goto 9, 3) := by decide +kernel
theorem dX1_byteAt_21 : decode cX1_byteAt 21 = .ok (.aload_n 0, 1) := by decide +kernel
theorem dX1_byteAt_22 : decode cX1_byteAt 22 = .ok (.getfield 16, 3) := by decide +kernel
theorem dX1_byteAt_25 : decode cX1_byteAt 25 = .ok (.iload_n 1, 1) := by decide +kernel
theorem dX1_byteAt_26 : decode cX1_byteAt 26 = .ok (.iaload, 1) := by decide +kernel
theorem dX1_byteAt_27 : decode cX1_byteAt 27 = .ok (.ireturn, 1) := by decide +kernel
abbrev cX1_put : ByteArray := prog_3_method_17_code
def yX1_put : MethodName := ⟨RX1, "put", "(I)I"⟩
theorem dX1_put_0 : decode cX1_put 0 = .ok (.aload_n 0, 1) := by decide +kernel
theorem dX1_put_1 : decode cX1_put 1 = .ok (.iconst 0, 1) := by decide +kernel
theorem dX1_put_2 : decode cX1_put 2 = .ok (.putfield 28, 3) := by decide +kernel
theorem dX1_put_5 : decode cX1_put 5 = .ok (.aload_n 0, 1) := by decide +kernel
theorem dX1_put_6 : decode cX1_put 6 = .ok (.getfield 74, 3) := by decide +kernel
theorem dX1_put_9 : decode cX1_put 9 = .ok (.sipush 259, 3) := by decide +kernel
theorem dX1_put_12 : decode cX1_put 12 = .ok (.if_icmp .ne 5, 3) := by decide +kernel
theorem dX1_put_15 : decode cX1_put 15 = .ok (.iconst (-1), 1) := by decide +kernel
theorem dX1_put_16 : decode cX1_put 16 = .ok (.ireturn, 1) := by decide +kernel
theorem dX1_put_17 : decode cX1_put 17 = .ok (.aload_n 0, 1) := by decide +kernel
theorem dX1_put_18 : decode cX1_put 18 = .ok (.getfield 19, 3) := by decide +kernel
theorem dX1_put_21 : decode cX1_put 21 = .ok (.aload_n 0, 1) := by decide +kernel
theorem dX1_put_22 : decode cX1_put 22 = .ok (.getfield 74, 3) := by decide +kernel
theorem dX1_put_25 : decode cX1_put 25 = .ok (.iload_n 1, 1) := by decide +kernel
theorem dX1_put_26 : decode cX1_put 26 = .ok (.sipush 255, 3) := by decide +kernel
theorem dX1_put_29 : decode cX1_put 29 = .ok (.iand, 1) := by decide +kernel
theorem dX1_put_30 : decode cX1_put 30 = .ok (.iastore, 1) := by decide +kernel
theorem dX1_put_31 : decode cX1_put 31 = .ok (.aload_n 0, 1) := by decide +kernel
theorem dX1_put_32 : decode cX1_put 32 = .ok (.dup, 1) := by decide +kernel
theorem dX1_put_33 : decode cX1_put 33 = .ok (.getfield 74, 3) := by decide +kernel
theorem dX1_put_36 : decode cX1_put 36 = .ok (.iconst 1, 1) := by decide +kernel
theorem dX1_put_37 : decode cX1_put 37 = .ok (.iadd, 1) := by decide +kernel
theorem dX1_put_38 : decode cX1_put 38 = .ok (.putfield 74, 3) := by decide +kernel
theorem dX1_put_41 : decode cX1_put 41 = .ok (.aload_n 0, 1) := by decide +kernel
theorem dX1_put_42 : decode cX1_put 42 = .ok (.getfield 74, 3) := by decide +kernel
theorem dX1_put_45 : decode cX1_put 45 = .ok (.ireturn, 1) := by decide +kernel
abbrev cX1_send : ByteArray := prog_3_method_20_code
def yX1_send : MethodName := ⟨RX1, "send", "()I"⟩
theorem dX1_send_0 : decode cX1_send 0 = .ok (.aload_n 0, 1) := by decide +kernel
theorem dX1_send_1 : decode cX1_send 1 = .ok (.iconst 0, 1) := by decide +kernel
theorem dX1_send_2 : decode cX1_send 2 = .ok (.putfield 28, 3) := by decide +kernel
theorem dX1_send_5 : decode cX1_send 5 = .ok (.aload_n 0, 1) := by decide +kernel
theorem dX1_send_6 : decode cX1_send 6 = .ok (.getfield 74, 3) := by decide +kernel
theorem dX1_send_9 : decode cX1_send 9 = .ok (.ifCond .ne 5, 3) := by decide +kernel
theorem dX1_send_12 : decode cX1_send 12 = .ok (.iconst (-1), 1) := by decide +kernel
theorem dX1_send_13 : decode cX1_send 13 = .ok (.ireturn, 1) := by decide +kernel
theorem dX1_send_14 : decode cX1_send 14 = .ok (.aload_n 0, 1) := by decide +kernel
theorem dX1_send_15 : decode cX1_send 15 = .ok (.getfield 74, 3) := by decide +kernel
theorem dX1_send_18 : decode cX1_send 18 = .ok (.bipush 7, 2) := by decide +kernel
theorem dX1_send_20 : decode cX1_send 20 = .ok (.irem, 1) := by decide +kernel
theorem dX1_send_21 : decode cX1_send 21 = .ok (.ifCond .eq 27, 3) := by decide +kernel
theorem dX1_send_24 : decode cX1_send 24 = .ok (.aload_n 0, 1) := by decide +kernel
theorem dX1_send_25 : decode cX1_send 25 = .ok (.getfield 19, 3) := by decide +kernel
theorem dX1_send_28 : decode cX1_send 28 = .ok (.aload_n 0, 1) := by decide +kernel
theorem dX1_send_29 : decode cX1_send 29 = .ok (.getfield 74, 3) := by decide +kernel
theorem dX1_send_32 : decode cX1_send 32 = .ok (.bipush 85, 2) := by decide +kernel
theorem dX1_send_34 : decode cX1_send 34 = .ok (.iastore, 1) := by decide +kernel
theorem dX1_send_35 : decode cX1_send 35 = .ok (.aload_n 0, 1) := by decide +kernel
theorem dX1_send_36 : decode cX1_send 36 = .ok (.dup, 1) := by decide +kernel
theorem dX1_send_37 : decode cX1_send 37 = .ok (.getfield 74, 3) := by decide +kernel
theorem dX1_send_40 : decode cX1_send 40 = .ok (.iconst 1, 1) := by decide +kernel
theorem dX1_send_41 : decode cX1_send 41 = .ok (.iadd, 1) := by decide +kernel
theorem dX1_send_42 : decode cX1_send 42 = .ok (.putfield 74, 3) := by decide +kernel
theorem dX1_send_45 : decode cX1_send 45 = .ok (.goto (-31), 3) := by decide +kernel
theorem dX1_send_48 : decode cX1_send 48 = .ok (.aload_n 0, 1) := by decide +kernel
theorem dX1_send_49 : decode cX1_send 49 = .ok (.iconst 0, 1) := by decide +kernel
theorem dX1_send_50 : decode cX1_send 50 = .ok (.putfield 77, 3) := by decide +kernel
theorem dX1_send_53 : decode cX1_send 53 = .ok (.aload_n 0, 1) := by decide +kernel
theorem dX1_send_54 : decode cX1_send 54 = .ok (.sipush 235, 3) := by decide +kernel
theorem dX1_send_57 : decode cX1_send 57 = .ok (.invokevirtual 80, 3) := by decide +kernel
theorem dX1_send_60 : decode cX1_send 60 = .ok (.aload_n 0, 1) := by decide +kernel
theorem dX1_send_61 : decode cX1_send 61 = .ok (.sipush 144, 3) := by decide +kernel
theorem dX1_send_64 : decode cX1_send 64 = .ok (.invokevirtual 80, 3) := by decide +kernel
theorem dX1_send_67 : decode cX1_send 67 = .ok (.iconst 0, 1) := by decide +kernel
theorem dX1_send_68 : decode cX1_send 68 = .ok (.istore_n 1, 1) := by decide +kernel
theorem dX1_send_69 : decode cX1_send 69 = .ok (.iload_n 1, 1) := by decide +kernel
theorem dX1_send_70 : decode cX1_send 70 = .ok (.aload_n 0, 1) := by decide +kernel
theorem dX1_send_71 : decode cX1_send 71 = .ok (.getfield 74, 3) := by decide +kernel
theorem dX1_send_74 : decode cX1_send 74 = .ok (.if_icmp .ge 44, 3) := by decide +kernel
theorem dX1_send_77 : decode cX1_send 77 = .ok (.iconst 0, 1) := by decide +kernel
theorem dX1_send_78 : decode cX1_send 78 = .ok (.istore_n 2, 1) := by decide +kernel
theorem dX1_send_79 : decode cX1_send 79 = .ok (.iload_n 2, 1) := by decide +kernel
theorem dX1_send_80 : decode cX1_send 80 = .ok (.bipush 7, 2) := by decide +kernel
theorem dX1_send_82 : decode cX1_send 82 = .ok (.if_icmp .ge 21, 3) := by decide +kernel
theorem dX1_send_85 : decode cX1_send 85 = .ok (.aload_n 0, 1) := by decide +kernel
theorem dX1_send_86 : decode cX1_send 86 = .ok (.aload_n 0, 1) := by decide +kernel
theorem dX1_send_87 : decode cX1_send 87 = .ok (.getfield 19, 3) := by decide +kernel
theorem dX1_send_90 : decode cX1_send 90 = .ok (.iload_n 1, 1) := by decide +kernel
theorem dX1_send_91 : decode cX1_send 91 = .ok (.iload_n 2, 1) := by decide +kernel
theorem dX1_send_92 : decode cX1_send 92 = .ok (.iadd, 1) := by decide +kernel
theorem dX1_send_93 : decode cX1_send 93 = .ok (.iaload, 1) := by decide +kernel
theorem dX1_send_94 : decode cX1_send 94 = .ok (.invokevirtual 80, 3) := by decide +kernel
theorem dX1_send_97 : decode cX1_send 97 = .ok (.iinc 2 1, 3) := by decide +kernel
theorem dX1_send_100 : decode cX1_send 100 = .ok (.goto (-21), 3) := by decide +kernel
theorem dX1_send_103 : decode cX1_send 103 = .ok (.aload_n 0, 1) := by decide +kernel
theorem dX1_send_104 : decode cX1_send 104 = .ok (.aload_n 0, 1) := by decide +kernel
theorem dX1_send_105 : decode cX1_send 105 = .ok (.iload_n 1, 1) := by decide +kernel
theorem dX1_send_106 : decode cX1_send 106 = .ok (.invokevirtual 83, 3) := by decide +kernel
theorem dX1_send_109 : decode cX1_send 109 = .ok (.invokevirtual 80, 3) := by decide +kernel
theorem dX1_send_112 : decode cX1_send 112 = .ok (.iinc 1 7, 3) := by decide +kernel
theorem dX1_send_115 : decode cX1_send 115 = .ok (.goto (-46), 3) := by decide +kernel
theorem dX1_send_118 : decode cX1_send 118 = .ok (.iconst 0, 1) := by decide +kernel
theorem dX1_send_119 : decode cX1_send 119 = .ok (.istore_n 1, 1) := by decide +kernel
theorem dX1_send_120 : decode cX1_send 120 = .ok (.iload_n 1, 1) := by decide +kernel
theorem dX1_send_121 : decode cX1_send 121 = .ok (.bipush 7, 2) := by decide +kernel
theorem dX1_send_123 : decode cX1_send 123 = .ok (.if_icmp .ge 16, 3) := by decide +kernel
theorem dX1_send_126 : decode cX1_send 126 = .ok (.aload_n 0, 1) := by decide +kernel
theorem dX1_send_127 : decode cX1_send 127 = .ok (.sipush 197, 3) := by decide +kernel
theorem dX1_send_130 : decode cX1_send 130 = .ok (.invokevirtual 80, 3) := by decide +kernel
theorem dX1_send_133 : decode cX1_send 133 = .ok (.iinc 1 1, 3) := by decide +kernel
theorem dX1_send_136 : decode cX1_send 136 = .ok (.goto (-16), 3) := by decide +kernel
theorem dX1_send_139 : decode cX1_send 139 = .ok (.aload_n 0, 1) := by decide +kernel
theorem dX1_send_140 : decode cX1_send 140 = .ok (.bipush 121, 2) := by decide +kernel
theorem dX1_send_142 : decode cX1_send 142 = .ok (.invokevirtual 80, 3) := by decide +kernel
theorem dX1_send_145 : decode cX1_send 145 = .ok (.aload_n 0, 1) := by decide +kernel
theorem dX1_send_146 : decode cX1_send 146 = .ok (.iconst 0, 1) := by decide +kernel
theorem dX1_send_147 : decode cX1_send 147 = .ok (.putfield 74, 3) := by decide +kernel
theorem dX1_send_150 : decode cX1_send 150 = .ok (.aload_n 0, 1) := by decide +kernel
theorem dX1_send_151 : decode cX1_send 151 = .ok (.getfield 77, 3) := by decide +kernel
theorem dX1_send_154 : decode cX1_send 154 = .ok (.ireturn, 1) := by decide +kernel
abbrev cX1_out : ByteArray := prog_3_method_18_code
def yX1_out : MethodName := ⟨RX1, "out", "(I)V"⟩
theorem dX1_out_0 : decode cX1_out 0 = .ok (.aload_n 0, 1) := by decide +kernel
theorem dX1_out_1 : decode cX1_out 1 = .ok (.getfield 22, 3) := by decide +kernel
theorem dX1_out_4 : decode cX1_out 4 = .ok (.aload_n 0, 1) := by decide +kernel
theorem dX1_out_5 : decode cX1_out 5 = .ok (.getfield 77, 3) := by decide +kernel
theorem dX1_out_8 : decode cX1_out 8 = .ok (.iload_n 1, 1) := by decide +kernel
theorem dX1_out_9 : decode cX1_out 9 = .ok (.iastore, 1) := by decide +kernel
theorem dX1_out_10 : decode cX1_out 10 = .ok (.aload_n 0, 1) := by decide +kernel
theorem dX1_out_11 : decode cX1_out 11 = .ok (.dup, 1) := by decide +kernel
theorem dX1_out_12 : decode cX1_out 12 = .ok (.getfield 77, 3) := by decide +kernel
theorem dX1_out_15 : decode cX1_out 15 = .ok (.iconst 1, 1) := by decide +kernel
theorem dX1_out_16 : decode cX1_out 16 = .ok (.iadd, 1) := by decide +kernel
theorem dX1_out_17 : decode cX1_out 17 = .ok (.putfield 77, 3) := by decide +kernel
theorem dX1_out_20 : decode cX1_out 20 = .ok (.return_, 1) := by decide +kernel
abbrev cX1_check : ByteArray := prog_3_method_19_code
def yX1_check : MethodName := ⟨RX1, "check", "(I)I"⟩
theorem dX1_check_0 : decode cX1_check 0 = .ok (.iconst 0, 1) := by decide +kernel
theorem dX1_check_1 : decode cX1_check 1 = .ok (.istore_n 2, 1) := by decide +kernel
theorem dX1_check_2 : decode cX1_check 2 = .ok (.iconst 0, 1) := by decide +kernel
theorem dX1_check_3 : decode cX1_check 3 = .ok (.istore_n 3, 1) := by decide +kernel
theorem dX1_check_4 : decode cX1_check 4 = .ok (.iload_n 3, 1) := by decide +kernel
theorem dX1_check_5 : decode cX1_check 5 = .ok (.sipush 128, 3) := by decide +kernel
theorem dX1_check_8 : decode cX1_check 8 = .ok (.if_icmp .ge 116, 3) := by decide +kernel
theorem dX1_check_11 : decode cX1_check 11 = .ok (.iconst 0, 1) := by decide +kernel
theorem dX1_check_12 : decode cX1_check 12 = .ok (.istore 4, 2) := by decide +kernel
theorem dX1_check_14 : decode cX1_check 14 = .ok (.iconst 0, 1) := by decide +kernel
theorem dX1_check_15 : decode cX1_check 15 = .ok (.istore 5, 2) := by decide +kernel
theorem dX1_check_17 : decode cX1_check 17 = .ok (.iload 5, 2) := by decide +kernel
theorem dX1_check_19 : decode cX1_check 19 = .ok (.bipush 63, 2) := by decide +kernel
theorem dX1_check_21 : decode cX1_check 21 = .ok (.if_icmp .ge 84, 3) := by decide +kernel
theorem dX1_check_24 : decode cX1_check 24 = .ok (.iload 5, 2) := by decide +kernel
theorem dX1_check_26 : decode cX1_check 26 = .ok (.bipush 56, 2) := by decide +kernel
theorem dX1_check_28 : decode cX1_check 28 = .ok (.if_icmp .ge 29, 3) := by decide +kernel
theorem dX1_check_31 : decode cX1_check 31 = .ok (.aload_n 0, 1) := by decide +kernel
theorem dX1_check_32 : decode cX1_check 32 = .ok (.getfield 19, 3) := by decide +kernel
theorem dX1_check_35 : decode cX1_check 35 = .ok (.iload_n 1, 1) := by decide +kernel
theorem dX1_check_36 : decode cX1_check 36 = .ok (.iload 5, 2) := by decide +kernel
theorem dX1_check_38 : decode cX1_check 38 = .ok (.bipush 8, 2) := by decide +kernel
theorem dX1_check_40 : decode cX1_check 40 = .ok (.idiv, 1) := by decide +kernel
theorem dX1_check_41 : decode cX1_check 41 = .ok (.iadd, 1) := by decide +kernel
theorem dX1_check_42 : decode cX1_check 42 = .ok (.iaload, 1) := by decide +kernel
theorem dX1_check_43 : decode cX1_check 43 = .ok (.bipush 7, 2) := by decide +kernel
theorem dX1_check_45 : decode cX1_check 45 = .ok (.iload 5, 2) := by decide +kernel
theorem dX1_check_47 : decode cX1_check 47 = .ok (.bipush 8, 2) := by decide +kernel
theorem dX1_check_49 : decode cX1_check 49 = .ok (.irem, 1) := by decide +kernel
theorem dX1_check_50 : decode cX1_check 50 = .ok (.isub, 1) := by decide +kernel
theorem dX1_check_51 : decode cX1_check 51 = .ok (.ishr, 1) := by decide +kernel
theorem dX1_check_52 : decode cX1_check 52 = .ok (.iconst 1, 1) := by decide +kernel
theorem dX1_check_53 : decode cX1_check 53 = .ok (.iand, 1) := by decide +kernel
theorem dX1_check_54 : decode cX1_check 54 = .ok (.goto 14, 3) := by decide +kernel
theorem dX1_check_57 : decode cX1_check 57 = .ok (.iconst 1, 1) := by decide +kernel
theorem dX1_check_58 : decode cX1_check 58 = .ok (.iload_n 3, 1) := by decide +kernel
theorem dX1_check_59 : decode cX1_check 59 = .ok (.bipush 62, 2) := by decide +kernel
theorem dX1_check_61 : decode cX1_check 61 = .ok (.iload 5, 2) := by decide +kernel
theorem dX1_check_63 : decode cX1_check 63 = .ok (.isub, 1) := by decide +kernel
theorem dX1_check_64 : decode cX1_check 64 = .ok (.ishr, 1) := by decide +kernel
theorem dX1_check_65 : decode cX1_check 65 = .ok (.iconst 1, 1) := by decide +kernel
theorem dX1_check_66 : decode cX1_check 66 = .ok (.iand, 1) := by decide +kernel
theorem dX1_check_67 : decode cX1_check 67 = .ok (.isub, 1) := by decide +kernel
theorem dX1_check_68 : decode cX1_check 68 = .ok (.istore 6, 2) := by decide +kernel
theorem dX1_check_70 : decode cX1_check 70 = .ok (.iconst 2, 1) := by decide +kernel
theorem dX1_check_71 : decode cX1_check 71 = .ok (.iload 4, 2) := by decide +kernel
theorem dX1_check_73 : decode cX1_check 73 = .ok (.imul, 1) := by decide +kernel
theorem dX1_check_74 : decode cX1_check 74 = .ok (.iload 6, 2) := by decide +kernel
theorem dX1_check_76 : decode cX1_check 76 = .ok (.iadd, 1) := by decide +kernel
theorem dX1_check_77 : decode cX1_check 77 = .ok (.istore 4, 2) := by decide +kernel
theorem dX1_check_79 : decode cX1_check 79 = .ok (.iload 4, 2) := by decide +kernel
theorem dX1_check_81 : decode cX1_check 81 = .ok (.bipush 127, 2) := by decide +kernel
theorem dX1_check_83 : decode cX1_check 83 = .ok (.if_icmp .le 12, 3) := by decide +kernel
theorem dX1_check_86 : decode cX1_check 86 = .ok (.iload 4, 2) := by decide +kernel
theorem dX1_check_88 : decode cX1_check 88 = .ok (.sipush 197, 3) := by decide +kernel
theorem dX1_check_91 : decode cX1_check 91 = .ok (.ixor, 1) := by decide +kernel
theorem dX1_check_92 : decode cX1_check 92 = .ok (.goto 5, 3) := by decide +kernel
theorem dX1_check_95 : decode cX1_check 95 = .ok (.iload 4, 2) := by decide +kernel
theorem dX1_check_97 : decode cX1_check 97 = .ok (.istore 4, 2) := by decide +kernel
theorem dX1_check_99 : decode cX1_check 99 = .ok (.iinc 5 1, 3) := by decide +kernel
theorem dX1_check_102 : decode cX1_check 102 = .ok (.goto (-85), 3) := by decide +kernel
theorem dX1_check_105 : decode cX1_check 105 = .ok (.iload 4, 2) := by decide +kernel
theorem dX1_check_107 : decode cX1_check 107 = .ok (.ifCond .ne 9, 3) := by decide +kernel
theorem dX1_check_110 : decode cX1_check 110 = .ok (.iconst 2, 1) := by decide +kernel
theorem dX1_check_111 : decode cX1_check 111 = .ok (.iload_n 3, 1) := by decide +kernel
theorem dX1_check_112 : decode cX1_check 112 = .ok (.imul, 1) := by decide +kernel
theorem dX1_check_113 : decode cX1_check 113 = .ok (.goto 4, 3) := by decide +kernel
theorem dX1_check_116 : decode cX1_check 116 = .ok (.iload_n 2, 1) := by decide +kernel
theorem dX1_check_117 : decode cX1_check 117 = .ok (.istore_n 2, 1) := by decide +kernel
theorem dX1_check_118 : decode cX1_check 118 = .ok (.iinc 3 1, 3) := by decide +kernel
theorem dX1_check_121 : decode cX1_check 121 = .ok (.goto (-117), 3) := by decide +kernel
theorem dX1_check_124 : decode cX1_check 124 = .ok (.iload_n 2, 1) := by decide +kernel
theorem dX1_check_125 : decode cX1_check 125 = .ok (.ireturn, 1) := by decide +kernel
abbrev cX1_sent : ByteArray := prog_3_method_21_code
def yX1_sent : MethodName := ⟨RX1, "sent", "(I)I"⟩
theorem dX1_sent_0 : decode cX1_sent 0 = .ok (.aload_n 0, 1) := by decide +kernel
theorem dX1_sent_1 : decode cX1_sent 1 = .ok (.iconst 0, 1) := by decide +kernel
theorem dX1_sent_2 : decode cX1_sent 2 = .ok (.putfield 28, 3) := by decide +kernel
theorem dX1_sent_5 : decode cX1_sent 5 = .ok (.iload_n 1, 1) := by decide +kernel
theorem dX1_sent_6 : decode cX1_sent 6 = .ok (.ifCond .lt 11, 3) := by decide +kernel
theorem dX1_sent_9 : decode cX1_sent 9 = .ok (.iload_n 1, 1) := by decide +kernel
theorem dX1_sent_10 : decode cX1_sent 10 = .ok (.aload_n 0, 1) := by decide +kernel
theorem dX1_sent_11 : decode cX1_sent 11 = .ok (.getfield 77, 3) := by decide +kernel
theorem dX1_sent_14 : decode cX1_sent 14 = .ok (.if_icmp .lt 7, 3) := by decide +kernel
theorem dX1_sent_17 : decode cX1_sent 17 = .ok (.iconst (-1), 1) := by decide +kernel
theorem dX1_sent_18 : decode cX1_sent 18 = .ok (.goto 9, 3) := by decide +kernel
theorem dX1_sent_21 : decode cX1_sent 21 = .ok (.aload_n 0, 1) := by decide +kernel
theorem dX1_sent_22 : decode cX1_sent 22 = .ok (.getfield 22, 3) := by decide +kernel
theorem dX1_sent_25 : decode cX1_sent 25 = .ok (.iload_n 1, 1) := by decide +kernel
theorem dX1_sent_26 : decode cX1_sent 26 = .ok (.iaload, 1) := by decide +kernel
theorem dX1_sent_27 : decode cX1_sent 27 = .ok (.ireturn, 1) := by decide +kernel
def tb : List Cond := lw_tbl.filter goodWord
theorem tb_of {w : Cond} (h : w ∈ tb) : w ∈ lw_tbl ∧ goodWord w = true := List.mem_filter.mp h
theorem tb_in {y : MethodName} {c : ByteArray} {n : Nat} {r : Option FieldType} {c0 : Cond} (h : Cond.code y c n r ∈ tb) : GoodIn (c0 :: tb) (Cond.code y c n r :: tb) := by
  intro w hw
  have hm : w ∈ tb := (List.mem_cons.mp hw).elim (fun e => e ▸ h) id
  exact ⟨List.mem_cons_of_mem _ hm, good_of_word (tb_of hm).2⟩
theorem tb_law {y : MethodName} {c : ByteArray} {n : Nat} {r : Option FieldType} (h : Cond.code y c n r ∈ tb) : GoodIn lw_tbl (Cond.code y c n r :: tb) := by
  intro w hw
  have hm : w ∈ tb := (List.mem_cons.mp hw).elim (fun e => e ▸ h) id
  exact ⟨(tb_of hm).1, good_of_word (tb_of hm).2⟩
theorem tb_v {own C : String} {ix : Nat} {y : MethodName} {ws : List Cond} {c0 : Cond} (h : GoodIn (c0 :: tb) ws) (h4 : ([.methodLink own ix y, .instanceMethod y, .selects C y y, .initialized C] : List Cond).all (fun w => decide (w ∈ lw_tbl) && goodWord w) = true) : GoodIn (c0 :: tb) (wsV own ix C y ws) := by
  refine goodIn_app (fun w hw => ?_) h
  have h5 := (Bool.and_eq_true_iff).mp (List.all_eq_true.mp h4 w hw)
  have hm : w ∈ tb := List.mem_filter.mpr ⟨of_decide_eq_true h5.1, h5.2⟩
  exact ⟨List.mem_cons_of_mem _ hm, good_of_word h5.2⟩
theorem tb_vL {own C : String} {ix : Nat} {y : MethodName} {ws : List Cond} (h : GoodIn lw_tbl ws) (h4 : ([.methodLink own ix y, .instanceMethod y, .selects C y y, .initialized C] : List Cond).all (fun w => decide (w ∈ lw_tbl) && goodWord w) = true) : GoodIn lw_tbl (wsV own ix C y ws) := by
  refine goodIn_app (fun w hw => ?_) h
  have h5 := (Bool.and_eq_true_iff).mp (List.all_eq_true.mp h4 w hw)
  exact ⟨of_decide_eq_true h5.1, good_of_word h5.2⟩
theorem tb_X {ws : List Cond} (h : GoodIn wsL_law ws) : GoodIn lw_tbl ws := fun w hw => ⟨wsL_law_in w (h w hw).1, (h w hw).2⟩
abbrev vX1_init : List Cond := .code yX1_init cX1_init 1 none :: tb
theorem tbX1_init : Cond.code yX1_init cX1_init 1 none ∈ tb := List.mem_filter.mpr ⟨List.mem_of_getElem? (i := 184) rfl, rfl⟩
abbrev vX1_turn : List Cond := .code yX1_turn cX1_turn 2 (some .boolean) :: tb
theorem tbX1_turn : Cond.code yX1_turn cX1_turn 2 (some .boolean) ∈ tb := List.mem_filter.mpr ⟨List.mem_of_getElem? (i := 232) rfl, rfl⟩
abbrev vX1_begins : List Cond := .code yX1_begins cX1_begins 2 none :: tb
theorem tbX1_begins : Cond.code yX1_begins cX1_begins 2 none ∈ tb := List.mem_filter.mpr ⟨List.mem_of_getElem? (i := 236) rfl, rfl⟩
abbrev vX1_mending : List Cond := .code yX1_mending cX1_mending 2 none :: tb
theorem tbX1_mending : Cond.code yX1_mending cX1_mending 2 none ∈ tb := List.mem_filter.mpr ⟨List.mem_of_getElem? (i := 240) rfl, rfl⟩
abbrev vX1_take : List Cond := .code yX1_take cX1_take 6 (some .int) :: tb
theorem tbX1_take : Cond.code yX1_take cX1_take 6 (some .int) ∈ tb := List.mem_filter.mpr ⟨List.mem_of_getElem? (i := 244) rfl, rfl⟩
abbrev vX1_bit : List Cond := .code yX1_bit cX1_bit 3 (some .int) :: tb
theorem tbX1_bit : Cond.code yX1_bit cX1_bit 3 (some .int) ∈ tb := List.mem_filter.mpr ⟨List.mem_of_getElem? (i := 248) rfl, rfl⟩
abbrev vX1_block : List Cond := .code yX1_block cX1_block 5 (some .int) :: tb
theorem tbX1_block : Cond.code yX1_block cX1_block 5 (some .int) ∈ tb := List.mem_filter.mpr ⟨List.mem_of_getElem? (i := 252) rfl, rfl⟩
abbrev vX1_wrong : List Cond := .code yX1_wrong cX1_wrong 3 (some .int) :: tb
theorem tbX1_wrong : Cond.code yX1_wrong cX1_wrong 3 (some .int) ∈ tb := List.mem_filter.mpr ⟨List.mem_of_getElem? (i := 256) rfl, rfl⟩
abbrev vX1_divided : List Cond := .code yX1_divided cX1_divided 5 (some .boolean) :: tb
theorem tbX1_divided : Cond.code yX1_divided cX1_divided 5 (some .boolean) ∈ tb := List.mem_filter.mpr ⟨List.mem_of_getElem? (i := 260) rfl, rfl⟩
abbrev vX1_ends : List Cond := .code yX1_ends cX1_ends 2 none :: tb
theorem tbX1_ends : Cond.code yX1_ends cX1_ends 2 none ∈ tb := List.mem_filter.mpr ⟨List.mem_of_getElem? (i := 264) rfl, rfl⟩
abbrev vX1_look : List Cond := .code yX1_look cX1_look 3 none :: tb
theorem tbX1_look : Cond.code yX1_look cX1_look 3 none ∈ tb := List.mem_filter.mpr ⟨List.mem_of_getElem? (i := 268) rfl, rfl⟩
abbrev vX1_state : List Cond := .code yX1_state cX1_state 1 (some .int) :: tb
theorem tbX1_state : Cond.code yX1_state cX1_state 1 (some .int) ∈ tb := List.mem_filter.mpr ⟨List.mem_of_getElem? (i := 273) rfl, rfl⟩
abbrev vX1_count : List Cond := .code yX1_count cX1_count 2 (some .int) :: tb
theorem tbX1_count : Cond.code yX1_count cX1_count 2 (some .int) ∈ tb := List.mem_filter.mpr ⟨List.mem_of_getElem? (i := 277) rfl, rfl⟩
abbrev vX1_size : List Cond := .code yX1_size cX1_size 1 (some .int) :: tb
theorem tbX1_size : Cond.code yX1_size cX1_size 1 (some .int) ∈ tb := List.mem_filter.mpr ⟨List.mem_of_getElem? (i := 281) rfl, rfl⟩
abbrev vX1_byteAt : List Cond := .code yX1_byteAt cX1_byteAt 2 (some .int) :: tb
theorem tbX1_byteAt : Cond.code yX1_byteAt cX1_byteAt 2 (some .int) ∈ tb := List.mem_filter.mpr ⟨List.mem_of_getElem? (i := 285) rfl, rfl⟩
abbrev vX1_put : List Cond := .code yX1_put cX1_put 2 (some .int) :: tb
theorem tbX1_put : Cond.code yX1_put cX1_put 2 (some .int) ∈ tb := List.mem_filter.mpr ⟨List.mem_of_getElem? (i := 289) rfl, rfl⟩
abbrev vX1_send : List Cond := .code yX1_send cX1_send 3 (some .int) :: tb
theorem tbX1_send : Cond.code yX1_send cX1_send 3 (some .int) ∈ tb := List.mem_filter.mpr ⟨List.mem_of_getElem? (i := 293) rfl, rfl⟩
abbrev vX1_out : List Cond := .code yX1_out cX1_out 2 none :: tb
theorem tbX1_out : Cond.code yX1_out cX1_out 2 none ∈ tb := List.mem_filter.mpr ⟨List.mem_of_getElem? (i := 297) rfl, rfl⟩
abbrev vX1_check : List Cond := .code yX1_check cX1_check 7 (some .int) :: tb
theorem tbX1_check : Cond.code yX1_check cX1_check 7 (some .int) ∈ tb := List.mem_filter.mpr ⟨List.mem_of_getElem? (i := 301) rfl, rfl⟩
abbrev vX1_sent : List Cond := .code yX1_sent cX1_sent 2 (some .int) :: tb
theorem tbX1_sent : Cond.code yX1_sent cX1_sent 2 (some .int) ∈ tb := List.mem_filter.mpr ⟨List.mem_of_getElem? (i := 305) rfl, rfl⟩
