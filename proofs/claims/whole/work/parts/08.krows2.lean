theorem k85_0 : Kc C85 0 = (.aload_n 0, 0, 0, 0, 0) := rfl
theorem k85_1 : Kc C85 1 = (.invokespecial 1, 1002, 0, 0, 0) := rfl
theorem k85_4 : Kc C85 4 = (.aload_n 0, 0, 0, 0, 0) := rfl
theorem k85_5 : Kc C85 5 = (.new 7, 5, 0, 0, 0) := rfl
theorem k85_8 : Kc C85 8 = (.dup, 0, 0, 0, 0) := rfl
theorem k85_9 : Kc C85 9 = (.invokespecial 9, 60, 0, 15, 1) := rfl
theorem k85_12 : Kc C85 12 = (.putfield 10, 8, 0, 0, 0) := rfl
theorem k85_15 : Kc C85 15 = (.aload_n 0, 0, 0, 0, 0) := rfl
theorem k85_16 : Kc C85 16 = (.new 16, 7, 0, 0, 0) := rfl
theorem k85_19 : Kc C85 19 = (.dup, 0, 0, 0, 0) := rfl
theorem k85_20 : Kc C85 20 = (.invokespecial 18, 75, 0, 21, 1) := rfl
theorem k85_23 : Kc C85 23 = (.putfield 19, 8, 1, 0, 0) := rfl
theorem k85_26 : Kc C85 26 = (.aload_n 0, 0, 0, 0, 0) := rfl
theorem k85_27 : Kc C85 27 = (.new 23, 0, 0, 0, 0) := rfl
theorem k85_30 : Kc C85 30 = (.dup, 0, 0, 0, 0) := rfl
theorem k85_31 : Kc C85 31 = (.invokespecial 25, 0, 0, 0, 0) := rfl
theorem k85_34 : Kc C85 34 = (.putfield 26, 8, 2, 0, 0) := rfl
theorem k85_37 : Kc C85 37 = (.aload_n 0, 0, 0, 0, 0) := rfl
theorem k85_38 : Kc C85 38 = (.new 30, 1, 0, 0, 0) := rfl
theorem k85_41 : Kc C85 41 = (.dup, 0, 0, 0, 0) := rfl
theorem k85_42 : Kc C85 42 = (.invokespecial 32, 3, 0, 3, 1) := rfl
theorem k85_45 : Kc C85 45 = (.putfield 33, 8, 3, 0, 0) := rfl
theorem k85_48 : Kc C85 48 = (.aload_n 0, 0, 0, 0, 0) := rfl
theorem k85_49 : Kc C85 49 = (.new 37, 3, 0, 0, 0) := rfl
theorem k85_52 : Kc C85 52 = (.dup, 0, 0, 0, 0) := rfl
theorem k85_53 : Kc C85 53 = (.invokespecial 39, 39, 0, 9, 0) := rfl
theorem k85_56 : Kc C85 56 = (.putfield 40, 8, 4, 0, 0) := rfl
theorem k85_59 : Kc C85 59 = (.aload_n 0, 0, 0, 0, 0) := rfl
theorem k85_60 : Kc C85 60 = (.new 44, 6, 0, 0, 0) := rfl
theorem k85_63 : Kc C85 63 = (.dup, 0, 0, 0, 0) := rfl
theorem k85_64 : Kc C85 64 = (.invokespecial 46, 68, 0, 18, 1) := rfl
theorem k85_67 : Kc C85 67 = (.putfield 47, 8, 5, 0, 0) := rfl
theorem k85_70 : Kc C85 70 = (.aload_n 0, 0, 0, 0, 0) := rfl
theorem k85_71 : Kc C85 71 = (.new 51, 2, 0, 0, 0) := rfl
theorem k85_74 : Kc C85 74 = (.dup, 0, 0, 0, 0) := rfl
theorem k85_75 : Kc C85 75 = (.invokespecial 53, 17, 0, 6, 1) := rfl
theorem k85_78 : Kc C85 78 = (.putfield 54, 8, 6, 0, 0) := rfl
theorem k85_81 : Kc C85 81 = (.aload_n 0, 0, 0, 0, 0) := rfl
theorem k85_82 : Kc C85 82 = (.new 51, 2, 0, 0, 0) := rfl
theorem k85_85 : Kc C85 85 = (.dup, 0, 0, 0, 0) := rfl
theorem k85_86 : Kc C85 86 = (.invokespecial 53, 17, 0, 6, 1) := rfl
theorem k85_89 : Kc C85 89 = (.putfield 58, 8, 7, 0, 0) := rfl
theorem k85_92 : Kc C85 92 = (.aload_n 0, 0, 0, 0, 0) := rfl
theorem k85_93 : Kc C85 93 = (.iconst 2, 0, 0, 0, 2) := rfl
theorem k85_94 : Kc C85 94 = (.anewarray 51, 4, 0, 0, 0) := rfl
theorem k85_97 : Kc C85 97 = (.dup, 0, 0, 0, 0) := rfl
theorem k85_98 : Kc C85 98 = (.iconst 0, 0, 0, 0, 0) := rfl
theorem k85_99 : Kc C85 99 = (.new 51, 2, 0, 0, 0) := rfl
theorem k85_102 : Kc C85 102 = (.dup, 0, 0, 0, 0) := rfl
theorem k85_103 : Kc C85 103 = (.invokespecial 53, 17, 0, 6, 1) := rfl
theorem k85_106 : Kc C85 106 = (.aastore, 0, 0, 0, 0) := rfl
theorem k85_107 : Kc C85 107 = (.dup, 0, 0, 0, 0) := rfl
theorem k85_108 : Kc C85 108 = (.iconst 1, 0, 0, 0, 1) := rfl
theorem k85_109 : Kc C85 109 = (.new 51, 2, 0, 0, 0) := rfl
theorem k85_112 : Kc C85 112 = (.dup, 0, 0, 0, 0) := rfl
theorem k85_113 : Kc C85 113 = (.invokespecial 53, 17, 0, 6, 1) := rfl
theorem k85_116 : Kc C85 116 = (.aastore, 0, 0, 0, 0) := rfl
theorem k85_117 : Kc C85 117 = (.putfield 61, 8, 8, 0, 0) := rfl
theorem k85_120 : Kc C85 120 = (.aload_n 0, 0, 0, 0, 0) := rfl
theorem k85_121 : Kc C85 121 = (.iconst 2, 0, 0, 0, 2) := rfl
theorem k85_122 : Kc C85 122 = (.newarray .boolean, 1, 0, 0, 0) := rfl
theorem k85_124 : Kc C85 124 = (.putfield 65, 8, 9, 0, 0) := rfl
theorem k85_127 : Kc C85 127 = (.aload_n 0, 0, 0, 0, 0) := rfl
theorem k85_128 : Kc C85 128 = (.bipush 40, 0, 0, 0, 40) := rfl
theorem k85_130 : Kc C85 130 = (.newarray .int, 0, 0, 0, 0) := rfl
theorem k85_132 : Kc C85 132 = (.putfield 69, 8, 10, 0, 0) := rfl
theorem k85_135 : Kc C85 135 = (.aload_n 0, 0, 0, 0, 0) := rfl
theorem k85_136 : Kc C85 136 = (.iconst 0, 0, 0, 0, 0) := rfl
theorem k85_137 : Kc C85 137 = (.putfield 73, 8, 11, 0, 0) := rfl
theorem k85_140 : Kc C85 140 = (.aload_n 0, 0, 0, 0, 0) := rfl
theorem k85_141 : Kc C85 141 = (.iconst 0, 0, 0, 0, 0) := rfl
theorem k85_142 : Kc C85 142 = (.putfield 77, 8, 12, 0, 0) := rfl
theorem k85_145 : Kc C85 145 = (.aload_n 0, 0, 0, 0, 0) := rfl
theorem k85_146 : Kc C85 146 = (.iconst 0, 0, 0, 0, 0) := rfl
theorem k85_147 : Kc C85 147 = (.putfield 81, 8, 13, 0, 0) := rfl
theorem k85_150 : Kc C85 150 = (.return_, 0, 0, 0, 0) := rfl
theorem ev85 (d : Nat) (x0 : Nat) (h : Hp) : EvM (d + 1) 85 [.ref x0] h = EvI (EvM d) C85 0 0 [.ref x0] [] h := rfl
theorem k86_0 : Kc C86 0 = (.iload_n 1, 1, 0, 0, 0) := rfl
theorem k86_1 : Kc C86 1 = (.invokestatic 84, 122, 1, 26, 0) := rfl
theorem k86_4 : Kc C86 4 = (.ifCond .eq 18, 22, 0, 0, 0) := rfl
theorem k86_7 : Kc C86 7 = (.iload_n 2, 2, 0, 0, 0) := rfl
theorem k86_8 : Kc C86 8 = (.iconst 0, 0, 0, 0, 0) := rfl
theorem k86_9 : Kc C86 9 = (.iconst 2, 0, 0, 0, 2) := rfl
theorem k86_10 : Kc C86 10 = (.invokestatic 88, 121, 3, 26, 0) := rfl
theorem k86_13 : Kc C86 13 = (.ifCond .eq 9, 22, 0, 0, 0) := rfl
theorem k86_16 : Kc C86 16 = (.iload_n 3, 3, 0, 0, 0) := rfl
theorem k86_17 : Kc C86 17 = (.bipush 40, 0, 0, 0, 40) := rfl
theorem k86_19 : Kc C86 19 = (.if_icmp .le 6, 25, 0, 0, 0) := rfl
theorem k86_22 : Kc C86 22 = (.ldc 92, 0, 0, 0, (-1000001)) := rfl
theorem k86_24 : Kc C86 24 = (.ireturn, 0, 0, 0, 0) := rfl
theorem k86_25 : Kc C86 25 = (.iload_n 3, 3, 0, 0, 0) := rfl
theorem k86_26 : Kc C86 26 = (.ifCond .ge 9, 35, 0, 0, 0) := rfl
theorem k86_29 : Kc C86 29 = (.aload_n 0, 0, 0, 0, 0) := rfl
theorem k86_30 : Kc C86 30 = (.iconst 4, 0, 0, 0, 4) := rfl
theorem k86_31 : Kc C86 31 = (.invokevirtual 93, 128, 1, 25, 0) := rfl
theorem k86_34 : Kc C86 34 = (.ireturn, 0, 0, 0, 0) := rfl
theorem k86_35 : Kc C86 35 = (.aload_n 0, 0, 0, 0, 0) := rfl
theorem k86_36 : Kc C86 36 = (.getfield 10, 8, 0, 0, 0) := rfl
theorem k86_39 : Kc C86 39 = (.iload_n 1, 1, 0, 0, 0) := rfl
theorem k86_40 : Kc C86 40 = (.iload_n 2, 2, 0, 0, 0) := rfl
theorem k86_41 : Kc C86 41 = (.iload_n 3, 3, 0, 0, 0) := rfl
theorem k86_42 : Kc C86 42 = (.invokevirtual 97, 62, 3, 15, 0) := rfl
theorem k86_45 : Kc C86 45 = (.aload_n 0, 0, 0, 0, 0) := rfl
theorem k86_46 : Kc C86 46 = (.iload_n 3, 3, 0, 0, 0) := rfl
theorem k86_47 : Kc C86 47 = (.invokevirtual 101, 129, 1, 25, 0) := rfl
theorem k86_50 : Kc C86 50 = (.ireturn, 0, 0, 0, 0) := rfl
theorem ev86 (d : Nat) (x0 : Nat) (x1 : Int32) (x2 : Int32) (x3 : Int32) (h : Hp) : EvM (d + 1) 86 [.ref x0, .int x1, .int x2, .int x3] h = EvI (EvM d) C86 1 0 [.ref x0, .int x1, .int x2, .int x3] [] h := rfl
theorem k87_0 : Kc C87 0 = (.iload_n 1, 1, 0, 0, 0) := rfl
theorem k87_1 : Kc C87 1 = (.invokestatic 84, 122, 1, 26, 0) := rfl
theorem k87_4 : Kc C87 4 = (.ifCond .ne 6, 10, 0, 0, 0) := rfl
theorem k87_7 : Kc C87 7 = (.ldc 92, 0, 0, 0, (-1000001)) := rfl
theorem k87_9 : Kc C87 9 = (.ireturn, 0, 0, 0, 0) := rfl
theorem k87_10 : Kc C87 10 = (.aload_n 0, 0, 0, 0, 0) := rfl
theorem k87_11 : Kc C87 11 = (.getfield 10, 8, 0, 0, 0) := rfl
theorem k87_14 : Kc C87 14 = (.iload_n 1, 1, 0, 0, 0) := rfl
theorem k87_15 : Kc C87 15 = (.iload_n 2, 2, 0, 0, 0) := rfl
theorem k87_16 : Kc C87 16 = (.iconst 1, 0, 0, 0, 1) := rfl
theorem k87_17 : Kc C87 17 = (.invokevirtual 104, 65, 3, 16, 0) := rfl
theorem k87_20 : Kc C87 20 = (.istore 4, 4, 0, 0, 0) := rfl
theorem k87_22 : Kc C87 22 = (.iload 4, 4, 0, 0, 0) := rfl
theorem k87_24 : Kc C87 24 = (.ifCond .eq 12, 36, 0, 0, 0) := rfl
theorem k87_27 : Kc C87 27 = (.aload_n 0, 0, 0, 0, 0) := rfl
theorem k87_28 : Kc C87 28 = (.iload 4, 4, 0, 0, 0) := rfl
theorem k87_30 : Kc C87 30 = (.invokevirtual 93, 128, 1, 25, 0) := rfl
theorem k87_33 : Kc C87 33 = (.goto 17, 50, 0, 0, 0) := rfl
theorem k87_36 : Kc C87 36 = (.aload_n 0, 0, 0, 0, 0) := rfl
theorem k87_37 : Kc C87 37 = (.aload_n 0, 0, 0, 0, 0) := rfl
theorem k87_38 : Kc C87 38 = (.getfield 10, 8, 0, 0, 0) := rfl
theorem k87_41 : Kc C87 41 = (.iload_n 1, 1, 0, 0, 0) := rfl
theorem k87_42 : Kc C87 42 = (.iload_n 2, 2, 0, 0, 0) := rfl
theorem k87_43 : Kc C87 43 = (.iload_n 3, 3, 0, 0, 0) := rfl
theorem k87_44 : Kc C87 44 = (.invokevirtual 108, 64, 3, 16, 0) := rfl
theorem k87_47 : Kc C87 47 = (.invokevirtual 101, 129, 1, 25, 0) := rfl
theorem k87_50 : Kc C87 50 = (.ireturn, 0, 0, 0, 0) := rfl
theorem ev87 (d : Nat) (x0 : Nat) (x1 : Int32) (x2 : Int32) (x3 : Int32) (h : Hp) : EvM (d + 1) 87 [.ref x0, .int x1, .int x2, .int x3] h = EvI (EvM d) C87 1 0 [.ref x0, .int x1, .int x2, .int x3, jk] [] h := rfl
theorem k88_0 : Kc C88 0 = (.iload_n 1, 1, 0, 0, 0) := rfl
theorem k88_1 : Kc C88 1 = (.invokestatic 84, 122, 1, 26, 0) := rfl
theorem k88_4 : Kc C88 4 = (.ifCond .eq 10, 14, 0, 0, 0) := rfl
theorem k88_7 : Kc C88 7 = (.iload_n 3, 3, 0, 0, 0) := rfl
theorem k88_8 : Kc C88 8 = (.invokestatic 84, 122, 1, 26, 0) := rfl
theorem k88_11 : Kc C88 11 = (.ifCond .ne 6, 17, 0, 0, 0) := rfl
theorem k88_14 : Kc C88 14 = (.ldc 92, 0, 0, 0, (-1000001)) := rfl
theorem k88_16 : Kc C88 16 = (.ireturn, 0, 0, 0, 0) := rfl
theorem k88_17 : Kc C88 17 = (.aload_n 0, 0, 0, 0, 0) := rfl
theorem k88_18 : Kc C88 18 = (.getfield 10, 8, 0, 0, 0) := rfl
theorem k88_21 : Kc C88 21 = (.iload_n 1, 1, 0, 0, 0) := rfl
theorem k88_22 : Kc C88 22 = (.invokevirtual 111, 61, 1, 17, 0) := rfl
theorem k88_25 : Kc C88 25 = (.ifCond .ne 14, 39, 0, 0, 0) := rfl
theorem k88_28 : Kc C88 28 = (.aload_n 0, 0, 0, 0, 0) := rfl
theorem k88_29 : Kc C88 29 = (.getfield 10, 8, 0, 0, 0) := rfl
theorem k88_32 : Kc C88 32 = (.iload_n 3, 3, 0, 0, 0) := rfl
theorem k88_33 : Kc C88 33 = (.invokevirtual 111, 61, 1, 17, 0) := rfl
theorem k88_36 : Kc C88 36 = (.ifCond .eq 9, 45, 0, 0, 0) := rfl
theorem k88_39 : Kc C88 39 = (.aload_n 0, 0, 0, 0, 0) := rfl
theorem k88_40 : Kc C88 40 = (.iconst 1, 0, 0, 0, 1) := rfl
theorem k88_41 : Kc C88 41 = (.invokevirtual 93, 128, 1, 25, 0) := rfl
theorem k88_44 : Kc C88 44 = (.ireturn, 0, 0, 0, 0) := rfl
theorem k88_45 : Kc C88 45 = (.aload_n 0, 0, 0, 0, 0) := rfl
theorem k88_46 : Kc C88 46 = (.getfield 10, 8, 0, 0, 0) := rfl
theorem k88_49 : Kc C88 49 = (.getfield 114, 5, 0, 0, 0) := rfl
theorem k88_52 : Kc C88 52 = (.iload_n 1, 1, 0, 0, 0) := rfl
theorem k88_53 : Kc C88 53 = (.iaload, 0, 0, 0, 0) := rfl
theorem k88_54 : Kc C88 54 = (.aload_n 0, 0, 0, 0, 0) := rfl
theorem k88_55 : Kc C88 55 = (.getfield 10, 8, 0, 0, 0) := rfl
theorem k88_58 : Kc C88 58 = (.getfield 114, 5, 0, 0, 0) := rfl
theorem k88_61 : Kc C88 61 = (.iload_n 3, 3, 0, 0, 0) := rfl
theorem k88_62 : Kc C88 62 = (.iaload, 0, 0, 0, 0) := rfl
theorem k88_63 : Kc C88 63 = (.if_icmp .eq 9, 72, 0, 0, 0) := rfl
theorem k88_66 : Kc C88 66 = (.aload_n 0, 0, 0, 0, 0) := rfl
theorem k88_67 : Kc C88 67 = (.iconst 5, 0, 0, 0, 5) := rfl
theorem k88_68 : Kc C88 68 = (.invokevirtual 93, 128, 1, 25, 0) := rfl
theorem k88_71 : Kc C88 71 = (.ireturn, 0, 0, 0, 0) := rfl
theorem k88_72 : Kc C88 72 = (.aload_n 0, 0, 0, 0, 0) := rfl
theorem k88_73 : Kc C88 73 = (.getfield 10, 8, 0, 0, 0) := rfl
theorem k88_76 : Kc C88 76 = (.iload_n 1, 1, 0, 0, 0) := rfl
theorem k88_77 : Kc C88 77 = (.iload_n 2, 2, 0, 0, 0) := rfl
theorem k88_78 : Kc C88 78 = (.iload 5, 5, 0, 0, 0) := rfl
theorem k88_80 : Kc C88 80 = (.invokevirtual 104, 65, 3, 16, 0) := rfl
theorem k88_83 : Kc C88 83 = (.ifCond .ne 18, 101, 0, 0, 0) := rfl
theorem k88_86 : Kc C88 86 = (.aload_n 0, 0, 0, 0, 0) := rfl
theorem k88_87 : Kc C88 87 = (.getfield 10, 8, 0, 0, 0) := rfl
theorem k88_90 : Kc C88 90 = (.iload_n 3, 3, 0, 0, 0) := rfl
theorem k88_91 : Kc C88 91 = (.iload 4, 4, 0, 0, 0) := rfl
theorem k88_93 : Kc C88 93 = (.iload 5, 5, 0, 0, 0) := rfl
theorem k88_95 : Kc C88 95 = (.invokevirtual 104, 65, 3, 16, 0) := rfl
theorem k88_98 : Kc C88 98 = (.ifCond .eq 9, 107, 0, 0, 0) := rfl
theorem k88_101 : Kc C88 101 = (.aload_n 0, 0, 0, 0, 0) := rfl
theorem k88_102 : Kc C88 102 = (.iconst 2, 0, 0, 0, 2) := rfl
theorem k88_103 : Kc C88 103 = (.invokevirtual 93, 128, 1, 25, 0) := rfl
theorem k88_106 : Kc C88 106 = (.ireturn, 0, 0, 0, 0) := rfl
theorem k88_107 : Kc C88 107 = (.aload_n 0, 0, 0, 0, 0) := rfl
theorem k88_108 : Kc C88 108 = (.getfield 10, 8, 0, 0, 0) := rfl
theorem k88_111 : Kc C88 111 = (.getfield 117, 5, 2, 0, 0) := rfl
theorem k88_114 : Kc C88 114 = (.iload_n 1, 1, 0, 0, 0) := rfl
theorem k88_115 : Kc C88 115 = (.aaload, 0, 0, 0, 0) := rfl
theorem k88_116 : Kc C88 116 = (.iload_n 2, 2, 0, 0, 0) := rfl
theorem k88_117 : Kc C88 117 = (.aload_n 0, 0, 0, 0, 0) := rfl
theorem k88_118 : Kc C88 118 = (.getfield 10, 8, 0, 0, 0) := rfl
theorem k88_121 : Kc C88 121 = (.getfield 117, 5, 2, 0, 0) := rfl
theorem k88_124 : Kc C88 124 = (.iload_n 3, 3, 0, 0, 0) := rfl
theorem k88_125 : Kc C88 125 = (.aaload, 0, 0, 0, 0) := rfl
theorem k88_126 : Kc C88 126 = (.iload 4, 4, 0, 0, 0) := rfl
theorem k88_128 : Kc C88 128 = (.iload 5, 5, 0, 0, 0) := rfl
theorem k88_130 : Kc C88 130 = (.invokestatic 121, 1001, 5, 0, 0) := rfl
theorem k88_133 : Kc C88 133 = (.aload_n 0, 0, 0, 0, 0) := rfl
theorem k88_134 : Kc C88 134 = (.iload 5, 5, 0, 0, 0) := rfl
theorem k88_136 : Kc C88 136 = (.invokevirtual 101, 129, 1, 25, 0) := rfl
theorem k88_139 : Kc C88 139 = (.ireturn, 0, 0, 0, 0) := rfl
theorem ev88 (d : Nat) (x0 : Nat) (x1 : Int32) (x2 : Int32) (x3 : Int32) (x4 : Int32) (x5 : Int32) (h : Hp) : EvM (d + 1) 88 [.ref x0, .int x1, .int x2, .int x3, .int x4, .int x5] h = EvI (EvM d) C88 1 0 [.ref x0, .int x1, .int x2, .int x3, .int x4, .int x5] [] h := rfl
theorem k89_0 : Kc C89 0 = (.iload_n 1, 1, 0, 0, 0) := rfl
theorem k89_1 : Kc C89 1 = (.invokestatic 84, 122, 1, 26, 0) := rfl
theorem k89_4 : Kc C89 4 = (.ifCond .ne 6, 10, 0, 0, 0) := rfl
theorem k89_7 : Kc C89 7 = (.ldc 92, 0, 0, 0, (-1000001)) := rfl
theorem k89_9 : Kc C89 9 = (.ireturn, 0, 0, 0, 0) := rfl
theorem k89_10 : Kc C89 10 = (.aload_n 0, 0, 0, 0, 0) := rfl
theorem k89_11 : Kc C89 11 = (.getfield 10, 8, 0, 0, 0) := rfl
theorem k89_14 : Kc C89 14 = (.iload_n 1, 1, 0, 0, 0) := rfl
theorem k89_15 : Kc C89 15 = (.invokevirtual 111, 61, 1, 17, 0) := rfl
theorem k89_18 : Kc C89 18 = (.ifCond .eq 11, 29, 0, 0, 0) := rfl
theorem k89_21 : Kc C89 21 = (.aload_n 0, 0, 0, 0, 0) := rfl
theorem k89_22 : Kc C89 22 = (.iconst 1, 0, 0, 0, 1) := rfl
theorem k89_23 : Kc C89 23 = (.invokevirtual 93, 128, 1, 25, 0) := rfl
theorem k89_26 : Kc C89 26 = (.goto 15, 41, 0, 0, 0) := rfl
theorem k89_29 : Kc C89 29 = (.aload_n 0, 0, 0, 0, 0) := rfl
theorem k89_30 : Kc C89 30 = (.aload_n 0, 0, 0, 0, 0) := rfl
theorem k89_31 : Kc C89 31 = (.getfield 10, 8, 0, 0, 0) := rfl
theorem k89_34 : Kc C89 34 = (.iload_n 1, 1, 0, 0, 0) := rfl
theorem k89_35 : Kc C89 35 = (.invokevirtual 127, 63, 1, 16, 0) := rfl
theorem k89_38 : Kc C89 38 = (.invokevirtual 101, 129, 1, 25, 0) := rfl
theorem k89_41 : Kc C89 41 = (.ireturn, 0, 0, 0, 0) := rfl
theorem ev89 (d : Nat) (x0 : Nat) (x1 : Int32) (h : Hp) : EvM (d + 1) 89 [.ref x0, .int x1] h = EvI (EvM d) C89 1 0 [.ref x0, .int x1] [] h := rfl
theorem k90_0 : Kc C90 0 = (.iload_n 1, 1, 0, 0, 0) := rfl
theorem k90_1 : Kc C90 1 = (.iconst 0, 0, 0, 0, 0) := rfl
theorem k90_2 : Kc C90 2 = (.sipush 255, 0, 0, 0, 255) := rfl
theorem k90_5 : Kc C90 5 = (.invokestatic 88, 121, 3, 26, 0) := rfl
theorem k90_8 : Kc C90 8 = (.ifCond .ne 6, 14, 0, 0, 0) := rfl
theorem k90_11 : Kc C90 11 = (.ldc 92, 0, 0, 0, (-1000001)) := rfl
theorem k90_13 : Kc C90 13 = (.ireturn, 0, 0, 0, 0) := rfl
theorem k90_14 : Kc C90 14 = (.aload_n 0, 0, 0, 0, 0) := rfl
theorem k90_15 : Kc C90 15 = (.getfield 19, 8, 1, 0, 0) := rfl
theorem k90_18 : Kc C90 18 = (.getfield 130, 7, 1, 0, 0) := rfl
theorem k90_21 : Kc C90 21 = (.bipush 120, 0, 0, 0, 120) := rfl
theorem k90_23 : Kc C90 23 = (.if_icmp .lt 8, 31, 0, 0, 0) := rfl
theorem k90_26 : Kc C90 26 = (.ldc 133, 0, 0, 0, (-1000003)) := rfl
theorem k90_28 : Kc C90 28 = (.goto 11, 39, 0, 0, 0) := rfl
theorem k90_31 : Kc C90 31 = (.aload_n 0, 0, 0, 0, 0) := rfl
theorem k90_32 : Kc C90 32 = (.getfield 19, 8, 1, 0, 0) := rfl
theorem k90_35 : Kc C90 35 = (.iload_n 1, 1, 0, 0, 0) := rfl
theorem k90_36 : Kc C90 36 = (.invokevirtual 134, 76, 1, 22, 0) := rfl
theorem k90_39 : Kc C90 39 = (.ireturn, 0, 0, 0, 0) := rfl
theorem ev90 (d : Nat) (x0 : Nat) (x1 : Int32) (h : Hp) : EvM (d + 1) 90 [.ref x0, .int x1] h = EvI (EvM d) C90 1 0 [.ref x0, .int x1] [] h := rfl
theorem k91_0 : Kc C91 0 = (.aload_n 0, 0, 0, 0, 0) := rfl
theorem k91_1 : Kc C91 1 = (.getfield 19, 8, 1, 0, 0) := rfl
theorem k91_4 : Kc C91 4 = (.aload_n 0, 0, 0, 0, 0) := rfl
theorem k91_5 : Kc C91 5 = (.getfield 58, 8, 7, 0, 0) := rfl
theorem k91_8 : Kc C91 8 = (.invokevirtual 137, 77, 1, 23, 0) := rfl
theorem k91_11 : Kc C91 11 = (.istore_n 1, 1, 0, 0, 0) := rfl
theorem k91_12 : Kc C91 12 = (.aload_n 0, 0, 0, 0, 0) := rfl
theorem k91_13 : Kc C91 13 = (.getfield 19, 8, 1, 0, 0) := rfl
theorem k91_16 : Kc C91 16 = (.iconst 0, 0, 0, 0, 0) := rfl
theorem k91_17 : Kc C91 17 = (.putfield 130, 7, 1, 0, 0) := rfl
theorem k91_20 : Kc C91 20 = (.iload_n 1, 1, 0, 0, 0) := rfl
theorem k91_21 : Kc C91 21 = (.ifCond .ne 25, 46, 0, 0, 0) := rfl
theorem k91_24 : Kc C91 24 = (.aload_n 0, 0, 0, 0, 0) := rfl
theorem k91_25 : Kc C91 25 = (.aload_n 0, 0, 0, 0, 0) := rfl
theorem k91_26 : Kc C91 26 = (.getfield 19, 8, 1, 0, 0) := rfl
theorem k91_29 : Kc C91 29 = (.getfield 141, 7, 2, 0, 0) := rfl
theorem k91_32 : Kc C91 32 = (.putfield 77, 8, 12, 0, 0) := rfl
theorem k91_35 : Kc C91 35 = (.ldc 144, 0, 0, 0, (-1000100)) := rfl
theorem k91_37 : Kc C91 37 = (.aload_n 0, 0, 0, 0, 0) := rfl
theorem k91_38 : Kc C91 38 = (.getfield 19, 8, 1, 0, 0) := rfl
theorem k91_41 : Kc C91 41 = (.getfield 145, 7, 3, 0, 0) := rfl
theorem k91_44 : Kc C91 44 = (.isub, 0, 0, 0, 0) := rfl
theorem k91_45 : Kc C91 45 = (.ireturn, 0, 0, 0, 0) := rfl
theorem k91_46 : Kc C91 46 = (.aload_n 0, 0, 0, 0, 0) := rfl
theorem k91_47 : Kc C91 47 = (.getfield 54, 8, 6, 0, 0) := rfl
theorem k91_50 : Kc C91 50 = (.aload_n 0, 0, 0, 0, 0) := rfl
theorem k91_51 : Kc C91 51 = (.getfield 58, 8, 7, 0, 0) := rfl
theorem k91_54 : Kc C91 54 = (.invokevirtual 148, 19, 1, 6, 0) := rfl
theorem k91_57 : Kc C91 57 = (.aload_n 0, 0, 0, 0, 0) := rfl
theorem k91_58 : Kc C91 58 = (.iconst 1, 0, 0, 0, 1) := rfl
theorem k91_59 : Kc C91 59 = (.putfield 73, 8, 11, 0, 0) := rfl
theorem k91_62 : Kc C91 62 = (.aload_n 0, 0, 0, 0, 0) := rfl
theorem k91_63 : Kc C91 63 = (.getfield 26, 8, 2, 0, 0) := rfl
theorem k91_66 : Kc C91 66 = (.iconst 0, 0, 0, 0, 0) := rfl
theorem k91_67 : Kc C91 67 = (.putfield 152, 0, 2, 0, 0) := rfl
theorem k91_70 : Kc C91 70 = (.aload_n 0, 0, 0, 0, 0) := rfl
theorem k91_71 : Kc C91 71 = (.getfield 54, 8, 6, 0, 0) := rfl
theorem k91_74 : Kc C91 74 = (.getfield 153, 2, 3, 0, 0) := rfl
theorem k91_77 : Kc C91 77 = (.ireturn, 0, 0, 0, 0) := rfl
theorem ev91 (d : Nat) (x0 : Nat) (h : Hp) : EvM (d + 1) 91 [.ref x0] h = EvI (EvM d) C91 1 0 [.ref x0, jk] [] h := rfl
theorem k92_0 : Kc C92 0 = (.aload_n 0, 0, 0, 0, 0) := rfl
theorem k92_1 : Kc C92 1 = (.getfield 77, 8, 12, 0, 0) := rfl
theorem k92_4 : Kc C92 4 = (.ireturn, 0, 0, 0, 0) := rfl
theorem ev92 (d : Nat) (x0 : Nat) (h : Hp) : EvM (d + 1) 92 [.ref x0] h = EvI (EvM d) C92 1 0 [.ref x0] [] h := rfl
theorem k93_0 : Kc C93 0 = (.aload_n 0, 0, 0, 0, 0) := rfl
theorem k93_1 : Kc C93 1 = (.getfield 26, 8, 2, 0, 0) := rfl
theorem k93_4 : Kc C93 4 = (.getfield 152, 0, 2, 0, 0) := rfl
theorem k93_7 : Kc C93 7 = (.iconst 1, 0, 0, 0, 1) := rfl
theorem k93_8 : Kc C93 8 = (.if_icmp .ge 6, 14, 0, 0, 0) := rfl
theorem k93_11 : Kc C93 11 = (.ldc 156, 0, 0, 0, (-1000002)) := rfl
theorem k93_13 : Kc C93 13 = (.ireturn, 0, 0, 0, 0) := rfl
theorem k93_14 : Kc C93 14 = (.aload_n 0, 0, 0, 0, 0) := rfl
theorem k93_15 : Kc C93 15 = (.getfield 26, 8, 2, 0, 0) := rfl
theorem k93_18 : Kc C93 18 = (.aload_n 0, 0, 0, 0, 0) := rfl
theorem k93_19 : Kc C93 19 = (.getfield 54, 8, 6, 0, 0) := rfl
theorem k93_22 : Kc C93 22 = (.invokevirtual 157, 2, 1, 0, 0) := rfl
theorem k93_25 : Kc C93 25 = (.aload_n 0, 0, 0, 0, 0) := rfl
theorem k93_26 : Kc C93 26 = (.getfield 26, 8, 2, 0, 0) := rfl
theorem k93_29 : Kc C93 29 = (.getfield 152, 0, 2, 0, 0) := rfl
theorem k93_32 : Kc C93 32 = (.ireturn, 0, 0, 0, 0) := rfl
theorem ev93 (d : Nat) (x0 : Nat) (h : Hp) : EvM (d + 1) 93 [.ref x0] h = EvI (EvM d) C93 1 0 [.ref x0] [] h := rfl
theorem k94_0 : Kc C94 0 = (.aload_n 0, 0, 0, 0, 0) := rfl
theorem k94_1 : Kc C94 1 = (.iload_n 1, 1, 0, 0, 0) := rfl
theorem k94_2 : Kc C94 2 = (.invokevirtual 160, 123, 1, 26, 0) := rfl
theorem k94_5 : Kc C94 5 = (.ifCond .eq 14, 19, 0, 0, 0) := rfl
theorem k94_8 : Kc C94 8 = (.iload_n 2, 2, 0, 0, 0) := rfl
theorem k94_9 : Kc C94 9 = (.iconst 1, 0, 0, 0, 1) := rfl
theorem k94_10 : Kc C94 10 = (.sipush 999, 0, 0, 0, 999) := rfl
theorem k94_13 : Kc C94 13 = (.invokestatic 88, 121, 3, 26, 0) := rfl
theorem k94_16 : Kc C94 16 = (.ifCond .ne 6, 22, 0, 0, 0) := rfl
theorem k94_19 : Kc C94 19 = (.ldc 92, 0, 0, 0, (-1000001)) := rfl
theorem k94_21 : Kc C94 21 = (.ireturn, 0, 0, 0, 0) := rfl
theorem k94_22 : Kc C94 22 = (.aload_n 0, 0, 0, 0, 0) := rfl
theorem k94_23 : Kc C94 23 = (.getfield 54, 8, 6, 0, 0) := rfl
theorem k94_26 : Kc C94 26 = (.getfield 163, 2, 4, 0, 0) := rfl
theorem k94_29 : Kc C94 29 = (.iload_n 1, 1, 0, 0, 0) := rfl
theorem k94_30 : Kc C94 30 = (.aaload, 0, 0, 0, 0) := rfl
theorem k94_31 : Kc C94 31 = (.astore_n 3, 3, 0, 0, 0) := rfl
theorem k94_32 : Kc C94 32 = (.aload_n 3, 3, 0, 0, 0) := rfl
theorem k94_33 : Kc C94 33 = (.invokevirtual 167, 50, 0, 13, 0) := rfl
theorem k94_36 : Kc C94 36 = (.iload_n 2, 2, 0, 0, 0) := rfl
theorem k94_37 : Kc C94 37 = (.iadd, 0, 0, 0, 0) := rfl
theorem k94_38 : Kc C94 38 = (.sipush 9999, 0, 0, 0, 9999) := rfl
theorem k94_41 : Kc C94 41 = (.if_icmp .le 6, 47, 0, 0, 0) := rfl
theorem k94_44 : Kc C94 44 = (.ldc 133, 0, 0, 0, (-1000003)) := rfl
theorem k94_46 : Kc C94 46 = (.ireturn, 0, 0, 0, 0) := rfl
theorem k94_47 : Kc C94 47 = (.aload_n 0, 0, 0, 0, 0) := rfl
theorem k94_48 : Kc C94 48 = (.getfield 26, 8, 2, 0, 0) := rfl
theorem k94_51 : Kc C94 51 = (.aload_n 0, 0, 0, 0, 0) := rfl
theorem k94_52 : Kc C94 52 = (.getfield 54, 8, 6, 0, 0) := rfl
theorem k94_55 : Kc C94 55 = (.invokevirtual 173, 1, 1, 0, 0) := rfl
theorem k94_58 : Kc C94 58 = (.aload_n 3, 3, 0, 0, 0) := rfl
theorem k94_59 : Kc C94 59 = (.iload_n 2, 2, 0, 0, 0) := rfl
theorem k94_60 : Kc C94 60 = (.aload_n 0, 0, 0, 0, 0) := rfl
theorem k94_61 : Kc C94 61 = (.getfield 54, 8, 6, 0, 0) := rfl
theorem k94_64 : Kc C94 64 = (.getfield 176, 2, 2, 0, 0) := rfl
theorem k94_67 : Kc C94 67 = (.invokevirtual 179, 52, 2, 12, 0) := rfl
theorem k94_70 : Kc C94 70 = (.aload_n 3, 3, 0, 0, 0) := rfl
theorem k94_71 : Kc C94 71 = (.invokevirtual 167, 50, 0, 13, 0) := rfl
theorem k94_74 : Kc C94 74 = (.ireturn, 0, 0, 0, 0) := rfl
theorem ev94 (d : Nat) (x0 : Nat) (x1 : Int32) (x2 : Int32) (h : Hp) : EvM (d + 1) 94 [.ref x0, .int x1, .int x2] h = EvI (EvM d) C94 1 0 [.ref x0, .int x1, .int x2, jk] [] h := rfl
theorem k95_0 : Kc C95 0 = (.aload_n 0, 0, 0, 0, 0) := rfl
theorem k95_1 : Kc C95 1 = (.iload_n 1, 1, 0, 0, 0) := rfl
theorem k95_2 : Kc C95 2 = (.invokevirtual 160, 123, 1, 26, 0) := rfl
theorem k95_5 : Kc C95 5 = (.ifCond .eq 14, 19, 0, 0, 0) := rfl
theorem k95_8 : Kc C95 8 = (.iload_n 2, 2, 0, 0, 0) := rfl
theorem k95_9 : Kc C95 9 = (.iconst 1, 0, 0, 0, 1) := rfl
theorem k95_10 : Kc C95 10 = (.sipush 999, 0, 0, 0, 999) := rfl
theorem k95_13 : Kc C95 13 = (.invokestatic 88, 121, 3, 26, 0) := rfl
theorem k95_16 : Kc C95 16 = (.ifCond .ne 6, 22, 0, 0, 0) := rfl
theorem k95_19 : Kc C95 19 = (.ldc 92, 0, 0, 0, (-1000001)) := rfl
theorem k95_21 : Kc C95 21 = (.ireturn, 0, 0, 0, 0) := rfl
theorem k95_22 : Kc C95 22 = (.aload_n 0, 0, 0, 0, 0) := rfl
theorem k95_23 : Kc C95 23 = (.getfield 26, 8, 2, 0, 0) := rfl
theorem k95_26 : Kc C95 26 = (.aload_n 0, 0, 0, 0, 0) := rfl
theorem k95_27 : Kc C95 27 = (.getfield 54, 8, 6, 0, 0) := rfl
theorem k95_30 : Kc C95 30 = (.invokevirtual 173, 1, 1, 0, 0) := rfl
theorem k95_33 : Kc C95 33 = (.aload_n 0, 0, 0, 0, 0) := rfl
theorem k95_34 : Kc C95 34 = (.getfield 54, 8, 6, 0, 0) := rfl
theorem k95_37 : Kc C95 37 = (.getfield 163, 2, 4, 0, 0) := rfl
theorem k95_40 : Kc C95 40 = (.iload_n 1, 1, 0, 0, 0) := rfl
theorem k95_41 : Kc C95 41 = (.aaload, 0, 0, 0, 0) := rfl
theorem k95_42 : Kc C95 42 = (.iload_n 2, 2, 0, 0, 0) := rfl
theorem k95_43 : Kc C95 43 = (.invokevirtual 183, 54, 1, 12, 0) := rfl
theorem k95_46 : Kc C95 46 = (.aload_n 0, 0, 0, 0, 0) := rfl
theorem k95_47 : Kc C95 47 = (.getfield 54, 8, 6, 0, 0) := rfl
theorem k95_50 : Kc C95 50 = (.getfield 163, 2, 4, 0, 0) := rfl
theorem k95_53 : Kc C95 53 = (.iload_n 1, 1, 0, 0, 0) := rfl
theorem k95_54 : Kc C95 54 = (.aaload, 0, 0, 0, 0) := rfl
theorem k95_55 : Kc C95 55 = (.getfield 187, 4, 5, 0, 0) := rfl
theorem k95_58 : Kc C95 58 = (.ireturn, 0, 0, 0, 0) := rfl
theorem ev95 (d : Nat) (x0 : Nat) (x1 : Int32) (x2 : Int32) (h : Hp) : EvM (d + 1) 95 [.ref x0, .int x1, .int x2] h = EvI (EvM d) C95 1 0 [.ref x0, .int x1, .int x2] [] h := rfl
theorem k96_0 : Kc C96 0 = (.aload_n 0, 0, 0, 0, 0) := rfl
theorem k96_1 : Kc C96 1 = (.iload_n 1, 1, 0, 0, 0) := rfl
theorem k96_2 : Kc C96 2 = (.iload_n 2, 2, 0, 0, 0) := rfl
theorem k96_3 : Kc C96 3 = (.iload_n 3, 3, 0, 0, 0) := rfl
theorem k96_4 : Kc C96 4 = (.iload 4, 4, 0, 0, 0) := rfl
theorem k96_6 : Kc C96 6 = (.invokevirtual 190, 124, 4, 26, 0) := rfl
theorem k96_9 : Kc C96 9 = (.ifCond .ne 6, 15, 0, 0, 0) := rfl
theorem k96_12 : Kc C96 12 = (.ldc 92, 0, 0, 0, (-1000001)) := rfl
theorem k96_14 : Kc C96 14 = (.ireturn, 0, 0, 0, 0) := rfl
theorem k96_15 : Kc C96 15 = (.aload_n 0, 0, 0, 0, 0) := rfl
theorem k96_16 : Kc C96 16 = (.getfield 54, 8, 6, 0, 0) := rfl
theorem k96_19 : Kc C96 19 = (.iload_n 1, 1, 0, 0, 0) := rfl
theorem k96_20 : Kc C96 20 = (.iload_n 2, 2, 0, 0, 0) := rfl
theorem k96_21 : Kc C96 21 = (.iload_n 3, 3, 0, 0, 0) := rfl
theorem k96_22 : Kc C96 22 = (.invokevirtual 194, 26, 3, 7, 0) := rfl
theorem k96_25 : Kc C96 25 = (.istore 5, 5, 0, 0, 0) := rfl
theorem k96_27 : Kc C96 27 = (.iload 5, 5, 0, 0, 0) := rfl
theorem k96_29 : Kc C96 29 = (.ifCond .eq 6, 35, 0, 0, 0) := rfl
theorem k96_32 : Kc C96 32 = (.iload 5, 5, 0, 0, 0) := rfl
theorem k96_34 : Kc C96 34 = (.ireturn, 0, 0, 0, 0) := rfl
theorem k96_35 : Kc C96 35 = (.aload_n 0, 0, 0, 0, 0) := rfl
theorem k96_36 : Kc C96 36 = (.getfield 26, 8, 2, 0, 0) := rfl
theorem k96_39 : Kc C96 39 = (.aload_n 0, 0, 0, 0, 0) := rfl
theorem k96_40 : Kc C96 40 = (.getfield 54, 8, 6, 0, 0) := rfl
theorem k96_43 : Kc C96 43 = (.invokevirtual 173, 1, 1, 0, 0) := rfl
theorem k96_46 : Kc C96 46 = (.aload_n 0, 0, 0, 0, 0) := rfl
theorem k96_47 : Kc C96 47 = (.getfield 54, 8, 6, 0, 0) := rfl
theorem k96_50 : Kc C96 50 = (.iload_n 1, 1, 0, 0, 0) := rfl
theorem k96_51 : Kc C96 51 = (.iload_n 2, 2, 0, 0, 0) := rfl
theorem k96_52 : Kc C96 52 = (.iload_n 3, 3, 0, 0, 0) := rfl
theorem k96_53 : Kc C96 53 = (.iload 4, 4, 0, 0, 0) := rfl
theorem k96_55 : Kc C96 55 = (.invokevirtual 197, 27, 4, 6, 0) := rfl
theorem k96_58 : Kc C96 58 = (.aload_n 0, 0, 0, 0, 0) := rfl
theorem k96_59 : Kc C96 59 = (.getfield 54, 8, 6, 0, 0) := rfl
theorem k96_62 : Kc C96 62 = (.getfield 163, 2, 4, 0, 0) := rfl
theorem k96_65 : Kc C96 65 = (.iload_n 2, 2, 0, 0, 0) := rfl
theorem k96_66 : Kc C96 66 = (.aaload, 0, 0, 0, 0) := rfl
theorem k96_67 : Kc C96 67 = (.invokevirtual 167, 50, 0, 13, 0) := rfl
theorem k96_70 : Kc C96 70 = (.ireturn, 0, 0, 0, 0) := rfl
theorem ev96 (d : Nat) (x0 : Nat) (x1 : Int32) (x2 : Int32) (x3 : Int32) (x4 : Int32) (h : Hp) : EvM (d + 1) 96 [.ref x0, .int x1, .int x2, .int x3, .int x4] h = EvI (EvM d) C96 1 0 [.ref x0, .int x1, .int x2, .int x3, .int x4, jk] [] h := rfl
theorem k97_0 : Kc C97 0 = (.aload_n 0, 0, 0, 0, 0) := rfl
theorem k97_1 : Kc C97 1 = (.iload_n 1, 1, 0, 0, 0) := rfl
theorem k97_2 : Kc C97 2 = (.invokevirtual 160, 123, 1, 26, 0) := rfl
theorem k97_5 : Kc C97 5 = (.ifCond .eq 14, 19, 0, 0, 0) := rfl
theorem k97_8 : Kc C97 8 = (.iload_n 2, 2, 0, 0, 0) := rfl
theorem k97_9 : Kc C97 9 = (.iconst 1, 0, 0, 0, 1) := rfl
theorem k97_10 : Kc C97 10 = (.sipush 999, 0, 0, 0, 999) := rfl
theorem k97_13 : Kc C97 13 = (.invokestatic 88, 121, 3, 26, 0) := rfl
theorem k97_16 : Kc C97 16 = (.ifCond .ne 6, 22, 0, 0, 0) := rfl
theorem k97_19 : Kc C97 19 = (.ldc 92, 0, 0, 0, (-1000001)) := rfl
theorem k97_21 : Kc C97 21 = (.ireturn, 0, 0, 0, 0) := rfl
theorem k97_22 : Kc C97 22 = (.aload_n 0, 0, 0, 0, 0) := rfl
theorem k97_23 : Kc C97 23 = (.getfield 54, 8, 6, 0, 0) := rfl
theorem k97_26 : Kc C97 26 = (.getfield 163, 2, 4, 0, 0) := rfl
theorem k97_29 : Kc C97 29 = (.iload_n 1, 1, 0, 0, 0) := rfl
theorem k97_30 : Kc C97 30 = (.aaload, 0, 0, 0, 0) := rfl
theorem k97_31 : Kc C97 31 = (.astore_n 3, 3, 0, 0, 0) := rfl
theorem k97_32 : Kc C97 32 = (.aload_n 3, 3, 0, 0, 0) := rfl
theorem k97_33 : Kc C97 33 = (.invokevirtual 167, 50, 0, 13, 0) := rfl
theorem k97_36 : Kc C97 36 = (.iload_n 2, 2, 0, 0, 0) := rfl
theorem k97_37 : Kc C97 37 = (.if_icmp .lt 11, 48, 0, 0, 0) := rfl
theorem k97_40 : Kc C97 40 = (.aload_n 3, 3, 0, 0, 0) := rfl
theorem k97_41 : Kc C97 41 = (.getfield 187, 4, 5, 0, 0) := rfl
theorem k97_44 : Kc C97 44 = (.iload_n 2, 2, 0, 0, 0) := rfl
theorem k97_45 : Kc C97 45 = (.if_icmp .ge 6, 51, 0, 0, 0) := rfl
theorem k97_48 : Kc C97 48 = (.ldc 156, 0, 0, 0, (-1000002)) := rfl
theorem k97_50 : Kc C97 50 = (.ireturn, 0, 0, 0, 0) := rfl
theorem k97_51 : Kc C97 51 = (.aload_n 0, 0, 0, 0, 0) := rfl
theorem k97_52 : Kc C97 52 = (.getfield 26, 8, 2, 0, 0) := rfl
theorem k97_55 : Kc C97 55 = (.aload_n 0, 0, 0, 0, 0) := rfl
theorem k97_56 : Kc C97 56 = (.getfield 54, 8, 6, 0, 0) := rfl
theorem k97_59 : Kc C97 59 = (.invokevirtual 173, 1, 1, 0, 0) := rfl
theorem k97_62 : Kc C97 62 = (.aload_n 3, 3, 0, 0, 0) := rfl
theorem k97_63 : Kc C97 63 = (.iload_n 2, 2, 0, 0, 0) := rfl
theorem k97_64 : Kc C97 64 = (.invokevirtual 201, 53, 1, 13, 0) := rfl
theorem k97_67 : Kc C97 67 = (.pop, 0, 0, 0, 0) := rfl
theorem k97_68 : Kc C97 68 = (.aload_n 3, 3, 0, 0, 0) := rfl
theorem k97_69 : Kc C97 69 = (.dup, 0, 0, 0, 0) := rfl
theorem k97_70 : Kc C97 70 = (.getfield 187, 4, 5, 0, 0) := rfl
theorem k97_73 : Kc C97 73 = (.iload_n 2, 2, 0, 0, 0) := rfl
theorem k97_74 : Kc C97 74 = (.isub, 0, 0, 0, 0) := rfl
theorem k97_75 : Kc C97 75 = (.putfield 187, 4, 5, 0, 0) := rfl
theorem k97_78 : Kc C97 78 = (.aload_n 3, 3, 0, 0, 0) := rfl
theorem k97_79 : Kc C97 79 = (.getfield 187, 4, 5, 0, 0) := rfl
theorem k97_82 : Kc C97 82 = (.ireturn, 0, 0, 0, 0) := rfl
theorem ev97 (d : Nat) (x0 : Nat) (x1 : Int32) (x2 : Int32) (h : Hp) : EvM (d + 1) 97 [.ref x0, .int x1, .int x2] h = EvI (EvM d) C97 1 0 [.ref x0, .int x1, .int x2, jk] [] h := rfl
theorem k98_0 : Kc C98 0 = (.aload_n 0, 0, 0, 0, 0) := rfl
theorem k98_1 : Kc C98 1 = (.iload_n 1, 1, 0, 0, 0) := rfl
theorem k98_2 : Kc C98 2 = (.invokevirtual 160, 123, 1, 26, 0) := rfl
theorem k98_5 : Kc C98 5 = (.ifCond .eq 16, 21, 0, 0, 0) := rfl
theorem k98_8 : Kc C98 8 = (.aload_n 0, 0, 0, 0, 0) := rfl
theorem k98_9 : Kc C98 9 = (.iload_n 2, 2, 0, 0, 0) := rfl
theorem k98_10 : Kc C98 10 = (.invokevirtual 160, 123, 1, 26, 0) := rfl
theorem k98_13 : Kc C98 13 = (.ifCond .eq 8, 21, 0, 0, 0) := rfl
theorem k98_16 : Kc C98 16 = (.iload_n 1, 1, 0, 0, 0) := rfl
theorem k98_17 : Kc C98 17 = (.iload_n 2, 2, 0, 0, 0) := rfl
theorem k98_18 : Kc C98 18 = (.if_icmp .ne 6, 24, 0, 0, 0) := rfl
theorem k98_21 : Kc C98 21 = (.ldc 92, 0, 0, 0, (-1000001)) := rfl
theorem k98_23 : Kc C98 23 = (.ireturn, 0, 0, 0, 0) := rfl
theorem k98_24 : Kc C98 24 = (.aload_n 0, 0, 0, 0, 0) := rfl
theorem k98_25 : Kc C98 25 = (.getfield 54, 8, 6, 0, 0) := rfl
theorem k98_28 : Kc C98 28 = (.getfield 163, 2, 4, 0, 0) := rfl
theorem k98_31 : Kc C98 31 = (.iload_n 1, 1, 0, 0, 0) := rfl
theorem k98_32 : Kc C98 32 = (.aaload, 0, 0, 0, 0) := rfl
theorem k98_33 : Kc C98 33 = (.astore_n 3, 3, 0, 0, 0) := rfl
theorem k98_34 : Kc C98 34 = (.aload_n 0, 0, 0, 0, 0) := rfl
theorem k98_35 : Kc C98 35 = (.getfield 54, 8, 6, 0, 0) := rfl
theorem k98_38 : Kc C98 38 = (.getfield 163, 2, 4, 0, 0) := rfl
theorem k98_41 : Kc C98 41 = (.iload_n 2, 2, 0, 0, 0) := rfl
theorem k98_42 : Kc C98 42 = (.aaload, 0, 0, 0, 0) := rfl
theorem k98_43 : Kc C98 43 = (.astore 4, 4, 0, 0, 0) := rfl
theorem k98_45 : Kc C98 45 = (.aload_n 3, 3, 0, 0, 0) := rfl
theorem k98_46 : Kc C98 46 = (.invokevirtual 167, 50, 0, 13, 0) := rfl
theorem k98_49 : Kc C98 49 = (.aload 4, 4, 0, 0, 0) := rfl
theorem k98_51 : Kc C98 51 = (.invokevirtual 167, 50, 0, 13, 0) := rfl
theorem k98_54 : Kc C98 54 = (.iadd, 0, 0, 0, 0) := rfl
theorem k98_55 : Kc C98 55 = (.sipush 9999, 0, 0, 0, 9999) := rfl
theorem k98_58 : Kc C98 58 = (.if_icmp .le 6, 64, 0, 0, 0) := rfl
theorem k98_61 : Kc C98 61 = (.ldc 133, 0, 0, 0, (-1000003)) := rfl
theorem k98_63 : Kc C98 63 = (.ireturn, 0, 0, 0, 0) := rfl
theorem k98_64 : Kc C98 64 = (.aload_n 0, 0, 0, 0, 0) := rfl
theorem k98_65 : Kc C98 65 = (.getfield 26, 8, 2, 0, 0) := rfl
theorem k98_68 : Kc C98 68 = (.aload_n 0, 0, 0, 0, 0) := rfl
theorem k98_69 : Kc C98 69 = (.getfield 54, 8, 6, 0, 0) := rfl
theorem k98_72 : Kc C98 72 = (.invokevirtual 173, 1, 1, 0, 0) := rfl
theorem k98_75 : Kc C98 75 = (.aload_n 3, 3, 0, 0, 0) := rfl
theorem k98_76 : Kc C98 76 = (.aload 4, 4, 0, 0, 0) := rfl
theorem k98_78 : Kc C98 78 = (.aload_n 0, 0, 0, 0, 0) := rfl
theorem k98_79 : Kc C98 79 = (.getfield 54, 8, 6, 0, 0) := rfl
theorem k98_82 : Kc C98 82 = (.getfield 176, 2, 2, 0, 0) := rfl
theorem k98_85 : Kc C98 85 = (.invokevirtual 204, 55, 2, 12, 0) := rfl
theorem k98_88 : Kc C98 88 = (.aload 4, 4, 0, 0, 0) := rfl
theorem k98_90 : Kc C98 90 = (.invokevirtual 167, 50, 0, 13, 0) := rfl
theorem k98_93 : Kc C98 93 = (.ireturn, 0, 0, 0, 0) := rfl
theorem ev98 (d : Nat) (x0 : Nat) (x1 : Int32) (x2 : Int32) (h : Hp) : EvM (d + 1) 98 [.ref x0, .int x1, .int x2] h = EvI (EvM d) C98 1 0 [.ref x0, .int x1, .int x2, jk, jk] [] h := rfl
theorem k99_0 : Kc C99 0 = (.aload_n 0, 0, 0, 0, 0) := rfl
theorem k99_1 : Kc C99 1 = (.iload_n 1, 1, 0, 0, 0) := rfl
theorem k99_2 : Kc C99 2 = (.invokevirtual 160, 123, 1, 26, 0) := rfl
theorem k99_5 : Kc C99 5 = (.ifCond .ne 6, 11, 0, 0, 0) := rfl
theorem k99_8 : Kc C99 8 = (.ldc 92, 0, 0, 0, (-1000001)) := rfl
theorem k99_10 : Kc C99 10 = (.ireturn, 0, 0, 0, 0) := rfl
theorem k99_11 : Kc C99 11 = (.aload_n 0, 0, 0, 0, 0) := rfl
theorem k99_12 : Kc C99 12 = (.getfield 26, 8, 2, 0, 0) := rfl
theorem k99_15 : Kc C99 15 = (.aload_n 0, 0, 0, 0, 0) := rfl
theorem k99_16 : Kc C99 16 = (.getfield 54, 8, 6, 0, 0) := rfl
theorem k99_19 : Kc C99 19 = (.invokevirtual 173, 1, 1, 0, 0) := rfl
theorem k99_22 : Kc C99 22 = (.aload_n 0, 0, 0, 0, 0) := rfl
theorem k99_23 : Kc C99 23 = (.getfield 54, 8, 6, 0, 0) := rfl
theorem k99_26 : Kc C99 26 = (.getfield 163, 2, 4, 0, 0) := rfl
theorem k99_29 : Kc C99 29 = (.iload_n 1, 1, 0, 0, 0) := rfl
theorem k99_30 : Kc C99 30 = (.aaload, 0, 0, 0, 0) := rfl
theorem k99_31 : Kc C99 31 = (.getfield 187, 4, 5, 0, 0) := rfl
theorem k99_34 : Kc C99 34 = (.istore_n 2, 2, 0, 0, 0) := rfl
theorem k99_35 : Kc C99 35 = (.aload_n 0, 0, 0, 0, 0) := rfl
theorem k99_36 : Kc C99 36 = (.getfield 54, 8, 6, 0, 0) := rfl
theorem k99_39 : Kc C99 39 = (.getfield 163, 2, 4, 0, 0) := rfl
theorem k99_42 : Kc C99 42 = (.iload_n 1, 1, 0, 0, 0) := rfl
theorem k99_43 : Kc C99 43 = (.aaload, 0, 0, 0, 0) := rfl
theorem k99_44 : Kc C99 44 = (.iconst 0, 0, 0, 0, 0) := rfl
theorem k99_45 : Kc C99 45 = (.putfield 187, 4, 5, 0, 0) := rfl
theorem k99_48 : Kc C99 48 = (.iload_n 2, 2, 0, 0, 0) := rfl
theorem k99_49 : Kc C99 49 = (.ireturn, 0, 0, 0, 0) := rfl
theorem ev99 (d : Nat) (x0 : Nat) (x1 : Int32) (h : Hp) : EvM (d + 1) 99 [.ref x0, .int x1] h = EvI (EvM d) C99 1 0 [.ref x0, .int x1, jk] [] h := rfl
theorem k100_0 : Kc C100 0 = (.aload_n 0, 0, 0, 0, 0) := rfl
theorem k100_1 : Kc C100 1 = (.getfield 73, 8, 11, 0, 0) := rfl
theorem k100_4 : Kc C100 4 = (.ifCond .ne 6, 10, 0, 0, 0) := rfl
theorem k100_7 : Kc C100 7 = (.ldc 156, 0, 0, 0, (-1000002)) := rfl
theorem k100_9 : Kc C100 9 = (.ireturn, 0, 0, 0, 0) := rfl
theorem k100_10 : Kc C100 10 = (.iload_n 1, 1, 0, 0, 0) := rfl
theorem k100_11 : Kc C100 11 = (.iconst 1, 0, 0, 0, 1) := rfl
theorem k100_12 : Kc C100 12 = (.ldc 208, 0, 0, 0, 999999) := rfl
theorem k100_14 : Kc C100 14 = (.invokestatic 88, 121, 3, 26, 0) := rfl
theorem k100_17 : Kc C100 17 = (.ifCond .ne 6, 23, 0, 0, 0) := rfl
theorem k100_20 : Kc C100 20 = (.ldc 92, 0, 0, 0, (-1000001)) := rfl
theorem k100_22 : Kc C100 22 = (.ireturn, 0, 0, 0, 0) := rfl
theorem k100_23 : Kc C100 23 = (.aload_n 0, 0, 0, 0, 0) := rfl
theorem k100_24 : Kc C100 24 = (.getfield 54, 8, 6, 0, 0) := rfl
theorem k100_27 : Kc C100 27 = (.getfield 176, 2, 2, 0, 0) := rfl
theorem k100_30 : Kc C100 30 = (.sipush 999, 0, 0, 0, 999) := rfl
theorem k100_33 : Kc C100 33 = (.if_icmp .lt 6, 39, 0, 0, 0) := rfl
theorem k100_36 : Kc C100 36 = (.ldc 133, 0, 0, 0, (-1000003)) := rfl
theorem k100_38 : Kc C100 38 = (.ireturn, 0, 0, 0, 0) := rfl
theorem k100_39 : Kc C100 39 = (.aload_n 0, 0, 0, 0, 0) := rfl
theorem k100_40 : Kc C100 40 = (.getfield 26, 8, 2, 0, 0) := rfl
theorem k100_43 : Kc C100 43 = (.aload_n 0, 0, 0, 0, 0) := rfl
theorem k100_44 : Kc C100 44 = (.getfield 54, 8, 6, 0, 0) := rfl
theorem k100_47 : Kc C100 47 = (.invokevirtual 173, 1, 1, 0, 0) := rfl
theorem k100_50 : Kc C100 50 = (.aload_n 0, 0, 0, 0, 0) := rfl
theorem k100_51 : Kc C100 51 = (.getfield 54, 8, 6, 0, 0) := rfl
theorem k100_54 : Kc C100 54 = (.iconst 1, 0, 0, 0, 1) := rfl
theorem k100_55 : Kc C100 55 = (.iload_n 1, 1, 0, 0, 0) := rfl
theorem k100_56 : Kc C100 56 = (.invokevirtual 209, 23, 2, 7, 0) := rfl
theorem k100_59 : Kc C100 59 = (.ireturn, 0, 0, 0, 0) := rfl
theorem ev100 (d : Nat) (x0 : Nat) (x1 : Int32) (h : Hp) : EvM (d + 1) 100 [.ref x0, .int x1] h = EvI (EvM d) C100 1 0 [.ref x0, .int x1] [] h := rfl
theorem k101_0 : Kc C101 0 = (.aload_n 0, 0, 0, 0, 0) := rfl
theorem k101_1 : Kc C101 1 = (.iload_n 1, 1, 0, 0, 0) := rfl
theorem k101_2 : Kc C101 2 = (.invokevirtual 160, 123, 1, 26, 0) := rfl
theorem k101_5 : Kc C101 5 = (.ifCond .ne 6, 11, 0, 0, 0) := rfl
theorem k101_8 : Kc C101 8 = (.ldc 92, 0, 0, 0, (-1000001)) := rfl
theorem k101_10 : Kc C101 10 = (.ireturn, 0, 0, 0, 0) := rfl
theorem k101_11 : Kc C101 11 = (.aload_n 0, 0, 0, 0, 0) := rfl
theorem k101_12 : Kc C101 12 = (.getfield 54, 8, 6, 0, 0) := rfl
theorem k101_15 : Kc C101 15 = (.getfield 163, 2, 4, 0, 0) := rfl
theorem k101_18 : Kc C101 18 = (.iload_n 1, 1, 0, 0, 0) := rfl
theorem k101_19 : Kc C101 19 = (.aaload, 0, 0, 0, 0) := rfl
theorem k101_20 : Kc C101 20 = (.astore_n 3, 3, 0, 0, 0) := rfl
theorem k101_21 : Kc C101 21 = (.iload_n 2, 2, 0, 0, 0) := rfl
theorem k101_22 : Kc C101 22 = (.tableswitch 41 4 6 #[26, 31, 36], 0, 0, 0, 0) := rfl
theorem k101_48 : Kc C101 48 = (.aload_n 3, 3, 0, 0, 0) := rfl
theorem k101_49 : Kc C101 49 = (.getfield 213, 4, 2, 0, 0) := rfl
theorem k101_52 : Kc C101 52 = (.ireturn, 0, 0, 0, 0) := rfl
theorem k101_53 : Kc C101 53 = (.aload_n 3, 3, 0, 0, 0) := rfl
theorem k101_54 : Kc C101 54 = (.getfield 216, 4, 3, 0, 0) := rfl
theorem k101_57 : Kc C101 57 = (.ireturn, 0, 0, 0, 0) := rfl
theorem k101_58 : Kc C101 58 = (.aload_n 3, 3, 0, 0, 0) := rfl
theorem k101_59 : Kc C101 59 = (.getfield 219, 4, 7, 0, 0) := rfl
theorem k101_62 : Kc C101 62 = (.ireturn, 0, 0, 0, 0) := rfl
theorem k101_63 : Kc C101 63 = (.aload_n 3, 3, 0, 0, 0) := rfl
theorem k101_64 : Kc C101 64 = (.iload_n 2, 2, 0, 0, 0) := rfl
theorem k101_65 : Kc C101 65 = (.invokestatic 222, 127, 2, 25, 0) := rfl
theorem k101_68 : Kc C101 68 = (.ireturn, 0, 0, 0, 0) := rfl
theorem ev101 (d : Nat) (x0 : Nat) (x1 : Int32) (x2 : Int32) (h : Hp) : EvM (d + 1) 101 [.ref x0, .int x1, .int x2] h = EvI (EvM d) C101 1 0 [.ref x0, .int x1, .int x2, jk] [] h := rfl
theorem k102_0 : Kc C102 0 = (.aload_n 0, 0, 0, 0, 0) := rfl
theorem k102_1 : Kc C102 1 = (.iload_n 1, 1, 0, 0, 0) := rfl
theorem k102_2 : Kc C102 2 = (.invokevirtual 160, 123, 1, 26, 0) := rfl
theorem k102_5 : Kc C102 5 = (.ifCond .eq 12, 17, 0, 0, 0) := rfl
theorem k102_8 : Kc C102 8 = (.iload_n 3, 3, 0, 0, 0) := rfl
theorem k102_9 : Kc C102 9 = (.iconst 0, 0, 0, 0, 0) := rfl
theorem k102_10 : Kc C102 10 = (.iconst 1, 0, 0, 0, 1) := rfl
theorem k102_11 : Kc C102 11 = (.invokestatic 88, 121, 3, 26, 0) := rfl
theorem k102_14 : Kc C102 14 = (.ifCond .ne 6, 20, 0, 0, 0) := rfl
theorem k102_17 : Kc C102 17 = (.ldc 92, 0, 0, 0, (-1000001)) := rfl
theorem k102_19 : Kc C102 19 = (.ireturn, 0, 0, 0, 0) := rfl
theorem k102_20 : Kc C102 20 = (.aload_n 0, 0, 0, 0, 0) := rfl
theorem k102_21 : Kc C102 21 = (.getfield 54, 8, 6, 0, 0) := rfl
theorem k102_24 : Kc C102 24 = (.getfield 163, 2, 4, 0, 0) := rfl
theorem k102_27 : Kc C102 27 = (.iload_n 1, 1, 0, 0, 0) := rfl
theorem k102_28 : Kc C102 28 = (.aaload, 0, 0, 0, 0) := rfl
theorem k102_29 : Kc C102 29 = (.astore 4, 4, 0, 0, 0) := rfl
theorem k102_31 : Kc C102 31 = (.iload_n 2, 2, 0, 0, 0) := rfl
theorem k102_32 : Kc C102 32 = (.iconst 0, 0, 0, 0, 0) := rfl
theorem k102_33 : Kc C102 33 = (.aload 4, 4, 0, 0, 0) := rfl
theorem k102_35 : Kc C102 35 = (.getfield 219, 4, 7, 0, 0) := rfl
theorem k102_38 : Kc C102 38 = (.iconst 1, 0, 0, 0, 1) := rfl
theorem k102_39 : Kc C102 39 = (.isub, 0, 0, 0, 0) := rfl
theorem k102_40 : Kc C102 40 = (.invokestatic 88, 121, 3, 26, 0) := rfl
theorem k102_43 : Kc C102 43 = (.ifCond .ne 6, 49, 0, 0, 0) := rfl
theorem k102_46 : Kc C102 46 = (.ldc 92, 0, 0, 0, (-1000001)) := rfl
theorem k102_48 : Kc C102 48 = (.ireturn, 0, 0, 0, 0) := rfl
theorem k102_49 : Kc C102 49 = (.iload_n 3, 3, 0, 0, 0) := rfl
theorem k102_50 : Kc C102 50 = (.ifCond .ne 13, 63, 0, 0, 0) := rfl
theorem k102_53 : Kc C102 53 = (.aload 4, 4, 0, 0, 0) := rfl
theorem k102_55 : Kc C102 55 = (.getfield 226, 4, 8, 0, 0) := rfl
theorem k102_58 : Kc C102 58 = (.iload_n 2, 2, 0, 0, 0) := rfl
theorem k102_59 : Kc C102 59 = (.iaload, 0, 0, 0, 0) := rfl
theorem k102_60 : Kc C102 60 = (.goto 10, 70, 0, 0, 0) := rfl
theorem k102_63 : Kc C102 63 = (.aload 4, 4, 0, 0, 0) := rfl
theorem k102_65 : Kc C102 65 = (.getfield 229, 4, 9, 0, 0) := rfl
theorem k102_68 : Kc C102 68 = (.iload_n 2, 2, 0, 0, 0) := rfl
theorem k102_69 : Kc C102 69 = (.iaload, 0, 0, 0, 0) := rfl
theorem k102_70 : Kc C102 70 = (.ireturn, 0, 0, 0, 0) := rfl
theorem ev102 (d : Nat) (x0 : Nat) (x1 : Int32) (x2 : Int32) (x3 : Int32) (h : Hp) : EvM (d + 1) 102 [.ref x0, .int x1, .int x2, .int x3] h = EvI (EvM d) C102 1 0 [.ref x0, .int x1, .int x2, .int x3, jk] [] h := rfl
theorem k103_0 : Kc C103 0 = (.aload_n 0, 0, 0, 0, 0) := rfl
theorem k103_1 : Kc C103 1 = (.iload_n 1, 1, 0, 0, 0) := rfl
theorem k103_2 : Kc C103 2 = (.invokevirtual 160, 123, 1, 26, 0) := rfl
theorem k103_5 : Kc C103 5 = (.ifCond .eq 21, 26, 0, 0, 0) := rfl
theorem k103_8 : Kc C103 8 = (.iload_n 2, 2, 0, 0, 0) := rfl
theorem k103_9 : Kc C103 9 = (.iload_n 3, 3, 0, 0, 0) := rfl
theorem k103_10 : Kc C103 10 = (.invokestatic 232, 125, 2, 26, 0) := rfl
theorem k103_13 : Kc C103 13 = (.ifCond .eq 13, 26, 0, 0, 0) := rfl
theorem k103_16 : Kc C103 16 = (.iload 4, 4, 0, 0, 0) := rfl
theorem k103_18 : Kc C103 18 = (.iconst 0, 0, 0, 0, 0) := rfl
theorem k103_19 : Kc C103 19 = (.iconst 3, 0, 0, 0, 3) := rfl
theorem k103_20 : Kc C103 20 = (.invokestatic 88, 121, 3, 26, 0) := rfl
theorem k103_23 : Kc C103 23 = (.ifCond .ne 6, 29, 0, 0, 0) := rfl
theorem k103_26 : Kc C103 26 = (.ldc 92, 0, 0, 0, (-1000001)) := rfl
theorem k103_28 : Kc C103 28 = (.ireturn, 0, 0, 0, 0) := rfl
theorem k103_29 : Kc C103 29 = (.aload_n 0, 0, 0, 0, 0) := rfl
theorem k103_30 : Kc C103 30 = (.getfield 58, 8, 7, 0, 0) := rfl
theorem k103_33 : Kc C103 33 = (.aload_n 0, 0, 0, 0, 0) := rfl
theorem k103_34 : Kc C103 34 = (.getfield 54, 8, 6, 0, 0) := rfl
theorem k103_37 : Kc C103 37 = (.invokevirtual 148, 19, 1, 6, 0) := rfl
theorem k103_40 : Kc C103 40 = (.aload_n 0, 0, 0, 0, 0) := rfl
theorem k103_41 : Kc C103 41 = (.getfield 58, 8, 7, 0, 0) := rfl
theorem k103_44 : Kc C103 44 = (.iload_n 2, 2, 0, 0, 0) := rfl
theorem k103_45 : Kc C103 45 = (.iload_n 3, 3, 0, 0, 0) := rfl
theorem k103_46 : Kc C103 46 = (.invokevirtual 209, 23, 2, 7, 0) := rfl
theorem k103_49 : Kc C103 49 = (.pop, 0, 0, 0, 0) := rfl
theorem k103_50 : Kc C103 50 = (.aload_n 0, 0, 0, 0, 0) := rfl
theorem k103_51 : Kc C103 51 = (.getfield 58, 8, 7, 0, 0) := rfl
theorem k103_54 : Kc C103 54 = (.getfield 163, 2, 4, 0, 0) := rfl
theorem k103_57 : Kc C103 57 = (.iload_n 1, 1, 0, 0, 0) := rfl
theorem k103_58 : Kc C103 58 = (.aaload, 0, 0, 0, 0) := rfl
theorem k103_59 : Kc C103 59 = (.iload 4, 4, 0, 0, 0) := rfl
theorem k103_61 : Kc C103 61 = (.invokestatic 222, 127, 2, 25, 0) := rfl
theorem k103_64 : Kc C103 64 = (.ireturn, 0, 0, 0, 0) := rfl
theorem ev103 (d : Nat) (x0 : Nat) (x1 : Int32) (x2 : Int32) (x3 : Int32) (x4 : Int32) (h : Hp) : EvM (d + 1) 103 [.ref x0, .int x1, .int x2, .int x3, .int x4] h = EvI (EvM d) C103 1 0 [.ref x0, .int x1, .int x2, .int x3, .int x4] [] h := rfl
theorem k104_0 : Kc C104 0 = (.aload_n 0, 0, 0, 0, 0) := rfl
theorem k104_1 : Kc C104 1 = (.iload_n 1, 1, 0, 0, 0) := rfl
theorem k104_2 : Kc C104 2 = (.invokevirtual 160, 123, 1, 26, 0) := rfl
theorem k104_5 : Kc C104 5 = (.ifCond .eq 13, 18, 0, 0, 0) := rfl
theorem k104_8 : Kc C104 8 = (.iload_n 2, 2, 0, 0, 0) := rfl
theorem k104_9 : Kc C104 9 = (.iconst 0, 0, 0, 0, 0) := rfl
theorem k104_10 : Kc C104 10 = (.bipush 60, 0, 0, 0, 60) := rfl
theorem k104_12 : Kc C104 12 = (.invokestatic 88, 121, 3, 26, 0) := rfl
theorem k104_15 : Kc C104 15 = (.ifCond .ne 6, 21, 0, 0, 0) := rfl
theorem k104_18 : Kc C104 18 = (.ldc 92, 0, 0, 0, (-1000001)) := rfl
theorem k104_20 : Kc C104 20 = (.ireturn, 0, 0, 0, 0) := rfl
theorem k104_21 : Kc C104 21 = (.aload_n 0, 0, 0, 0, 0) := rfl
theorem k104_22 : Kc C104 22 = (.getfield 54, 8, 6, 0, 0) := rfl
theorem k104_25 : Kc C104 25 = (.getfield 163, 2, 4, 0, 0) := rfl
theorem k104_28 : Kc C104 28 = (.iload_n 1, 1, 0, 0, 0) := rfl
theorem k104_29 : Kc C104 29 = (.aaload, 0, 0, 0, 0) := rfl
theorem k104_30 : Kc C104 30 = (.aload_n 0, 0, 0, 0, 0) := rfl
theorem k104_31 : Kc C104 31 = (.getfield 54, 8, 6, 0, 0) := rfl
theorem k104_34 : Kc C104 34 = (.getfield 176, 2, 2, 0, 0) := rfl
theorem k104_37 : Kc C104 37 = (.iload_n 2, 2, 0, 0, 0) := rfl
theorem k104_38 : Kc C104 38 = (.iadd, 0, 0, 0, 0) := rfl
theorem k104_39 : Kc C104 39 = (.iconst 1, 0, 0, 0, 1) := rfl
theorem k104_40 : Kc C104 40 = (.isub, 0, 0, 0, 0) := rfl
theorem k104_41 : Kc C104 41 = (.aload_n 0, 0, 0, 0, 0) := rfl
theorem k104_42 : Kc C104 42 = (.getfield 54, 8, 6, 0, 0) := rfl
theorem k104_45 : Kc C104 45 = (.getfield 236, 2, 0, 0, 0) := rfl
theorem k104_48 : Kc C104 48 = (.invokevirtual 239, 56, 2, 13, 0) := rfl
theorem k104_51 : Kc C104 51 = (.ireturn, 0, 0, 0, 0) := rfl
theorem ev104 (d : Nat) (x0 : Nat) (x1 : Int32) (x2 : Int32) (h : Hp) : EvM (d + 1) 104 [.ref x0, .int x1, .int x2] h = EvI (EvM d) C104 1 0 [.ref x0, .int x1, .int x2] [] h := rfl
theorem k105_0 : Kc C105 0 = (.aload_n 0, 0, 0, 0, 0) := rfl
theorem k105_1 : Kc C105 1 = (.getfield 73, 8, 11, 0, 0) := rfl
theorem k105_4 : Kc C105 4 = (.ifCond .ne 6, 10, 0, 0, 0) := rfl
theorem k105_7 : Kc C105 7 = (.ldc 156, 0, 0, 0, (-1000002)) := rfl
theorem k105_9 : Kc C105 9 = (.ireturn, 0, 0, 0, 0) := rfl
theorem k105_10 : Kc C105 10 = (.iload_n 1, 1, 0, 0, 0) := rfl
theorem k105_11 : Kc C105 11 = (.iload_n 2, 2, 0, 0, 0) := rfl
theorem k105_12 : Kc C105 12 = (.invokestatic 232, 125, 2, 26, 0) := rfl
theorem k105_15 : Kc C105 15 = (.ifCond .eq 12, 27, 0, 0, 0) := rfl
theorem k105_18 : Kc C105 18 = (.iload_n 3, 3, 0, 0, 0) := rfl
theorem k105_19 : Kc C105 19 = (.iconst 0, 0, 0, 0, 0) := rfl
theorem k105_20 : Kc C105 20 = (.iconst 1, 0, 0, 0, 1) := rfl
theorem k105_21 : Kc C105 21 = (.invokestatic 88, 121, 3, 26, 0) := rfl
theorem k105_24 : Kc C105 24 = (.ifCond .ne 6, 30, 0, 0, 0) := rfl
theorem k105_27 : Kc C105 27 = (.ldc 92, 0, 0, 0, (-1000001)) := rfl
theorem k105_29 : Kc C105 29 = (.ireturn, 0, 0, 0, 0) := rfl
theorem k105_30 : Kc C105 30 = (.aload_n 0, 0, 0, 0, 0) := rfl
theorem k105_31 : Kc C105 31 = (.getfield 58, 8, 7, 0, 0) := rfl
theorem k105_34 : Kc C105 34 = (.aload_n 0, 0, 0, 0, 0) := rfl
theorem k105_35 : Kc C105 35 = (.getfield 54, 8, 6, 0, 0) := rfl
theorem k105_38 : Kc C105 38 = (.invokevirtual 148, 19, 1, 6, 0) := rfl
theorem k105_41 : Kc C105 41 = (.aload_n 0, 0, 0, 0, 0) := rfl
theorem k105_42 : Kc C105 42 = (.getfield 58, 8, 7, 0, 0) := rfl
theorem k105_45 : Kc C105 45 = (.invokevirtual 242, 22, 0, 6, 0) := rfl
theorem k105_48 : Kc C105 48 = (.aload_n 0, 0, 0, 0, 0) := rfl
theorem k105_49 : Kc C105 49 = (.getfield 58, 8, 7, 0, 0) := rfl
theorem k105_52 : Kc C105 52 = (.iload_n 1, 1, 0, 0, 0) := rfl
theorem k105_53 : Kc C105 53 = (.iload_n 2, 2, 0, 0, 0) := rfl
theorem k105_54 : Kc C105 54 = (.invokevirtual 209, 23, 2, 7, 0) := rfl
theorem k105_57 : Kc C105 57 = (.istore 4, 4, 0, 0, 0) := rfl
theorem k105_59 : Kc C105 59 = (.iload_n 3, 3, 0, 0, 0) := rfl
theorem k105_60 : Kc C105 60 = (.ifCond .ne 8, 68, 0, 0, 0) := rfl
theorem k105_63 : Kc C105 63 = (.iload 4, 4, 0, 0, 0) := rfl
theorem k105_65 : Kc C105 65 = (.goto 18, 83, 0, 0, 0) := rfl
theorem k105_68 : Kc C105 68 = (.aload_n 0, 0, 0, 0, 0) := rfl
theorem k105_69 : Kc C105 69 = (.getfield 58, 8, 7, 0, 0) := rfl
theorem k105_72 : Kc C105 72 = (.invokevirtual 245, 21, 0, 7, 0) := rfl
theorem k105_75 : Kc C105 75 = (.aload_n 0, 0, 0, 0, 0) := rfl
theorem k105_76 : Kc C105 76 = (.getfield 54, 8, 6, 0, 0) := rfl
theorem k105_79 : Kc C105 79 = (.invokevirtual 245, 21, 0, 7, 0) := rfl
theorem k105_82 : Kc C105 82 = (.isub, 0, 0, 0, 0) := rfl
theorem k105_83 : Kc C105 83 = (.ireturn, 0, 0, 0, 0) := rfl
theorem ev105 (d : Nat) (x0 : Nat) (x1 : Int32) (x2 : Int32) (x3 : Int32) (h : Hp) : EvM (d + 1) 105 [.ref x0, .int x1, .int x2, .int x3] h = EvI (EvM d) C105 1 0 [.ref x0, .int x1, .int x2, .int x3, jk] [] h := rfl
theorem k106_0 : Kc C106 0 = (.aload_n 0, 0, 0, 0, 0) := rfl
theorem k106_1 : Kc C106 1 = (.iload_n 1, 1, 0, 0, 0) := rfl
theorem k106_2 : Kc C106 2 = (.invokevirtual 160, 123, 1, 26, 0) := rfl
theorem k106_5 : Kc C106 5 = (.ifCond .eq 21, 26, 0, 0, 0) := rfl
theorem k106_8 : Kc C106 8 = (.iload_n 2, 2, 0, 0, 0) := rfl
theorem k106_9 : Kc C106 9 = (.invokestatic 84, 122, 1, 26, 0) := rfl
theorem k106_12 : Kc C106 12 = (.ifCond .eq 14, 26, 0, 0, 0) := rfl
theorem k106_15 : Kc C106 15 = (.iload 4, 4, 0, 0, 0) := rfl
theorem k106_17 : Kc C106 17 = (.iconst 1, 0, 0, 0, 1) := rfl
theorem k106_18 : Kc C106 18 = (.bipush 12, 0, 0, 0, 12) := rfl
theorem k106_20 : Kc C106 20 = (.invokestatic 88, 121, 3, 26, 0) := rfl
theorem k106_23 : Kc C106 23 = (.ifCond .ne 6, 29, 0, 0, 0) := rfl
theorem k106_26 : Kc C106 26 = (.ldc 92, 0, 0, 0, (-1000001)) := rfl
theorem k106_28 : Kc C106 28 = (.ireturn, 0, 0, 0, 0) := rfl
theorem k106_29 : Kc C106 29 = (.aload_n 0, 0, 0, 0, 0) := rfl
theorem k106_30 : Kc C106 30 = (.iload_n 2, 2, 0, 0, 0) := rfl
theorem k106_31 : Kc C106 31 = (.iload_n 3, 3, 0, 0, 0) := rfl
theorem k106_32 : Kc C106 32 = (.iload 4, 4, 0, 0, 0) := rfl
theorem k106_34 : Kc C106 34 = (.iconst 1, 0, 0, 0, 1) := rfl
theorem k106_35 : Kc C106 35 = (.sipush 999, 0, 0, 0, 999) := rfl
theorem k106_38 : Kc C106 38 = (.invokevirtual 248, 126, 5, 25, 0) := rfl
theorem k106_41 : Kc C106 41 = (.istore 5, 5, 0, 0, 0) := rfl
theorem k106_43 : Kc C106 43 = (.iload 5, 5, 0, 0, 0) := rfl
theorem k106_45 : Kc C106 45 = (.ifCond .eq 6, 51, 0, 0, 0) := rfl
theorem k106_48 : Kc C106 48 = (.iload 5, 5, 0, 0, 0) := rfl
theorem k106_50 : Kc C106 50 = (.ireturn, 0, 0, 0, 0) := rfl
theorem k106_51 : Kc C106 51 = (.aload_n 0, 0, 0, 0, 0) := rfl
theorem k106_52 : Kc C106 52 = (.getfield 40, 8, 4, 0, 0) := rfl
theorem k106_55 : Kc C106 55 = (.aload_n 0, 0, 0, 0, 0) := rfl
theorem k106_56 : Kc C106 56 = (.getfield 54, 8, 6, 0, 0) := rfl
theorem k106_59 : Kc C106 59 = (.aload_n 0, 0, 0, 0, 0) := rfl
theorem k106_60 : Kc C106 60 = (.getfield 69, 8, 10, 0, 0) := rfl
theorem k106_63 : Kc C106 63 = (.iload 4, 4, 0, 0, 0) := rfl
theorem k106_65 : Kc C106 65 = (.invokevirtual 252, 40, 3, 9, 0) := rfl
theorem k106_68 : Kc C106 68 = (.aload_n 0, 0, 0, 0, 0) := rfl
theorem k106_69 : Kc C106 69 = (.aload_n 0, 0, 0, 0, 0) := rfl
theorem k106_70 : Kc C106 70 = (.getfield 40, 8, 4, 0, 0) := rfl
theorem k106_73 : Kc C106 73 = (.aload_n 0, 0, 0, 0, 0) := rfl
theorem k106_74 : Kc C106 74 = (.getfield 54, 8, 6, 0, 0) := rfl
theorem k106_77 : Kc C106 77 = (.getfield 163, 2, 4, 0, 0) := rfl
theorem k106_80 : Kc C106 80 = (.iload_n 1, 1, 0, 0, 0) := rfl
theorem k106_81 : Kc C106 81 = (.aaload, 0, 0, 0, 0) := rfl
theorem k106_82 : Kc C106 82 = (.invokevirtual 256, 41, 1, 10, 0) := rfl
theorem k106_85 : Kc C106 85 = (.invokevirtual 101, 129, 1, 25, 0) := rfl
theorem k106_88 : Kc C106 88 = (.ireturn, 0, 0, 0, 0) := rfl
theorem ev106 (d : Nat) (x0 : Nat) (x1 : Int32) (x2 : Int32) (x3 : Int32) (x4 : Int32) (h : Hp) : EvM (d + 1) 106 [.ref x0, .int x1, .int x2, .int x3, .int x4] h = EvI (EvM d) C106 1 0 [.ref x0, .int x1, .int x2, .int x3, .int x4, jk] [] h := rfl
theorem k107_0 : Kc C107 0 = (.aload_n 0, 0, 0, 0, 0) := rfl
theorem k107_1 : Kc C107 1 = (.iload_n 1, 1, 0, 0, 0) := rfl
theorem k107_2 : Kc C107 2 = (.invokevirtual 160, 123, 1, 26, 0) := rfl
theorem k107_5 : Kc C107 5 = (.ifCond .eq 34, 39, 0, 0, 0) := rfl
theorem k107_8 : Kc C107 8 = (.iload_n 2, 2, 0, 0, 0) := rfl
theorem k107_9 : Kc C107 9 = (.invokestatic 84, 122, 1, 26, 0) := rfl
theorem k107_12 : Kc C107 12 = (.ifCond .eq 27, 39, 0, 0, 0) := rfl
theorem k107_15 : Kc C107 15 = (.iload 4, 4, 0, 0, 0) := rfl
theorem k107_17 : Kc C107 17 = (.iconst 1, 0, 0, 0, 1) := rfl
theorem k107_18 : Kc C107 18 = (.bipush 6, 0, 0, 0, 6) := rfl
theorem k107_20 : Kc C107 20 = (.invokestatic 88, 121, 3, 26, 0) := rfl
theorem k107_23 : Kc C107 23 = (.ifCond .eq 16, 39, 0, 0, 0) := rfl
theorem k107_26 : Kc C107 26 = (.iload 5, 5, 0, 0, 0) := rfl
theorem k107_28 : Kc C107 28 = (.iconst (-1), 0, 0, 0, (-1)) := rfl
theorem k107_29 : Kc C107 29 = (.iload 4, 4, 0, 0, 0) := rfl
theorem k107_31 : Kc C107 31 = (.iconst 1, 0, 0, 0, 1) := rfl
theorem k107_32 : Kc C107 32 = (.isub, 0, 0, 0, 0) := rfl
theorem k107_33 : Kc C107 33 = (.invokestatic 88, 121, 3, 26, 0) := rfl
theorem k107_36 : Kc C107 36 = (.ifCond .ne 6, 42, 0, 0, 0) := rfl
theorem k107_39 : Kc C107 39 = (.ldc 92, 0, 0, 0, (-1000001)) := rfl
theorem k107_41 : Kc C107 41 = (.ireturn, 0, 0, 0, 0) := rfl
theorem k107_42 : Kc C107 42 = (.aload_n 0, 0, 0, 0, 0) := rfl
theorem k107_43 : Kc C107 43 = (.iload_n 2, 2, 0, 0, 0) := rfl
theorem k107_44 : Kc C107 44 = (.iload_n 3, 3, 0, 0, 0) := rfl
theorem k107_45 : Kc C107 45 = (.iload 4, 4, 0, 0, 0) := rfl
theorem k107_47 : Kc C107 47 = (.iconst 1, 0, 0, 0, 1) := rfl
theorem k107_48 : Kc C107 48 = (.sipush 999, 0, 0, 0, 999) := rfl
theorem k107_51 : Kc C107 51 = (.invokevirtual 248, 126, 5, 25, 0) := rfl
theorem k107_54 : Kc C107 54 = (.istore 6, 6, 0, 0, 0) := rfl
theorem k107_56 : Kc C107 56 = (.iload 6, 6, 0, 0, 0) := rfl
theorem k107_58 : Kc C107 58 = (.ifCond .eq 6, 64, 0, 0, 0) := rfl
theorem k107_61 : Kc C107 61 = (.iload 6, 6, 0, 0, 0) := rfl
theorem k107_63 : Kc C107 63 = (.ireturn, 0, 0, 0, 0) := rfl
theorem k107_64 : Kc C107 64 = (.aload_n 0, 0, 0, 0, 0) := rfl
theorem k107_65 : Kc C107 65 = (.getfield 40, 8, 4, 0, 0) := rfl
theorem k107_68 : Kc C107 68 = (.aload_n 0, 0, 0, 0, 0) := rfl
theorem k107_69 : Kc C107 69 = (.getfield 54, 8, 6, 0, 0) := rfl
theorem k107_72 : Kc C107 72 = (.aload_n 0, 0, 0, 0, 0) := rfl
theorem k107_73 : Kc C107 73 = (.getfield 69, 8, 10, 0, 0) := rfl
theorem k107_76 : Kc C107 76 = (.iload 4, 4, 0, 0, 0) := rfl
theorem k107_78 : Kc C107 78 = (.invokevirtual 252, 40, 3, 9, 0) := rfl
theorem k107_81 : Kc C107 81 = (.aload_n 0, 0, 0, 0, 0) := rfl
theorem k107_82 : Kc C107 82 = (.getfield 40, 8, 4, 0, 0) := rfl
theorem k107_85 : Kc C107 85 = (.aload_n 0, 0, 0, 0, 0) := rfl
theorem k107_86 : Kc C107 86 = (.getfield 54, 8, 6, 0, 0) := rfl
theorem k107_89 : Kc C107 89 = (.getfield 163, 2, 4, 0, 0) := rfl
theorem k107_92 : Kc C107 92 = (.iload_n 1, 1, 0, 0, 0) := rfl
theorem k107_93 : Kc C107 93 = (.aaload, 0, 0, 0, 0) := rfl
theorem k107_94 : Kc C107 94 = (.invokevirtual 260, 43, 1, 9, 0) := rfl
theorem k107_97 : Kc C107 97 = (.aload_n 0, 0, 0, 0, 0) := rfl
theorem k107_98 : Kc C107 98 = (.iload 5, 5, 0, 0, 0) := rfl
theorem k107_100 : Kc C107 100 = (.ifCond .ge 13, 113, 0, 0, 0) := rfl
theorem k107_103 : Kc C107 103 = (.aload_n 0, 0, 0, 0, 0) := rfl
theorem k107_104 : Kc C107 104 = (.getfield 40, 8, 4, 0, 0) := rfl
theorem k107_107 : Kc C107 107 = (.getfield 264, 3, 1, 0, 0) := rfl
theorem k107_110 : Kc C107 110 = (.goto 13, 123, 0, 0, 0) := rfl
theorem k107_113 : Kc C107 113 = (.aload_n 0, 0, 0, 0, 0) := rfl
theorem k107_114 : Kc C107 114 = (.getfield 40, 8, 4, 0, 0) := rfl
theorem k107_117 : Kc C107 117 = (.getfield 267, 3, 0, 0, 0) := rfl
theorem k107_120 : Kc C107 120 = (.iload 5, 5, 0, 0, 0) := rfl
theorem k107_122 : Kc C107 122 = (.iaload, 0, 0, 0, 0) := rfl
theorem k107_123 : Kc C107 123 = (.invokevirtual 101, 129, 1, 25, 0) := rfl
theorem k107_126 : Kc C107 126 = (.ireturn, 0, 0, 0, 0) := rfl
theorem ev107 (d : Nat) (x0 : Nat) (x1 : Int32) (x2 : Int32) (x3 : Int32) (x4 : Int32) (x5 : Int32) (h : Hp) : EvM (d + 1) 107 [.ref x0, .int x1, .int x2, .int x3, .int x4, .int x5] h = EvI (EvM d) C107 1 0 [.ref x0, .int x1, .int x2, .int x3, .int x4, .int x5, jk] [] h := rfl
theorem k108_0 : Kc C108 0 = (.aload_n 0, 0, 0, 0, 0) := rfl
theorem k108_1 : Kc C108 1 = (.getfield 73, 8, 11, 0, 0) := rfl
theorem k108_4 : Kc C108 4 = (.ifCond .ne 6, 10, 0, 0, 0) := rfl
theorem k108_7 : Kc C108 7 = (.ldc 156, 0, 0, 0, (-1000002)) := rfl
theorem k108_9 : Kc C108 9 = (.ireturn, 0, 0, 0, 0) := rfl
theorem k108_10 : Kc C108 10 = (.iload_n 1, 1, 0, 0, 0) := rfl
theorem k108_11 : Kc C108 11 = (.iconst 0, 0, 0, 0, 0) := rfl
theorem k108_12 : Kc C108 12 = (.bipush 99, 0, 0, 0, 99) := rfl
theorem k108_14 : Kc C108 14 = (.invokestatic 88, 121, 3, 26, 0) := rfl
theorem k108_17 : Kc C108 17 = (.ifCond .eq 12, 29, 0, 0, 0) := rfl
theorem k108_20 : Kc C108 20 = (.iload_n 2, 2, 0, 0, 0) := rfl
theorem k108_21 : Kc C108 21 = (.iconst 0, 0, 0, 0, 0) := rfl
theorem k108_22 : Kc C108 22 = (.iconst 1, 0, 0, 0, 1) := rfl
theorem k108_23 : Kc C108 23 = (.invokestatic 88, 121, 3, 26, 0) := rfl
theorem k108_26 : Kc C108 26 = (.ifCond .ne 6, 32, 0, 0, 0) := rfl
theorem k108_29 : Kc C108 29 = (.ldc 92, 0, 0, 0, (-1000001)) := rfl
theorem k108_31 : Kc C108 31 = (.ireturn, 0, 0, 0, 0) := rfl
theorem k108_32 : Kc C108 32 = (.iload_n 2, 2, 0, 0, 0) := rfl
theorem k108_33 : Kc C108 33 = (.ifCond .ne 14, 47, 0, 0, 0) := rfl
theorem k108_36 : Kc C108 36 = (.aload_n 0, 0, 0, 0, 0) := rfl
theorem k108_37 : Kc C108 37 = (.getfield 54, 8, 6, 0, 0) := rfl
theorem k108_40 : Kc C108 40 = (.iload_n 1, 1, 0, 0, 0) := rfl
theorem k108_41 : Kc C108 41 = (.invokevirtual 270, 32, 1, 7, 0) := rfl
theorem k108_44 : Kc C108 44 = (.goto 11, 55, 0, 0, 0) := rfl
theorem k108_47 : Kc C108 47 = (.aload_n 0, 0, 0, 0, 0) := rfl
theorem k108_48 : Kc C108 48 = (.getfield 54, 8, 6, 0, 0) := rfl
theorem k108_51 : Kc C108 51 = (.iload_n 1, 1, 0, 0, 0) := rfl
theorem k108_52 : Kc C108 52 = (.invokevirtual 273, 33, 1, 7, 0) := rfl
theorem k108_55 : Kc C108 55 = (.ireturn, 0, 0, 0, 0) := rfl
theorem ev108 (d : Nat) (x0 : Nat) (x1 : Int32) (x2 : Int32) (h : Hp) : EvM (d + 1) 108 [.ref x0, .int x1, .int x2] h = EvI (EvM d) C108 1 0 [.ref x0, .int x1, .int x2] [] h := rfl
theorem k109_0 : Kc C109 0 = (.aload_n 0, 0, 0, 0, 0) := rfl
theorem k109_1 : Kc C109 1 = (.getfield 73, 8, 11, 0, 0) := rfl
theorem k109_4 : Kc C109 4 = (.ifCond .ne 6, 10, 0, 0, 0) := rfl
theorem k109_7 : Kc C109 7 = (.ldc 156, 0, 0, 0, (-1000002)) := rfl
theorem k109_9 : Kc C109 9 = (.ireturn, 0, 0, 0, 0) := rfl
theorem k109_10 : Kc C109 10 = (.iload_n 1, 1, 0, 0, 0) := rfl
theorem k109_11 : Kc C109 11 = (.iconst 0, 0, 0, 0, 0) := rfl
theorem k109_12 : Kc C109 12 = (.iconst 2, 0, 0, 0, 2) := rfl
theorem k109_13 : Kc C109 13 = (.invokestatic 88, 121, 3, 26, 0) := rfl
theorem k109_16 : Kc C109 16 = (.ifCond .ne 6, 22, 0, 0, 0) := rfl
theorem k109_19 : Kc C109 19 = (.ldc 92, 0, 0, 0, (-1000001)) := rfl
theorem k109_21 : Kc C109 21 = (.ireturn, 0, 0, 0, 0) := rfl
theorem k109_22 : Kc C109 22 = (.aload_n 0, 0, 0, 0, 0) := rfl
theorem k109_23 : Kc C109 23 = (.getfield 54, 8, 6, 0, 0) := rfl
theorem k109_26 : Kc C109 26 = (.invokevirtual 276, 36, 0, 7, 0) := rfl
theorem k109_29 : Kc C109 29 = (.istore_n 2, 2, 0, 0, 0) := rfl
theorem k109_30 : Kc C109 30 = (.iload_n 2, 2, 0, 0, 0) := rfl
theorem k109_31 : Kc C109 31 = (.ldc_w 279, 0, 0, 0, (-1000000)) := rfl
theorem k109_34 : Kc C109 34 = (.if_icmp .eq 7, 41, 0, 0, 0) := rfl
theorem k109_37 : Kc C109 37 = (.iload_n 1, 1, 0, 0, 0) := rfl
theorem k109_38 : Kc C109 38 = (.ifCond .ne 5, 43, 0, 0, 0) := rfl
theorem k109_41 : Kc C109 41 = (.iload_n 2, 2, 0, 0, 0) := rfl
theorem k109_42 : Kc C109 42 = (.ireturn, 0, 0, 0, 0) := rfl
theorem k109_43 : Kc C109 43 = (.iload_n 1, 1, 0, 0, 0) := rfl
theorem k109_44 : Kc C109 44 = (.iconst 1, 0, 0, 0, 1) := rfl
theorem k109_45 : Kc C109 45 = (.if_icmp .ne 14, 59, 0, 0, 0) := rfl
theorem k109_48 : Kc C109 48 = (.aload_n 0, 0, 0, 0, 0) := rfl
theorem k109_49 : Kc C109 49 = (.getfield 54, 8, 6, 0, 0) := rfl
theorem k109_52 : Kc C109 52 = (.iload_n 2, 2, 0, 0, 0) := rfl
theorem k109_53 : Kc C109 53 = (.invokevirtual 280, 34, 1, 7, 0) := rfl
theorem k109_56 : Kc C109 56 = (.goto 11, 67, 0, 0, 0) := rfl
theorem k109_59 : Kc C109 59 = (.aload_n 0, 0, 0, 0, 0) := rfl
theorem k109_60 : Kc C109 60 = (.getfield 54, 8, 6, 0, 0) := rfl
theorem k109_63 : Kc C109 63 = (.iload_n 2, 2, 0, 0, 0) := rfl
theorem k109_64 : Kc C109 64 = (.invokevirtual 283, 35, 1, 7, 0) := rfl
theorem k109_67 : Kc C109 67 = (.ireturn, 0, 0, 0, 0) := rfl
theorem ev109 (d : Nat) (x0 : Nat) (x1 : Int32) (h : Hp) : EvM (d + 1) 109 [.ref x0, .int x1] h = EvI (EvM d) C109 1 0 [.ref x0, .int x1, jk] [] h := rfl
theorem k110_0 : Kc C110 0 = (.aload_n 0, 0, 0, 0, 0) := rfl
theorem k110_1 : Kc C110 1 = (.getfield 73, 8, 11, 0, 0) := rfl
theorem k110_4 : Kc C110 4 = (.ifCond .ne 6, 10, 0, 0, 0) := rfl
theorem k110_7 : Kc C110 7 = (.ldc 156, 0, 0, 0, (-1000002)) := rfl
theorem k110_9 : Kc C110 9 = (.ireturn, 0, 0, 0, 0) := rfl
theorem k110_10 : Kc C110 10 = (.iload_n 1, 1, 0, 0, 0) := rfl
theorem k110_11 : Kc C110 11 = (.invokestatic 84, 122, 1, 26, 0) := rfl
theorem k110_14 : Kc C110 14 = (.ifCond .eq 23, 37, 0, 0, 0) := rfl
theorem k110_17 : Kc C110 17 = (.iload_n 3, 3, 0, 0, 0) := rfl
theorem k110_18 : Kc C110 18 = (.iconst 1, 0, 0, 0, 1) := rfl
theorem k110_19 : Kc C110 19 = (.bipush 9, 0, 0, 0, 9) := rfl
theorem k110_21 : Kc C110 21 = (.invokestatic 88, 121, 3, 26, 0) := rfl
theorem k110_24 : Kc C110 24 = (.ifCond .eq 13, 37, 0, 0, 0) := rfl
theorem k110_27 : Kc C110 27 = (.iload 4, 4, 0, 0, 0) := rfl
theorem k110_29 : Kc C110 29 = (.iconst 0, 0, 0, 0, 0) := rfl
theorem k110_30 : Kc C110 30 = (.iconst 1, 0, 0, 0, 1) := rfl
theorem k110_31 : Kc C110 31 = (.invokestatic 88, 121, 3, 26, 0) := rfl
theorem k110_34 : Kc C110 34 = (.ifCond .ne 6, 40, 0, 0, 0) := rfl
theorem k110_37 : Kc C110 37 = (.ldc 92, 0, 0, 0, (-1000001)) := rfl
theorem k110_39 : Kc C110 39 = (.ireturn, 0, 0, 0, 0) := rfl
theorem k110_40 : Kc C110 40 = (.aload_n 0, 0, 0, 0, 0) := rfl
theorem k110_41 : Kc C110 41 = (.iload_n 1, 1, 0, 0, 0) := rfl
theorem k110_42 : Kc C110 42 = (.iload_n 2, 2, 0, 0, 0) := rfl
theorem k110_43 : Kc C110 43 = (.iconst 4, 0, 0, 0, 4) := rfl
theorem k110_44 : Kc C110 44 = (.iload_n 3, 3, 0, 0, 0) := rfl
theorem k110_45 : Kc C110 45 = (.imul, 0, 0, 0, 0) := rfl
theorem k110_46 : Kc C110 46 = (.iconst 0, 0, 0, 0, 0) := rfl
theorem k110_47 : Kc C110 47 = (.sipush 999, 0, 0, 0, 999) := rfl
theorem k110_50 : Kc C110 50 = (.invokevirtual 248, 126, 5, 25, 0) := rfl
theorem k110_53 : Kc C110 53 = (.istore 5, 5, 0, 0, 0) := rfl
theorem k110_55 : Kc C110 55 = (.iload 5, 5, 0, 0, 0) := rfl
theorem k110_57 : Kc C110 57 = (.ifCond .eq 6, 63, 0, 0, 0) := rfl
theorem k110_60 : Kc C110 60 = (.iload 5, 5, 0, 0, 0) := rfl
theorem k110_62 : Kc C110 62 = (.ireturn, 0, 0, 0, 0) := rfl
theorem k110_63 : Kc C110 63 = (.iconst 0, 0, 0, 0, 0) := rfl
theorem k110_64 : Kc C110 64 = (.istore 6, 6, 0, 0, 0) := rfl
theorem k110_66 : Kc C110 66 = (.iload 6, 6, 0, 0, 0) := rfl
theorem k110_68 : Kc C110 68 = (.iload_n 3, 3, 0, 0, 0) := rfl
theorem k110_69 : Kc C110 69 = (.if_icmp .ge 59, 128, 0, 0, 0) := rfl
theorem k110_72 : Kc C110 72 = (.iconst 4, 0, 0, 0, 4) := rfl
theorem k110_73 : Kc C110 73 = (.iload 6, 6, 0, 0, 0) := rfl
theorem k110_75 : Kc C110 75 = (.imul, 0, 0, 0, 0) := rfl
theorem k110_76 : Kc C110 76 = (.istore 7, 7, 0, 0, 0) := rfl
theorem k110_78 : Kc C110 78 = (.aload_n 0, 0, 0, 0, 0) := rfl
theorem k110_79 : Kc C110 79 = (.aload_n 0, 0, 0, 0, 0) := rfl
theorem k110_80 : Kc C110 80 = (.getfield 69, 8, 10, 0, 0) := rfl
theorem k110_83 : Kc C110 83 = (.iload 7, 7, 0, 0, 0) := rfl
theorem k110_85 : Kc C110 85 = (.iaload, 0, 0, 0, 0) := rfl
theorem k110_86 : Kc C110 86 = (.aload_n 0, 0, 0, 0, 0) := rfl
theorem k110_87 : Kc C110 87 = (.getfield 69, 8, 10, 0, 0) := rfl
theorem k110_90 : Kc C110 90 = (.iload 7, 7, 0, 0, 0) := rfl
theorem k110_92 : Kc C110 92 = (.iconst 1, 0, 0, 0, 1) := rfl
theorem k110_93 : Kc C110 93 = (.iadd, 0, 0, 0, 0) := rfl
theorem k110_94 : Kc C110 94 = (.iaload, 0, 0, 0, 0) := rfl
theorem k110_95 : Kc C110 95 = (.aload_n 0, 0, 0, 0, 0) := rfl
theorem k110_96 : Kc C110 96 = (.getfield 69, 8, 10, 0, 0) := rfl
theorem k110_99 : Kc C110 99 = (.iload 7, 7, 0, 0, 0) := rfl
theorem k110_101 : Kc C110 101 = (.iconst 2, 0, 0, 0, 2) := rfl
theorem k110_102 : Kc C110 102 = (.iadd, 0, 0, 0, 0) := rfl
theorem k110_103 : Kc C110 103 = (.iaload, 0, 0, 0, 0) := rfl
theorem k110_104 : Kc C110 104 = (.aload_n 0, 0, 0, 0, 0) := rfl
theorem k110_105 : Kc C110 105 = (.getfield 69, 8, 10, 0, 0) := rfl
theorem k110_108 : Kc C110 108 = (.iload 7, 7, 0, 0, 0) := rfl
theorem k110_110 : Kc C110 110 = (.iconst 3, 0, 0, 0, 3) := rfl
theorem k110_111 : Kc C110 111 = (.iadd, 0, 0, 0, 0) := rfl
theorem k110_112 : Kc C110 112 = (.iaload, 0, 0, 0, 0) := rfl
theorem k110_113 : Kc C110 113 = (.invokevirtual 190, 124, 4, 26, 0) := rfl
theorem k110_116 : Kc C110 116 = (.ifCond .ne 6, 122, 0, 0, 0) := rfl
theorem k110_119 : Kc C110 119 = (.ldc 92, 0, 0, 0, (-1000001)) := rfl
theorem k110_121 : Kc C110 121 = (.ireturn, 0, 0, 0, 0) := rfl
theorem k110_122 : Kc C110 122 = (.iinc 6 1, 6, 0, 0, 1) := rfl
theorem k110_125 : Kc C110 125 = (.goto (-59), 66, 0, 0, 0) := rfl
theorem k110_128 : Kc C110 128 = (.aload_n 0, 0, 0, 0, 0) := rfl
theorem k110_129 : Kc C110 129 = (.getfield 58, 8, 7, 0, 0) := rfl
theorem k110_132 : Kc C110 132 = (.aload_n 0, 0, 0, 0, 0) := rfl
theorem k110_133 : Kc C110 133 = (.getfield 54, 8, 6, 0, 0) := rfl
theorem k110_136 : Kc C110 136 = (.invokevirtual 148, 19, 1, 6, 0) := rfl
theorem k110_139 : Kc C110 139 = (.aload_n 0, 0, 0, 0, 0) := rfl
theorem k110_140 : Kc C110 140 = (.getfield 58, 8, 7, 0, 0) := rfl
theorem k110_143 : Kc C110 143 = (.aload_n 0, 0, 0, 0, 0) := rfl
theorem k110_144 : Kc C110 144 = (.getfield 69, 8, 10, 0, 0) := rfl
theorem k110_147 : Kc C110 147 = (.iload_n 3, 3, 0, 0, 0) := rfl
theorem k110_148 : Kc C110 148 = (.invokevirtual 286, 28, 2, 7, 0) := rfl
theorem k110_151 : Kc C110 151 = (.istore 6, 6, 0, 0, 0) := rfl
theorem k110_153 : Kc C110 153 = (.aload_n 0, 0, 0, 0, 0) := rfl
theorem k110_154 : Kc C110 154 = (.iload 4, 4, 0, 0, 0) := rfl
theorem k110_156 : Kc C110 156 = (.ifCond .ne 8, 164, 0, 0, 0) := rfl
theorem k110_159 : Kc C110 159 = (.iload 6, 6, 0, 0, 0) := rfl
theorem k110_161 : Kc C110 161 = (.goto 14, 175, 0, 0, 0) := rfl
theorem k110_164 : Kc C110 164 = (.aload_n 0, 0, 0, 0, 0) := rfl
theorem k110_165 : Kc C110 165 = (.getfield 58, 8, 7, 0, 0) := rfl
theorem k110_168 : Kc C110 168 = (.aload_n 0, 0, 0, 0, 0) := rfl
theorem k110_169 : Kc C110 169 = (.getfield 54, 8, 6, 0, 0) := rfl
theorem k110_172 : Kc C110 172 = (.invokevirtual 290, 29, 1, 7, 0) := rfl
theorem k110_175 : Kc C110 175 = (.invokevirtual 101, 129, 1, 25, 0) := rfl
theorem k110_178 : Kc C110 178 = (.ireturn, 0, 0, 0, 0) := rfl
theorem ev110 (d : Nat) (x0 : Nat) (x1 : Int32) (x2 : Int32) (x3 : Int32) (x4 : Int32) (h : Hp) : EvM (d + 1) 110 [.ref x0, .int x1, .int x2, .int x3, .int x4] h = EvI (EvM d) C110 1 0 [.ref x0, .int x1, .int x2, .int x3, .int x4, jk, jk, jk] [] h := rfl
theorem k111_0 : Kc C111 0 = (.aload_n 0, 0, 0, 0, 0) := rfl
theorem k111_1 : Kc C111 1 = (.getfield 73, 8, 11, 0, 0) := rfl
theorem k111_4 : Kc C111 4 = (.ifCond .ne 6, 10, 0, 0, 0) := rfl
theorem k111_7 : Kc C111 7 = (.ldc 156, 0, 0, 0, (-1000002)) := rfl
theorem k111_9 : Kc C111 9 = (.ireturn, 0, 0, 0, 0) := rfl
theorem k111_10 : Kc C111 10 = (.iload_n 1, 1, 0, 0, 0) := rfl
theorem k111_11 : Kc C111 11 = (.invokestatic 84, 122, 1, 26, 0) := rfl
theorem k111_14 : Kc C111 14 = (.ifCond .eq 20, 34, 0, 0, 0) := rfl
theorem k111_17 : Kc C111 17 = (.iload_n 3, 3, 0, 0, 0) := rfl
theorem k111_18 : Kc C111 18 = (.iconst (-1), 0, 0, 0, (-1)) := rfl
theorem k111_19 : Kc C111 19 = (.aload_n 0, 0, 0, 0, 0) := rfl
theorem k111_20 : Kc C111 20 = (.getfield 54, 8, 6, 0, 0) := rfl
theorem k111_23 : Kc C111 23 = (.getfield 153, 2, 3, 0, 0) := rfl
theorem k111_26 : Kc C111 26 = (.iconst 1, 0, 0, 0, 1) := rfl
theorem k111_27 : Kc C111 27 = (.isub, 0, 0, 0, 0) := rfl
theorem k111_28 : Kc C111 28 = (.invokestatic 88, 121, 3, 26, 0) := rfl
theorem k111_31 : Kc C111 31 = (.ifCond .ne 6, 37, 0, 0, 0) := rfl
theorem k111_34 : Kc C111 34 = (.ldc 92, 0, 0, 0, (-1000001)) := rfl
theorem k111_36 : Kc C111 36 = (.ireturn, 0, 0, 0, 0) := rfl
theorem k111_37 : Kc C111 37 = (.aload_n 0, 0, 0, 0, 0) := rfl
theorem k111_38 : Kc C111 38 = (.iload_n 1, 1, 0, 0, 0) := rfl
theorem k111_39 : Kc C111 39 = (.iload_n 2, 2, 0, 0, 0) := rfl
theorem k111_40 : Kc C111 40 = (.aload_n 0, 0, 0, 0, 0) := rfl
theorem k111_41 : Kc C111 41 = (.getfield 54, 8, 6, 0, 0) := rfl
theorem k111_44 : Kc C111 44 = (.getfield 153, 2, 3, 0, 0) := rfl
theorem k111_47 : Kc C111 47 = (.iconst 0, 0, 0, 0, 0) := rfl
theorem k111_48 : Kc C111 48 = (.sipush 9999, 0, 0, 0, 9999) := rfl
theorem k111_51 : Kc C111 51 = (.invokevirtual 248, 126, 5, 25, 0) := rfl
theorem k111_54 : Kc C111 54 = (.istore 4, 4, 0, 0, 0) := rfl
theorem k111_56 : Kc C111 56 = (.iload 4, 4, 0, 0, 0) := rfl
theorem k111_58 : Kc C111 58 = (.ifCond .eq 6, 64, 0, 0, 0) := rfl
theorem k111_61 : Kc C111 61 = (.iload 4, 4, 0, 0, 0) := rfl
theorem k111_63 : Kc C111 63 = (.ireturn, 0, 0, 0, 0) := rfl
theorem k111_64 : Kc C111 64 = (.aload_n 0, 0, 0, 0, 0) := rfl
theorem k111_65 : Kc C111 65 = (.iload_n 3, 3, 0, 0, 0) := rfl
theorem k111_66 : Kc C111 66 = (.ifCond .ge 17, 83, 0, 0, 0) := rfl
theorem k111_69 : Kc C111 69 = (.aload_n 0, 0, 0, 0, 0) := rfl
theorem k111_70 : Kc C111 70 = (.getfield 54, 8, 6, 0, 0) := rfl
theorem k111_73 : Kc C111 73 = (.aload_n 0, 0, 0, 0, 0) := rfl
theorem k111_74 : Kc C111 74 = (.getfield 69, 8, 10, 0, 0) := rfl
theorem k111_77 : Kc C111 77 = (.invokevirtual 294, 37, 1, 7, 0) := rfl
theorem k111_80 : Kc C111 80 = (.goto 17, 97, 0, 0, 0) := rfl
theorem k111_83 : Kc C111 83 = (.aload_n 0, 0, 0, 0, 0) := rfl
theorem k111_84 : Kc C111 84 = (.getfield 54, 8, 6, 0, 0) := rfl
theorem k111_87 : Kc C111 87 = (.iload_n 3, 3, 0, 0, 0) := rfl
theorem k111_88 : Kc C111 88 = (.aload_n 0, 0, 0, 0, 0) := rfl
theorem k111_89 : Kc C111 89 = (.getfield 69, 8, 10, 0, 0) := rfl
theorem k111_92 : Kc C111 92 = (.iload_n 3, 3, 0, 0, 0) := rfl
theorem k111_93 : Kc C111 93 = (.iaload, 0, 0, 0, 0) := rfl
theorem k111_94 : Kc C111 94 = (.invokevirtual 298, 38, 2, 7, 0) := rfl
theorem k111_97 : Kc C111 97 = (.invokevirtual 101, 129, 1, 25, 0) := rfl
theorem k111_100 : Kc C111 100 = (.ireturn, 0, 0, 0, 0) := rfl
theorem ev111 (d : Nat) (x0 : Nat) (x1 : Int32) (x2 : Int32) (x3 : Int32) (h : Hp) : EvM (d + 1) 111 [.ref x0, .int x1, .int x2, .int x3] h = EvI (EvM d) C111 1 0 [.ref x0, .int x1, .int x2, .int x3, jk] [] h := rfl
theorem k112_0 : Kc C112 0 = (.iload_n 1, 1, 0, 0, 0) := rfl
theorem k112_1 : Kc C112 1 = (.invokestatic 84, 122, 1, 26, 0) := rfl
theorem k112_4 : Kc C112 4 = (.ifCond .eq 35, 39, 0, 0, 0) := rfl
theorem k112_7 : Kc C112 7 = (.iload_n 3, 3, 0, 0, 0) := rfl
theorem k112_8 : Kc C112 8 = (.iconst 0, 0, 0, 0, 0) := rfl
theorem k112_9 : Kc C112 9 = (.bipush 16, 0, 0, 0, 16) := rfl
theorem k112_11 : Kc C112 11 = (.invokestatic 88, 121, 3, 26, 0) := rfl
theorem k112_14 : Kc C112 14 = (.ifCond .eq 25, 39, 0, 0, 0) := rfl
theorem k112_17 : Kc C112 17 = (.iload 4, 4, 0, 0, 0) := rfl
theorem k112_19 : Kc C112 19 = (.iconst 0, 0, 0, 0, 0) := rfl
theorem k112_20 : Kc C112 20 = (.sipush 9999, 0, 0, 0, 9999) := rfl
theorem k112_23 : Kc C112 23 = (.invokestatic 88, 121, 3, 26, 0) := rfl
theorem k112_26 : Kc C112 26 = (.ifCond .eq 13, 39, 0, 0, 0) := rfl
theorem k112_29 : Kc C112 29 = (.iload 5, 5, 0, 0, 0) := rfl
theorem k112_31 : Kc C112 31 = (.iconst 0, 0, 0, 0, 0) := rfl
theorem k112_32 : Kc C112 32 = (.iconst 1, 0, 0, 0, 1) := rfl
theorem k112_33 : Kc C112 33 = (.invokestatic 88, 121, 3, 26, 0) := rfl
theorem k112_36 : Kc C112 36 = (.ifCond .ne 6, 42, 0, 0, 0) := rfl
theorem k112_39 : Kc C112 39 = (.ldc 92, 0, 0, 0, (-1000001)) := rfl
theorem k112_41 : Kc C112 41 = (.ireturn, 0, 0, 0, 0) := rfl
theorem k112_42 : Kc C112 42 = (.aload_n 0, 0, 0, 0, 0) := rfl
theorem k112_43 : Kc C112 43 = (.iload_n 1, 1, 0, 0, 0) := rfl
theorem k112_44 : Kc C112 44 = (.iload_n 2, 2, 0, 0, 0) := rfl
theorem k112_45 : Kc C112 45 = (.iload_n 3, 3, 0, 0, 0) := rfl
theorem k112_46 : Kc C112 46 = (.iconst 1, 0, 0, 0, 1) := rfl
theorem k112_47 : Kc C112 47 = (.sipush 999, 0, 0, 0, 999) := rfl
theorem k112_50 : Kc C112 50 = (.invokevirtual 248, 126, 5, 25, 0) := rfl
theorem k112_53 : Kc C112 53 = (.istore 6, 6, 0, 0, 0) := rfl
theorem k112_55 : Kc C112 55 = (.iload 6, 6, 0, 0, 0) := rfl
theorem k112_57 : Kc C112 57 = (.ifCond .eq 6, 63, 0, 0, 0) := rfl
theorem k112_60 : Kc C112 60 = (.iload 6, 6, 0, 0, 0) := rfl
theorem k112_62 : Kc C112 62 = (.ireturn, 0, 0, 0, 0) := rfl
theorem k112_63 : Kc C112 63 = (.aload_n 0, 0, 0, 0, 0) := rfl
theorem k112_64 : Kc C112 64 = (.getfield 47, 8, 5, 0, 0) := rfl
theorem k112_67 : Kc C112 67 = (.aload_n 0, 0, 0, 0, 0) := rfl
theorem k112_68 : Kc C112 68 = (.getfield 69, 8, 10, 0, 0) := rfl
theorem k112_71 : Kc C112 71 = (.iload_n 3, 3, 0, 0, 0) := rfl
theorem k112_72 : Kc C112 72 = (.iload 4, 4, 0, 0, 0) := rfl
theorem k112_74 : Kc C112 74 = (.invokevirtual 301, 69, 3, 18, 0) := rfl
theorem k112_77 : Kc C112 77 = (.aload_n 0, 0, 0, 0, 0) := rfl
theorem k112_78 : Kc C112 78 = (.iload 5, 5, 0, 0, 0) := rfl
theorem k112_80 : Kc C112 80 = (.ifCond .ne 13, 93, 0, 0, 0) := rfl
theorem k112_83 : Kc C112 83 = (.aload_n 0, 0, 0, 0, 0) := rfl
theorem k112_84 : Kc C112 84 = (.getfield 47, 8, 5, 0, 0) := rfl
theorem k112_87 : Kc C112 87 = (.getfield 305, 6, 0, 0, 0) := rfl
theorem k112_90 : Kc C112 90 = (.goto 10, 100, 0, 0, 0) := rfl
theorem k112_93 : Kc C112 93 = (.aload_n 0, 0, 0, 0, 0) := rfl
theorem k112_94 : Kc C112 94 = (.getfield 47, 8, 5, 0, 0) := rfl
theorem k112_97 : Kc C112 97 = (.getfield 308, 6, 1, 0, 0) := rfl
theorem k112_100 : Kc C112 100 = (.invokevirtual 101, 129, 1, 25, 0) := rfl
theorem k112_103 : Kc C112 103 = (.ireturn, 0, 0, 0, 0) := rfl
theorem ev112 (d : Nat) (x0 : Nat) (x1 : Int32) (x2 : Int32) (x3 : Int32) (x4 : Int32) (x5 : Int32) (h : Hp) : EvM (d + 1) 112 [.ref x0, .int x1, .int x2, .int x3, .int x4, .int x5] h = EvI (EvM d) C112 1 0 [.ref x0, .int x1, .int x2, .int x3, .int x4, .int x5, jk] [] h := rfl
theorem k113_0 : Kc C113 0 = (.iload_n 1, 1, 0, 0, 0) := rfl
theorem k113_1 : Kc C113 1 = (.iconst 0, 0, 0, 0, 0) := rfl
theorem k113_2 : Kc C113 2 = (.iconst 1, 0, 0, 0, 1) := rfl
theorem k113_3 : Kc C113 3 = (.invokestatic 88, 121, 3, 26, 0) := rfl
theorem k113_6 : Kc C113 6 = (.ifCond .ne 6, 12, 0, 0, 0) := rfl
theorem k113_9 : Kc C113 9 = (.ldc 92, 0, 0, 0, (-1000001)) := rfl
theorem k113_11 : Kc C113 11 = (.ireturn, 0, 0, 0, 0) := rfl
theorem k113_12 : Kc C113 12 = (.aload_n 0, 0, 0, 0, 0) := rfl
theorem k113_13 : Kc C113 13 = (.getfield 73, 8, 11, 0, 0) := rfl
theorem k113_16 : Kc C113 16 = (.ifCond .ne 6, 22, 0, 0, 0) := rfl
theorem k113_19 : Kc C113 19 = (.ldc 156, 0, 0, 0, (-1000002)) := rfl
theorem k113_21 : Kc C113 21 = (.ireturn, 0, 0, 0, 0) := rfl
theorem k113_22 : Kc C113 22 = (.aload_n 0, 0, 0, 0, 0) := rfl
theorem k113_23 : Kc C113 23 = (.getfield 61, 8, 8, 0, 0) := rfl
theorem k113_26 : Kc C113 26 = (.iload_n 1, 1, 0, 0, 0) := rfl
theorem k113_27 : Kc C113 27 = (.aaload, 0, 0, 0, 0) := rfl
theorem k113_28 : Kc C113 28 = (.aload_n 0, 0, 0, 0, 0) := rfl
theorem k113_29 : Kc C113 29 = (.getfield 54, 8, 6, 0, 0) := rfl
theorem k113_32 : Kc C113 32 = (.invokevirtual 148, 19, 1, 6, 0) := rfl
theorem k113_35 : Kc C113 35 = (.aload_n 0, 0, 0, 0, 0) := rfl
theorem k113_36 : Kc C113 36 = (.getfield 65, 8, 9, 0, 0) := rfl
theorem k113_39 : Kc C113 39 = (.iload_n 1, 1, 0, 0, 0) := rfl
theorem k113_40 : Kc C113 40 = (.iconst 1, 0, 0, 0, 1) := rfl
theorem k113_41 : Kc C113 41 = (.bastore, 0, 0, 0, 0) := rfl
theorem k113_42 : Kc C113 42 = (.iconst 1, 0, 0, 0, 1) := rfl
theorem k113_43 : Kc C113 43 = (.ireturn, 0, 0, 0, 0) := rfl
theorem ev113 (d : Nat) (x0 : Nat) (x1 : Int32) (h : Hp) : EvM (d + 1) 113 [.ref x0, .int x1] h = EvI (EvM d) C113 1 0 [.ref x0, .int x1] [] h := rfl
theorem k114_0 : Kc C114 0 = (.iload_n 1, 1, 0, 0, 0) := rfl
theorem k114_1 : Kc C114 1 = (.iconst 0, 0, 0, 0, 0) := rfl
theorem k114_2 : Kc C114 2 = (.iconst 1, 0, 0, 0, 1) := rfl
theorem k114_3 : Kc C114 3 = (.invokestatic 88, 121, 3, 26, 0) := rfl
theorem k114_6 : Kc C114 6 = (.ifCond .ne 6, 12, 0, 0, 0) := rfl
theorem k114_9 : Kc C114 9 = (.ldc 92, 0, 0, 0, (-1000001)) := rfl
theorem k114_11 : Kc C114 11 = (.ireturn, 0, 0, 0, 0) := rfl
theorem k114_12 : Kc C114 12 = (.aload_n 0, 0, 0, 0, 0) := rfl
theorem k114_13 : Kc C114 13 = (.getfield 65, 8, 9, 0, 0) := rfl
theorem k114_16 : Kc C114 16 = (.iload_n 1, 1, 0, 0, 0) := rfl
theorem k114_17 : Kc C114 17 = (.baload, 0, 0, 0, 0) := rfl
theorem k114_18 : Kc C114 18 = (.ifCond .ne 6, 24, 0, 0, 0) := rfl
theorem k114_21 : Kc C114 21 = (.ldc 156, 0, 0, 0, (-1000002)) := rfl
theorem k114_23 : Kc C114 23 = (.ireturn, 0, 0, 0, 0) := rfl
theorem k114_24 : Kc C114 24 = (.aload_n 0, 0, 0, 0, 0) := rfl
theorem k114_25 : Kc C114 25 = (.getfield 54, 8, 6, 0, 0) := rfl
theorem k114_28 : Kc C114 28 = (.aload_n 0, 0, 0, 0, 0) := rfl
theorem k114_29 : Kc C114 29 = (.getfield 61, 8, 8, 0, 0) := rfl
theorem k114_32 : Kc C114 32 = (.iload_n 1, 1, 0, 0, 0) := rfl
theorem k114_33 : Kc C114 33 = (.aaload, 0, 0, 0, 0) := rfl
theorem k114_34 : Kc C114 34 = (.invokevirtual 148, 19, 1, 6, 0) := rfl
theorem k114_37 : Kc C114 37 = (.aload_n 0, 0, 0, 0, 0) := rfl
theorem k114_38 : Kc C114 38 = (.getfield 26, 8, 2, 0, 0) := rfl
theorem k114_41 : Kc C114 41 = (.iconst 0, 0, 0, 0, 0) := rfl
theorem k114_42 : Kc C114 42 = (.putfield 152, 0, 2, 0, 0) := rfl
theorem k114_45 : Kc C114 45 = (.iconst 1, 0, 0, 0, 1) := rfl
theorem k114_46 : Kc C114 46 = (.ireturn, 0, 0, 0, 0) := rfl
theorem ev114 (d : Nat) (x0 : Nat) (x1 : Int32) (h : Hp) : EvM (d + 1) 114 [.ref x0, .int x1] h = EvI (EvM d) C114 1 0 [.ref x0, .int x1] [] h := rfl
theorem k115_0 : Kc C115 0 = (.aload_n 0, 0, 0, 0, 0) := rfl
theorem k115_1 : Kc C115 1 = (.iload_n 1, 1, 0, 0, 0) := rfl
theorem k115_2 : Kc C115 2 = (.invokevirtual 160, 123, 1, 26, 0) := rfl
theorem k115_5 : Kc C115 5 = (.ifCond .eq 18, 23, 0, 0, 0) := rfl
theorem k115_8 : Kc C115 8 = (.aload_n 0, 0, 0, 0, 0) := rfl
theorem k115_9 : Kc C115 9 = (.getfield 54, 8, 6, 0, 0) := rfl
theorem k115_12 : Kc C115 12 = (.getfield 163, 2, 4, 0, 0) := rfl
theorem k115_15 : Kc C115 15 = (.iload_n 1, 1, 0, 0, 0) := rfl
theorem k115_16 : Kc C115 16 = (.aaload, 0, 0, 0, 0) := rfl
theorem k115_17 : Kc C115 17 = (.getfield 311, 4, 1, 0, 0) := rfl
theorem k115_20 : Kc C115 20 = (.goto 5, 25, 0, 0, 0) := rfl
theorem k115_23 : Kc C115 23 = (.ldc 92, 0, 0, 0, (-1000001)) := rfl
theorem k115_25 : Kc C115 25 = (.ireturn, 0, 0, 0, 0) := rfl
theorem ev115 (d : Nat) (x0 : Nat) (x1 : Int32) (h : Hp) : EvM (d + 1) 115 [.ref x0, .int x1] h = EvI (EvM d) C115 1 0 [.ref x0, .int x1] [] h := rfl
theorem k116_0 : Kc C116 0 = (.aload_n 0, 0, 0, 0, 0) := rfl
theorem k116_1 : Kc C116 1 = (.iload_n 1, 1, 0, 0, 0) := rfl
theorem k116_2 : Kc C116 2 = (.invokevirtual 160, 123, 1, 26, 0) := rfl
theorem k116_5 : Kc C116 5 = (.ifCond .eq 12, 17, 0, 0, 0) := rfl
theorem k116_8 : Kc C116 8 = (.iload_n 2, 2, 0, 0, 0) := rfl
theorem k116_9 : Kc C116 9 = (.iconst 0, 0, 0, 0, 0) := rfl
theorem k116_10 : Kc C116 10 = (.iconst 5, 0, 0, 0, 5) := rfl
theorem k116_11 : Kc C116 11 = (.invokestatic 88, 121, 3, 26, 0) := rfl
theorem k116_14 : Kc C116 14 = (.ifCond .ne 6, 20, 0, 0, 0) := rfl
theorem k116_17 : Kc C116 17 = (.ldc 92, 0, 0, 0, (-1000001)) := rfl
theorem k116_19 : Kc C116 19 = (.ireturn, 0, 0, 0, 0) := rfl
theorem k116_20 : Kc C116 20 = (.aload_n 0, 0, 0, 0, 0) := rfl
theorem k116_21 : Kc C116 21 = (.getfield 54, 8, 6, 0, 0) := rfl
theorem k116_24 : Kc C116 24 = (.getfield 163, 2, 4, 0, 0) := rfl
theorem k116_27 : Kc C116 27 = (.iload_n 1, 1, 0, 0, 0) := rfl
theorem k116_28 : Kc C116 28 = (.aaload, 0, 0, 0, 0) := rfl
theorem k116_29 : Kc C116 29 = (.iload_n 2, 2, 0, 0, 0) := rfl
theorem k116_30 : Kc C116 30 = (.invokevirtual 314, 49, 1, 14, 0) := rfl
theorem k116_33 : Kc C116 33 = (.ifCond .eq 11, 44, 0, 0, 0) := rfl
theorem k116_36 : Kc C116 36 = (.aload_n 0, 0, 0, 0, 0) := rfl
theorem k116_37 : Kc C116 37 = (.iload_n 1, 1, 0, 0, 0) := rfl
theorem k116_38 : Kc C116 38 = (.invokevirtual 101, 129, 1, 25, 0) := rfl
theorem k116_41 : Kc C116 41 = (.goto 8, 49, 0, 0, 0) := rfl
theorem k116_44 : Kc C116 44 = (.aload_n 0, 0, 0, 0, 0) := rfl
theorem k116_45 : Kc C116 45 = (.iconst 3, 0, 0, 0, 3) := rfl
theorem k116_46 : Kc C116 46 = (.invokevirtual 93, 128, 1, 25, 0) := rfl
theorem k116_49 : Kc C116 49 = (.ireturn, 0, 0, 0, 0) := rfl
theorem ev116 (d : Nat) (x0 : Nat) (x1 : Int32) (x2 : Int32) (h : Hp) : EvM (d + 1) 116 [.ref x0, .int x1, .int x2] h = EvI (EvM d) C116 1 0 [.ref x0, .int x1, .int x2] [] h := rfl
theorem k117_0 : Kc C117 0 = (.aload_n 0, 0, 0, 0, 0) := rfl
theorem k117_1 : Kc C117 1 = (.iload_n 1, 1, 0, 0, 0) := rfl
theorem k117_2 : Kc C117 2 = (.invokevirtual 160, 123, 1, 26, 0) := rfl
theorem k117_5 : Kc C117 5 = (.ifCond .eq 12, 17, 0, 0, 0) := rfl
theorem k117_8 : Kc C117 8 = (.iload_n 2, 2, 0, 0, 0) := rfl
theorem k117_9 : Kc C117 9 = (.iconst 0, 0, 0, 0, 0) := rfl
theorem k117_10 : Kc C117 10 = (.iconst 1, 0, 0, 0, 1) := rfl
theorem k117_11 : Kc C117 11 = (.invokestatic 88, 121, 3, 26, 0) := rfl
theorem k117_14 : Kc C117 14 = (.ifCond .ne 6, 20, 0, 0, 0) := rfl
theorem k117_17 : Kc C117 17 = (.ldc 92, 0, 0, 0, (-1000001)) := rfl
theorem k117_19 : Kc C117 19 = (.ireturn, 0, 0, 0, 0) := rfl
theorem k117_20 : Kc C117 20 = (.aload_n 0, 0, 0, 0, 0) := rfl
theorem k117_21 : Kc C117 21 = (.getfield 33, 8, 3, 0, 0) := rfl
theorem k117_24 : Kc C117 24 = (.iconst 0, 0, 0, 0, 0) := rfl
theorem k117_25 : Kc C117 25 = (.putfield 317, 1, 1, 0, 0) := rfl
theorem k117_28 : Kc C117 28 = (.iload_n 2, 2, 0, 0, 0) := rfl
theorem k117_29 : Kc C117 29 = (.ifCond .ne 23, 52, 0, 0, 0) := rfl
theorem k117_32 : Kc C117 32 = (.aload_n 0, 0, 0, 0, 0) := rfl
theorem k117_33 : Kc C117 33 = (.getfield 33, 8, 3, 0, 0) := rfl
theorem k117_36 : Kc C117 36 = (.aload_n 0, 0, 0, 0, 0) := rfl
theorem k117_37 : Kc C117 37 = (.getfield 54, 8, 6, 0, 0) := rfl
theorem k117_40 : Kc C117 40 = (.getfield 163, 2, 4, 0, 0) := rfl
theorem k117_43 : Kc C117 43 = (.iload_n 1, 1, 0, 0, 0) := rfl
theorem k117_44 : Kc C117 44 = (.aaload, 0, 0, 0, 0) := rfl
theorem k117_45 : Kc C117 45 = (.iconst 0, 0, 0, 0, 0) := rfl
theorem k117_46 : Kc C117 46 = (.invokevirtual 320, 5, 2, 4, 0) := rfl
theorem k117_49 : Kc C117 49 = (.goto 20, 69, 0, 0, 0) := rfl
theorem k117_52 : Kc C117 52 = (.aload_n 0, 0, 0, 0, 0) := rfl
theorem k117_53 : Kc C117 53 = (.getfield 33, 8, 3, 0, 0) := rfl
theorem k117_56 : Kc C117 56 = (.aload_n 0, 0, 0, 0, 0) := rfl
theorem k117_57 : Kc C117 57 = (.getfield 54, 8, 6, 0, 0) := rfl
theorem k117_60 : Kc C117 60 = (.getfield 163, 2, 4, 0, 0) := rfl
theorem k117_63 : Kc C117 63 = (.iload_n 1, 1, 0, 0, 0) := rfl
theorem k117_64 : Kc C117 64 = (.aaload, 0, 0, 0, 0) := rfl
theorem k117_65 : Kc C117 65 = (.iconst 0, 0, 0, 0, 0) := rfl
theorem k117_66 : Kc C117 66 = (.invokevirtual 323, 6, 2, 4, 0) := rfl
theorem k117_69 : Kc C117 69 = (.ireturn, 0, 0, 0, 0) := rfl
theorem ev117 (d : Nat) (x0 : Nat) (x1 : Int32) (x2 : Int32) (h : Hp) : EvM (d + 1) 117 [.ref x0, .int x1, .int x2] h = EvI (EvM d) C117 1 0 [.ref x0, .int x1, .int x2] [] h := rfl
theorem k118_0 : Kc C118 0 = (.iload_n 1, 1, 0, 0, 0) := rfl
theorem k118_1 : Kc C118 1 = (.iconst 0, 0, 0, 0, 0) := rfl
theorem k118_2 : Kc C118 2 = (.aload_n 0, 0, 0, 0, 0) := rfl
theorem k118_3 : Kc C118 3 = (.getfield 33, 8, 3, 0, 0) := rfl
theorem k118_6 : Kc C118 6 = (.getfield 317, 1, 1, 0, 0) := rfl
theorem k118_9 : Kc C118 9 = (.iconst 1, 0, 0, 0, 1) := rfl
theorem k118_10 : Kc C118 10 = (.isub, 0, 0, 0, 0) := rfl
theorem k118_11 : Kc C118 11 = (.invokestatic 88, 121, 3, 26, 0) := rfl
theorem k118_14 : Kc C118 14 = (.ifCond .eq 15, 29, 0, 0, 0) := rfl
theorem k118_17 : Kc C118 17 = (.aload_n 0, 0, 0, 0, 0) := rfl
theorem k118_18 : Kc C118 18 = (.getfield 33, 8, 3, 0, 0) := rfl
theorem k118_21 : Kc C118 21 = (.getfield 326, 1, 0, 0, 0) := rfl
theorem k118_24 : Kc C118 24 = (.iload_n 1, 1, 0, 0, 0) := rfl
theorem k118_25 : Kc C118 25 = (.iaload, 0, 0, 0, 0) := rfl
theorem k118_26 : Kc C118 26 = (.goto 6, 32, 0, 0, 0) := rfl
theorem k118_29 : Kc C118 29 = (.ldc_w 279, 0, 0, 0, (-1000000)) := rfl
theorem k118_32 : Kc C118 32 = (.ireturn, 0, 0, 0, 0) := rfl
theorem ev118 (d : Nat) (x0 : Nat) (x1 : Int32) (h : Hp) : EvM (d + 1) 118 [.ref x0, .int x1] h = EvI (EvM d) C118 1 0 [.ref x0, .int x1] [] h := rfl
theorem k119_0 : Kc C119 0 = (.iload_n 1, 1, 0, 0, 0) := rfl
theorem k119_1 : Kc C119 1 = (.tableswitch 99 0 6 #[43, 51, 59, 67, 75, 83, 91], 0, 0, 0, 0) := rfl
theorem k119_44 : Kc C119 44 = (.aload_n 0, 0, 0, 0, 0) := rfl
theorem k119_45 : Kc C119 45 = (.getfield 10, 8, 0, 0, 0) := rfl
theorem k119_48 : Kc C119 48 = (.invokevirtual 329, 67, 0, 16, 0) := rfl
theorem k119_51 : Kc C119 51 = (.ireturn, 0, 0, 0, 0) := rfl
theorem k119_52 : Kc C119 52 = (.aload_n 0, 0, 0, 0, 0) := rfl
theorem k119_53 : Kc C119 53 = (.getfield 54, 8, 6, 0, 0) := rfl
theorem k119_56 : Kc C119 56 = (.getfield 153, 2, 3, 0, 0) := rfl
theorem k119_59 : Kc C119 59 = (.ireturn, 0, 0, 0, 0) := rfl
theorem k119_60 : Kc C119 60 = (.aload_n 0, 0, 0, 0, 0) := rfl
theorem k119_61 : Kc C119 61 = (.getfield 54, 8, 6, 0, 0) := rfl
theorem k119_64 : Kc C119 64 = (.getfield 176, 2, 2, 0, 0) := rfl
theorem k119_67 : Kc C119 67 = (.ireturn, 0, 0, 0, 0) := rfl
theorem k119_68 : Kc C119 68 = (.aload_n 0, 0, 0, 0, 0) := rfl
theorem k119_69 : Kc C119 69 = (.getfield 54, 8, 6, 0, 0) := rfl
theorem k119_72 : Kc C119 72 = (.invokevirtual 331, 20, 0, 7, 0) := rfl
theorem k119_75 : Kc C119 75 = (.ireturn, 0, 0, 0, 0) := rfl
theorem k119_76 : Kc C119 76 = (.aload_n 0, 0, 0, 0, 0) := rfl
theorem k119_77 : Kc C119 77 = (.getfield 54, 8, 6, 0, 0) := rfl
theorem k119_80 : Kc C119 80 = (.invokevirtual 245, 21, 0, 7, 0) := rfl
theorem k119_83 : Kc C119 83 = (.ireturn, 0, 0, 0, 0) := rfl
theorem k119_84 : Kc C119 84 = (.aload_n 0, 0, 0, 0, 0) := rfl
theorem k119_85 : Kc C119 85 = (.getfield 26, 8, 2, 0, 0) := rfl
theorem k119_88 : Kc C119 88 = (.getfield 152, 0, 2, 0, 0) := rfl
theorem k119_91 : Kc C119 91 = (.ireturn, 0, 0, 0, 0) := rfl
theorem k119_92 : Kc C119 92 = (.aload_n 0, 0, 0, 0, 0) := rfl
theorem k119_93 : Kc C119 93 = (.getfield 19, 8, 1, 0, 0) := rfl
theorem k119_96 : Kc C119 96 = (.getfield 130, 7, 1, 0, 0) := rfl
theorem k119_99 : Kc C119 99 = (.ireturn, 0, 0, 0, 0) := rfl
theorem k119_100 : Kc C119 100 = (.ldc 92, 0, 0, 0, (-1000001)) := rfl
theorem k119_102 : Kc C119 102 = (.ireturn, 0, 0, 0, 0) := rfl
theorem ev119 (d : Nat) (x0 : Nat) (x1 : Int32) (h : Hp) : EvM (d + 1) 119 [.ref x0, .int x1] h = EvI (EvM d) C119 1 0 [.ref x0, .int x1] [] h := rfl
theorem k120_0 : Kc C120 0 = (.aload_n 0, 0, 0, 0, 0) := rfl
theorem k120_1 : Kc C120 1 = (.getfield 81, 8, 13, 0, 0) := rfl
theorem k120_4 : Kc C120 4 = (.ireturn, 0, 0, 0, 0) := rfl
theorem ev120 (d : Nat) (x0 : Nat) (h : Hp) : EvM (d + 1) 120 [.ref x0] h = EvI (EvM d) C120 1 0 [.ref x0] [] h := rfl
theorem k121_0 : Kc C121 0 = (.iload_n 0, 0, 0, 0, 0) := rfl
theorem k121_1 : Kc C121 1 = (.iload_n 1, 1, 0, 0, 0) := rfl
theorem k121_2 : Kc C121 2 = (.if_icmp .lt 12, 14, 0, 0, 0) := rfl
theorem k121_5 : Kc C121 5 = (.iload_n 0, 0, 0, 0, 0) := rfl
theorem k121_6 : Kc C121 6 = (.iload_n 2, 2, 0, 0, 0) := rfl
theorem k121_7 : Kc C121 7 = (.if_icmp .gt 7, 14, 0, 0, 0) := rfl
theorem k121_10 : Kc C121 10 = (.iconst 1, 0, 0, 0, 1) := rfl
theorem k121_11 : Kc C121 11 = (.goto 4, 15, 0, 0, 0) := rfl
theorem k121_14 : Kc C121 14 = (.iconst 0, 0, 0, 0, 0) := rfl
theorem k121_15 : Kc C121 15 = (.ireturn, 0, 0, 0, 0) := rfl
theorem ev121 (d : Nat) (x0 : Int32) (x1 : Int32) (x2 : Int32) (h : Hp) : EvM (d + 1) 121 [.int x0, .int x1, .int x2] h = EvI (EvM d) C121 2 0 [.int x0, .int x1, .int x2] [] h := rfl
theorem k122_0 : Kc C122 0 = (.iload_n 0, 0, 0, 0, 0) := rfl
theorem k122_1 : Kc C122 1 = (.iconst 0, 0, 0, 0, 0) := rfl
theorem k122_2 : Kc C122 2 = (.bipush 7, 0, 0, 0, 7) := rfl
theorem k122_4 : Kc C122 4 = (.invokestatic 88, 121, 3, 26, 0) := rfl
theorem k122_7 : Kc C122 7 = (.ireturn, 0, 0, 0, 0) := rfl
theorem ev122 (d : Nat) (x0 : Int32) (h : Hp) : EvM (d + 1) 122 [.int x0] h = EvI (EvM d) C122 2 0 [.int x0] [] h := rfl
theorem k123_0 : Kc C123 0 = (.iload_n 1, 1, 0, 0, 0) := rfl
theorem k123_1 : Kc C123 1 = (.iconst 0, 0, 0, 0, 0) := rfl
theorem k123_2 : Kc C123 2 = (.aload_n 0, 0, 0, 0, 0) := rfl
theorem k123_3 : Kc C123 3 = (.getfield 54, 8, 6, 0, 0) := rfl
theorem k123_6 : Kc C123 6 = (.getfield 153, 2, 3, 0, 0) := rfl
theorem k123_9 : Kc C123 9 = (.iconst 1, 0, 0, 0, 1) := rfl
theorem k123_10 : Kc C123 10 = (.isub, 0, 0, 0, 0) := rfl
theorem k123_11 : Kc C123 11 = (.invokestatic 88, 121, 3, 26, 0) := rfl
theorem k123_14 : Kc C123 14 = (.ireturn, 0, 0, 0, 0) := rfl
theorem ev123 (d : Nat) (x0 : Nat) (x1 : Int32) (h : Hp) : EvM (d + 1) 123 [.ref x0, .int x1] h = EvI (EvM d) C123 2 0 [.ref x0, .int x1] [] h := rfl
theorem k124_0 : Kc C124 0 = (.aload_n 0, 0, 0, 0, 0) := rfl
theorem k124_1 : Kc C124 1 = (.iload_n 1, 1, 0, 0, 0) := rfl
theorem k124_2 : Kc C124 2 = (.invokevirtual 160, 123, 1, 26, 0) := rfl
theorem k124_5 : Kc C124 5 = (.ifCond .eq 43, 48, 0, 0, 0) := rfl
theorem k124_8 : Kc C124 8 = (.aload_n 0, 0, 0, 0, 0) := rfl
theorem k124_9 : Kc C124 9 = (.iload_n 2, 2, 0, 0, 0) := rfl
theorem k124_10 : Kc C124 10 = (.invokevirtual 160, 123, 1, 26, 0) := rfl
theorem k124_13 : Kc C124 13 = (.ifCond .eq 35, 48, 0, 0, 0) := rfl
theorem k124_16 : Kc C124 16 = (.iload_n 1, 1, 0, 0, 0) := rfl
theorem k124_17 : Kc C124 17 = (.iload_n 2, 2, 0, 0, 0) := rfl
theorem k124_18 : Kc C124 18 = (.if_icmp .eq 30, 48, 0, 0, 0) := rfl
theorem k124_21 : Kc C124 21 = (.iload_n 3, 3, 0, 0, 0) := rfl
theorem k124_22 : Kc C124 22 = (.iconst 1, 0, 0, 0, 1) := rfl
theorem k124_23 : Kc C124 23 = (.sipush 999, 0, 0, 0, 999) := rfl
theorem k124_26 : Kc C124 26 = (.invokestatic 88, 121, 3, 26, 0) := rfl
theorem k124_29 : Kc C124 29 = (.ifCond .eq 19, 48, 0, 0, 0) := rfl
theorem k124_32 : Kc C124 32 = (.iload 4, 4, 0, 0, 0) := rfl
theorem k124_34 : Kc C124 34 = (.iconst 0, 0, 0, 0, 0) := rfl
theorem k124_35 : Kc C124 35 = (.sipush 999, 0, 0, 0, 999) := rfl
theorem k124_38 : Kc C124 38 = (.invokestatic 88, 121, 3, 26, 0) := rfl
theorem k124_41 : Kc C124 41 = (.ifCond .eq 7, 48, 0, 0, 0) := rfl
theorem k124_44 : Kc C124 44 = (.iconst 1, 0, 0, 0, 1) := rfl
theorem k124_45 : Kc C124 45 = (.goto 4, 49, 0, 0, 0) := rfl
theorem k124_48 : Kc C124 48 = (.iconst 0, 0, 0, 0, 0) := rfl
theorem k124_49 : Kc C124 49 = (.ireturn, 0, 0, 0, 0) := rfl
theorem ev124 (d : Nat) (x0 : Nat) (x1 : Int32) (x2 : Int32) (x3 : Int32) (x4 : Int32) (h : Hp) : EvM (d + 1) 124 [.ref x0, .int x1, .int x2, .int x3, .int x4] h = EvI (EvM d) C124 2 0 [.ref x0, .int x1, .int x2, .int x3, .int x4] [] h := rfl
theorem k125_0 : Kc C125 0 = (.iload_n 0, 0, 0, 0, 0) := rfl
theorem k125_1 : Kc C125 1 = (.iconst 0, 0, 0, 0, 0) := rfl
theorem k125_2 : Kc C125 2 = (.bipush 60, 0, 0, 0, 60) := rfl
theorem k125_4 : Kc C125 4 = (.invokestatic 88, 121, 3, 26, 0) := rfl
theorem k125_7 : Kc C125 7 = (.ifCond .eq 17, 24, 0, 0, 0) := rfl
theorem k125_10 : Kc C125 10 = (.iload_n 1, 1, 0, 0, 0) := rfl
theorem k125_11 : Kc C125 11 = (.iconst 1, 0, 0, 0, 1) := rfl
theorem k125_12 : Kc C125 12 = (.ldc 208, 0, 0, 0, 999999) := rfl
theorem k125_14 : Kc C125 14 = (.invokestatic 88, 121, 3, 26, 0) := rfl
theorem k125_17 : Kc C125 17 = (.ifCond .eq 7, 24, 0, 0, 0) := rfl
theorem k125_20 : Kc C125 20 = (.iconst 1, 0, 0, 0, 1) := rfl
theorem k125_21 : Kc C125 21 = (.goto 4, 25, 0, 0, 0) := rfl
theorem k125_24 : Kc C125 24 = (.iconst 0, 0, 0, 0, 0) := rfl
theorem k125_25 : Kc C125 25 = (.ireturn, 0, 0, 0, 0) := rfl
theorem ev125 (d : Nat) (x0 : Int32) (x1 : Int32) (h : Hp) : EvM (d + 1) 125 [.int x0, .int x1] h = EvI (EvM d) C125 2 0 [.int x0, .int x1] [] h := rfl
theorem k126_0 : Kc C126 0 = (.aload_n 0, 0, 0, 0, 0) := rfl
theorem k126_1 : Kc C126 1 = (.getfield 10, 8, 0, 0, 0) := rfl
theorem k126_4 : Kc C126 4 = (.iload_n 1, 1, 0, 0, 0) := rfl
theorem k126_5 : Kc C126 5 = (.iload_n 2, 2, 0, 0, 0) := rfl
theorem k126_6 : Kc C126 6 = (.iload_n 3, 3, 0, 0, 0) := rfl
theorem k126_7 : Kc C126 7 = (.invokevirtual 104, 65, 3, 16, 0) := rfl
theorem k126_10 : Kc C126 10 = (.istore 6, 6, 0, 0, 0) := rfl
theorem k126_12 : Kc C126 12 = (.iload 6, 6, 0, 0, 0) := rfl
theorem k126_14 : Kc C126 14 = (.ifCond .eq 10, 24, 0, 0, 0) := rfl
theorem k126_17 : Kc C126 17 = (.aload_n 0, 0, 0, 0, 0) := rfl
theorem k126_18 : Kc C126 18 = (.iload 6, 6, 0, 0, 0) := rfl
theorem k126_20 : Kc C126 20 = (.invokevirtual 93, 128, 1, 25, 0) := rfl
theorem k126_23 : Kc C126 23 = (.ireturn, 0, 0, 0, 0) := rfl
theorem k126_24 : Kc C126 24 = (.aload_n 0, 0, 0, 0, 0) := rfl
theorem k126_25 : Kc C126 25 = (.getfield 10, 8, 0, 0, 0) := rfl
theorem k126_28 : Kc C126 28 = (.iload_n 1, 1, 0, 0, 0) := rfl
theorem k126_29 : Kc C126 29 = (.iload_n 2, 2, 0, 0, 0) := rfl
theorem k126_30 : Kc C126 30 = (.iload_n 3, 3, 0, 0, 0) := rfl
theorem k126_31 : Kc C126 31 = (.aload_n 0, 0, 0, 0, 0) := rfl
theorem k126_32 : Kc C126 32 = (.getfield 69, 8, 10, 0, 0) := rfl
theorem k126_35 : Kc C126 35 = (.invokevirtual 334, 66, 4, 15, 0) := rfl
theorem k126_38 : Kc C126 38 = (.iconst 0, 0, 0, 0, 0) := rfl
theorem k126_39 : Kc C126 39 = (.istore 7, 7, 0, 0, 0) := rfl
theorem k126_41 : Kc C126 41 = (.iload 7, 7, 0, 0, 0) := rfl
theorem k126_43 : Kc C126 43 = (.iload_n 3, 3, 0, 0, 0) := rfl
theorem k126_44 : Kc C126 44 = (.if_icmp .ge 29, 73, 0, 0, 0) := rfl
theorem k126_47 : Kc C126 47 = (.aload_n 0, 0, 0, 0, 0) := rfl
theorem k126_48 : Kc C126 48 = (.getfield 69, 8, 10, 0, 0) := rfl
theorem k126_51 : Kc C126 51 = (.iload 7, 7, 0, 0, 0) := rfl
theorem k126_53 : Kc C126 53 = (.iaload, 0, 0, 0, 0) := rfl
theorem k126_54 : Kc C126 54 = (.iload 4, 4, 0, 0, 0) := rfl
theorem k126_56 : Kc C126 56 = (.iload 5, 5, 0, 0, 0) := rfl
theorem k126_58 : Kc C126 58 = (.invokestatic 88, 121, 3, 26, 0) := rfl
theorem k126_61 : Kc C126 61 = (.ifCond .ne 6, 67, 0, 0, 0) := rfl
theorem k126_64 : Kc C126 64 = (.ldc 92, 0, 0, 0, (-1000001)) := rfl
theorem k126_66 : Kc C126 66 = (.ireturn, 0, 0, 0, 0) := rfl
theorem k126_67 : Kc C126 67 = (.iinc 7 1, 7, 0, 0, 1) := rfl
theorem k126_70 : Kc C126 70 = (.goto (-29), 41, 0, 0, 0) := rfl
theorem k126_73 : Kc C126 73 = (.iconst 0, 0, 0, 0, 0) := rfl
theorem k126_74 : Kc C126 74 = (.ireturn, 0, 0, 0, 0) := rfl
theorem ev126 (d : Nat) (x0 : Nat) (x1 : Int32) (x2 : Int32) (x3 : Int32) (x4 : Int32) (x5 : Int32) (h : Hp) : EvM (d + 1) 126 [.ref x0, .int x1, .int x2, .int x3, .int x4, .int x5] h = EvI (EvM d) C126 1 0 [.ref x0, .int x1, .int x2, .int x3, .int x4, .int x5, jk, jk] [] h := rfl
theorem k127_0 : Kc C127 0 = (.iload_n 1, 1, 0, 0, 0) := rfl
theorem k127_1 : Kc C127 1 = (.tableswitch 51 0 3 #[31, 36, 41, 46], 0, 0, 0, 0) := rfl
theorem k127_32 : Kc C127 32 = (.aload_n 0, 0, 0, 0, 0) := rfl
theorem k127_33 : Kc C127 33 = (.invokevirtual 167, 50, 0, 13, 0) := rfl
theorem k127_36 : Kc C127 36 = (.ireturn, 0, 0, 0, 0) := rfl
theorem k127_37 : Kc C127 37 = (.aload_n 0, 0, 0, 0, 0) := rfl
theorem k127_38 : Kc C127 38 = (.getfield 187, 4, 5, 0, 0) := rfl
theorem k127_41 : Kc C127 41 = (.ireturn, 0, 0, 0, 0) := rfl
theorem k127_42 : Kc C127 42 = (.aload_n 0, 0, 0, 0, 0) := rfl
theorem k127_43 : Kc C127 43 = (.getfield 338, 4, 4, 0, 0) := rfl
theorem k127_46 : Kc C127 46 = (.ireturn, 0, 0, 0, 0) := rfl
theorem k127_47 : Kc C127 47 = (.aload_n 0, 0, 0, 0, 0) := rfl
theorem k127_48 : Kc C127 48 = (.getfield 341, 4, 6, 0, 0) := rfl
theorem k127_51 : Kc C127 51 = (.ireturn, 0, 0, 0, 0) := rfl
theorem k127_52 : Kc C127 52 = (.ldc 92, 0, 0, 0, (-1000001)) := rfl
theorem k127_54 : Kc C127 54 = (.ireturn, 0, 0, 0, 0) := rfl
theorem ev127 (d : Nat) (x0 : Nat) (x1 : Int32) (h : Hp) : EvM (d + 1) 127 [.ref x0, .int x1] h = EvI (EvM d) C127 1 0 [.ref x0, .int x1] [] h := rfl
theorem k128_0 : Kc C128 0 = (.aload_n 0, 0, 0, 0, 0) := rfl
theorem k128_1 : Kc C128 1 = (.iload_n 1, 1, 0, 0, 0) := rfl
theorem k128_2 : Kc C128 2 = (.putfield 81, 8, 13, 0, 0) := rfl
theorem k128_5 : Kc C128 5 = (.ldc_w 344, 0, 0, 0, (-1000010)) := rfl
theorem k128_8 : Kc C128 8 = (.iload_n 1, 1, 0, 0, 0) := rfl
theorem k128_9 : Kc C128 9 = (.isub, 0, 0, 0, 0) := rfl
theorem k128_10 : Kc C128 10 = (.ireturn, 0, 0, 0, 0) := rfl
theorem ev128 (d : Nat) (x0 : Nat) (x1 : Int32) (h : Hp) : EvM (d + 1) 128 [.ref x0, .int x1] h = EvI (EvM d) C128 1 0 [.ref x0, .int x1] [] h := rfl
theorem k129_0 : Kc C129 0 = (.aload_n 0, 0, 0, 0, 0) := rfl
theorem k129_1 : Kc C129 1 = (.iconst 0, 0, 0, 0, 0) := rfl
theorem k129_2 : Kc C129 2 = (.putfield 81, 8, 13, 0, 0) := rfl
theorem k129_5 : Kc C129 5 = (.iload_n 1, 1, 0, 0, 0) := rfl
theorem k129_6 : Kc C129 6 = (.ireturn, 0, 0, 0, 0) := rfl
theorem ev129 (d : Nat) (x0 : Nat) (x1 : Int32) (h : Hp) : EvM (d + 1) 129 [.ref x0, .int x1] h = EvI (EvM d) C129 1 0 [.ref x0, .int x1] [] h := rfl
