theorem k130_0 : Kc C130 0 = (.aload_n 0, 0, 0, 0, 0) := rfl
theorem k130_1 : Kc C130 1 = (.invokespecial 1, 1002, 0, 0, 0) := rfl
theorem k130_4 : Kc C130 4 = (.aload_n 0, 0, 0, 0, 0) := rfl
theorem k130_5 : Kc C130 5 = (.sipush 476, 0, 0, 0, 476) := rfl
theorem k130_8 : Kc C130 8 = (.newarray .int, 0, 0, 0, 0) := rfl
theorem k130_10 : Kc C130 10 = (.putfield 7, 9, 0, 0, 0) := rfl
theorem k130_13 : Kc C130 13 = (.aload_n 0, 0, 0, 0, 0) := rfl
theorem k130_14 : Kc C130 14 = (.sipush 2328, 0, 0, 0, 2328) := rfl
theorem k130_17 : Kc C130 17 = (.newarray .int, 0, 0, 0, 0) := rfl
theorem k130_19 : Kc C130 19 = (.putfield 13, 9, 1, 0, 0) := rfl
theorem k130_22 : Kc C130 22 = (.aload_n 0, 0, 0, 0, 0) := rfl
theorem k130_23 : Kc C130 23 = (.bipush 120, 0, 0, 0, 120) := rfl
theorem k130_25 : Kc C130 25 = (.newarray .int, 0, 0, 0, 0) := rfl
theorem k130_27 : Kc C130 27 = (.putfield 16, 9, 3, 0, 0) := rfl
theorem k130_30 : Kc C130 30 = (.aload_n 0, 0, 0, 0, 0) := rfl
theorem k130_31 : Kc C130 31 = (.bipush 8, 0, 0, 0, 8) := rfl
theorem k130_33 : Kc C130 33 = (.newarray .int, 0, 0, 0, 0) := rfl
theorem k130_35 : Kc C130 35 = (.dup, 0, 0, 0, 0) := rfl
theorem k130_36 : Kc C130 36 = (.iconst 0, 0, 0, 0, 0) := rfl
theorem k130_37 : Kc C130 37 = (.ldc 19, 0, 0, 0, (-1000000)) := rfl
theorem k130_39 : Kc C130 39 = (.iastore, 0, 0, 0, 0) := rfl
theorem k130_40 : Kc C130 40 = (.dup, 0, 0, 0, 0) := rfl
theorem k130_41 : Kc C130 41 = (.iconst 1, 0, 0, 0, 1) := rfl
theorem k130_42 : Kc C130 42 = (.ldc 19, 0, 0, 0, (-1000000)) := rfl
theorem k130_44 : Kc C130 44 = (.iastore, 0, 0, 0, 0) := rfl
theorem k130_45 : Kc C130 45 = (.dup, 0, 0, 0, 0) := rfl
theorem k130_46 : Kc C130 46 = (.iconst 2, 0, 0, 0, 2) := rfl
theorem k130_47 : Kc C130 47 = (.ldc 19, 0, 0, 0, (-1000000)) := rfl
theorem k130_49 : Kc C130 49 = (.iastore, 0, 0, 0, 0) := rfl
theorem k130_50 : Kc C130 50 = (.dup, 0, 0, 0, 0) := rfl
theorem k130_51 : Kc C130 51 = (.iconst 3, 0, 0, 0, 3) := rfl
theorem k130_52 : Kc C130 52 = (.ldc 19, 0, 0, 0, (-1000000)) := rfl
theorem k130_54 : Kc C130 54 = (.iastore, 0, 0, 0, 0) := rfl
theorem k130_55 : Kc C130 55 = (.dup, 0, 0, 0, 0) := rfl
theorem k130_56 : Kc C130 56 = (.iconst 4, 0, 0, 0, 4) := rfl
theorem k130_57 : Kc C130 57 = (.ldc 19, 0, 0, 0, (-1000000)) := rfl
theorem k130_59 : Kc C130 59 = (.iastore, 0, 0, 0, 0) := rfl
theorem k130_60 : Kc C130 60 = (.dup, 0, 0, 0, 0) := rfl
theorem k130_61 : Kc C130 61 = (.iconst 5, 0, 0, 0, 5) := rfl
theorem k130_62 : Kc C130 62 = (.ldc 19, 0, 0, 0, (-1000000)) := rfl
theorem k130_64 : Kc C130 64 = (.iastore, 0, 0, 0, 0) := rfl
theorem k130_65 : Kc C130 65 = (.dup, 0, 0, 0, 0) := rfl
theorem k130_66 : Kc C130 66 = (.bipush 6, 0, 0, 0, 6) := rfl
theorem k130_68 : Kc C130 68 = (.ldc 19, 0, 0, 0, (-1000000)) := rfl
theorem k130_70 : Kc C130 70 = (.iastore, 0, 0, 0, 0) := rfl
theorem k130_71 : Kc C130 71 = (.dup, 0, 0, 0, 0) := rfl
theorem k130_72 : Kc C130 72 = (.bipush 7, 0, 0, 0, 7) := rfl
theorem k130_74 : Kc C130 74 = (.ldc 19, 0, 0, 0, (-1000000)) := rfl
theorem k130_76 : Kc C130 76 = (.iastore, 0, 0, 0, 0) := rfl
theorem k130_77 : Kc C130 77 = (.putfield 20, 9, 7, 0, 0) := rfl
theorem k130_80 : Kc C130 80 = (.aload_n 0, 0, 0, 0, 0) := rfl
theorem k130_81 : Kc C130 81 = (.bipush 8, 0, 0, 0, 8) := rfl
theorem k130_83 : Kc C130 83 = (.newarray .int, 0, 0, 0, 0) := rfl
theorem k130_85 : Kc C130 85 = (.putfield 23, 9, 8, 0, 0) := rfl
theorem k130_88 : Kc C130 88 = (.aload_n 0, 0, 0, 0, 0) := rfl
theorem k130_89 : Kc C130 89 = (.sipush 320, 0, 0, 0, 320) := rfl
theorem k130_92 : Kc C130 92 = (.newarray .int, 0, 0, 0, 0) := rfl
theorem k130_94 : Kc C130 94 = (.putfield 26, 9, 9, 0, 0) := rfl
theorem k130_97 : Kc C130 97 = (.aload_n 0, 0, 0, 0, 0) := rfl
theorem k130_98 : Kc C130 98 = (.bipush 16, 0, 0, 0, 16) := rfl
theorem k130_100 : Kc C130 100 = (.newarray .int, 0, 0, 0, 0) := rfl
theorem k130_102 : Kc C130 102 = (.putfield 29, 9, 10, 0, 0) := rfl
theorem k130_105 : Kc C130 105 = (.aload_n 0, 0, 0, 0, 0) := rfl
theorem k130_106 : Kc C130 106 = (.bipush 24, 0, 0, 0, 24) := rfl
theorem k130_108 : Kc C130 108 = (.newarray .int, 0, 0, 0, 0) := rfl
theorem k130_110 : Kc C130 110 = (.putfield 32, 9, 15, 0, 0) := rfl
theorem k130_113 : Kc C130 113 = (.aload_n 0, 0, 0, 0, 0) := rfl
theorem k130_114 : Kc C130 114 = (.bipush 12, 0, 0, 0, 12) := rfl
theorem k130_116 : Kc C130 116 = (.newarray .int, 0, 0, 0, 0) := rfl
theorem k130_118 : Kc C130 118 = (.dup, 0, 0, 0, 0) := rfl
theorem k130_119 : Kc C130 119 = (.iconst 0, 0, 0, 0, 0) := rfl
theorem k130_120 : Kc C130 120 = (.iconst 0, 0, 0, 0, 0) := rfl
theorem k130_121 : Kc C130 121 = (.iastore, 0, 0, 0, 0) := rfl
theorem k130_122 : Kc C130 122 = (.dup, 0, 0, 0, 0) := rfl
theorem k130_123 : Kc C130 123 = (.iconst 1, 0, 0, 0, 1) := rfl
theorem k130_124 : Kc C130 124 = (.iconst 1, 0, 0, 0, 1) := rfl
theorem k130_125 : Kc C130 125 = (.iastore, 0, 0, 0, 0) := rfl
theorem k130_126 : Kc C130 126 = (.dup, 0, 0, 0, 0) := rfl
theorem k130_127 : Kc C130 127 = (.iconst 2, 0, 0, 0, 2) := rfl
theorem k130_128 : Kc C130 128 = (.iconst 2, 0, 0, 0, 2) := rfl
theorem k130_129 : Kc C130 129 = (.iastore, 0, 0, 0, 0) := rfl
theorem k130_130 : Kc C130 130 = (.dup, 0, 0, 0, 0) := rfl
theorem k130_131 : Kc C130 131 = (.iconst 3, 0, 0, 0, 3) := rfl
theorem k130_132 : Kc C130 132 = (.iconst 3, 0, 0, 0, 3) := rfl
theorem k130_133 : Kc C130 133 = (.iastore, 0, 0, 0, 0) := rfl
theorem k130_134 : Kc C130 134 = (.dup, 0, 0, 0, 0) := rfl
theorem k130_135 : Kc C130 135 = (.iconst 4, 0, 0, 0, 4) := rfl
theorem k130_136 : Kc C130 136 = (.iconst 4, 0, 0, 0, 4) := rfl
theorem k130_137 : Kc C130 137 = (.iastore, 0, 0, 0, 0) := rfl
theorem k130_138 : Kc C130 138 = (.dup, 0, 0, 0, 0) := rfl
theorem k130_139 : Kc C130 139 = (.iconst 5, 0, 0, 0, 5) := rfl
theorem k130_140 : Kc C130 140 = (.iconst 5, 0, 0, 0, 5) := rfl
theorem k130_141 : Kc C130 141 = (.iastore, 0, 0, 0, 0) := rfl
theorem k130_142 : Kc C130 142 = (.dup, 0, 0, 0, 0) := rfl
theorem k130_143 : Kc C130 143 = (.bipush 6, 0, 0, 0, 6) := rfl
theorem k130_145 : Kc C130 145 = (.bipush 6, 0, 0, 0, 6) := rfl
theorem k130_147 : Kc C130 147 = (.iastore, 0, 0, 0, 0) := rfl
theorem k130_148 : Kc C130 148 = (.dup, 0, 0, 0, 0) := rfl
theorem k130_149 : Kc C130 149 = (.bipush 7, 0, 0, 0, 7) := rfl
theorem k130_151 : Kc C130 151 = (.bipush 7, 0, 0, 0, 7) := rfl
theorem k130_153 : Kc C130 153 = (.iastore, 0, 0, 0, 0) := rfl
theorem k130_154 : Kc C130 154 = (.dup, 0, 0, 0, 0) := rfl
theorem k130_155 : Kc C130 155 = (.bipush 8, 0, 0, 0, 8) := rfl
theorem k130_157 : Kc C130 157 = (.bipush 8, 0, 0, 0, 8) := rfl
theorem k130_159 : Kc C130 159 = (.iastore, 0, 0, 0, 0) := rfl
theorem k130_160 : Kc C130 160 = (.dup, 0, 0, 0, 0) := rfl
theorem k130_161 : Kc C130 161 = (.bipush 9, 0, 0, 0, 9) := rfl
theorem k130_163 : Kc C130 163 = (.bipush 9, 0, 0, 0, 9) := rfl
theorem k130_165 : Kc C130 165 = (.iastore, 0, 0, 0, 0) := rfl
theorem k130_166 : Kc C130 166 = (.dup, 0, 0, 0, 0) := rfl
theorem k130_167 : Kc C130 167 = (.bipush 10, 0, 0, 0, 10) := rfl
theorem k130_169 : Kc C130 169 = (.bipush 10, 0, 0, 0, 10) := rfl
theorem k130_171 : Kc C130 171 = (.iastore, 0, 0, 0, 0) := rfl
theorem k130_172 : Kc C130 172 = (.dup, 0, 0, 0, 0) := rfl
theorem k130_173 : Kc C130 173 = (.bipush 11, 0, 0, 0, 11) := rfl
theorem k130_175 : Kc C130 175 = (.bipush 11, 0, 0, 0, 11) := rfl
theorem k130_177 : Kc C130 177 = (.iastore, 0, 0, 0, 0) := rfl
theorem k130_178 : Kc C130 178 = (.putfield 35, 9, 19, 0, 0) := rfl
theorem k130_181 : Kc C130 181 = (.return_, 0, 0, 0, 0) := rfl
theorem ev130 (d : Nat) (x0 : Nat) (h : Hp) : EvM (d + 1) 130 [.ref x0] h = EvI (EvM d) C130 0 0 [.ref x0] [] h := rfl
theorem k131_0 : Kc C131 0 = (.lload_n 0, 0, 0, 0, 0) := rfl
theorem k131_1 : Kc C131 1 = (.lload_n 2, 2, 0, 0, 0) := rfl
theorem k131_2 : Kc C131 2 = (.lcmp, 0, 0, 0, 0) := rfl
theorem k131_3 : Kc C131 3 = (.ifCond .lt 14, 17, 0, 0, 0) := rfl
theorem k131_6 : Kc C131 6 = (.lload_n 0, 0, 0, 0, 0) := rfl
theorem k131_7 : Kc C131 7 = (.lload 4, 4, 0, 0, 0) := rfl
theorem k131_9 : Kc C131 9 = (.lcmp, 0, 0, 0, 0) := rfl
theorem k131_10 : Kc C131 10 = (.ifCond .gt 7, 17, 0, 0, 0) := rfl
theorem k131_13 : Kc C131 13 = (.iconst 1, 0, 0, 0, 1) := rfl
theorem k131_14 : Kc C131 14 = (.goto 4, 18, 0, 0, 0) := rfl
theorem k131_17 : Kc C131 17 = (.iconst 0, 0, 0, 0, 0) := rfl
theorem k131_18 : Kc C131 18 = (.ireturn, 0, 0, 0, 0) := rfl
theorem ev131 (d : Nat) (x0 : Int64) (x1 : Int64) (x2 : Int64) (h : Hp) : EvM (d + 1) 131 [.long x0, .long x1, .long x2] h = EvI (EvM d) C131 2 0 [.long x0, jk, .long x1, jk, .long x2, jk] [] h := rfl
theorem k132_0 : Kc C132 0 = (.iload_n 0, 0, 0, 0, 0) := rfl
theorem k132_1 : Kc C132 1 = (.iload_n 1, 1, 0, 0, 0) := rfl
theorem k132_2 : Kc C132 2 = (.ishr, 0, 0, 0, 0) := rfl
theorem k132_3 : Kc C132 3 = (.iconst 1, 0, 0, 0, 1) := rfl
theorem k132_4 : Kc C132 4 = (.iand, 0, 0, 0, 0) := rfl
theorem k132_5 : Kc C132 5 = (.iconst 1, 0, 0, 0, 1) := rfl
theorem k132_6 : Kc C132 6 = (.if_icmp .ne 7, 13, 0, 0, 0) := rfl
theorem k132_9 : Kc C132 9 = (.iconst 1, 0, 0, 0, 1) := rfl
theorem k132_10 : Kc C132 10 = (.goto 4, 14, 0, 0, 0) := rfl
theorem k132_13 : Kc C132 13 = (.iconst 0, 0, 0, 0, 0) := rfl
theorem k132_14 : Kc C132 14 = (.ireturn, 0, 0, 0, 0) := rfl
theorem ev132 (d : Nat) (x0 : Int32) (x1 : Int32) (h : Hp) : EvM (d + 1) 132 [.int x0, .int x1] h = EvI (EvM d) C132 2 0 [.int x0, .int x1] [] h := rfl
theorem k133_0 : Kc C133 0 = (.aload_n 0, 0, 0, 0, 0) := rfl
theorem k133_1 : Kc C133 1 = (.iload_n 1, 1, 0, 0, 0) := rfl
theorem k133_2 : Kc C133 2 = (.putfield 38, 9, 6, 0, 0) := rfl
theorem k133_5 : Kc C133 5 = (.ldc 42, 0, 0, 0, (-1000010)) := rfl
theorem k133_7 : Kc C133 7 = (.iload_n 1, 1, 0, 0, 0) := rfl
theorem k133_8 : Kc C133 8 = (.isub, 0, 0, 0, 0) := rfl
theorem k133_9 : Kc C133 9 = (.ireturn, 0, 0, 0, 0) := rfl
theorem ev133 (d : Nat) (x0 : Nat) (x1 : Int32) (h : Hp) : EvM (d + 1) 133 [.ref x0, .int x1] h = EvI (EvM d) C133 1 0 [.ref x0, .int x1] [] h := rfl
theorem k134_0 : Kc C134 0 = (.aload_n 0, 0, 0, 0, 0) := rfl
theorem k134_1 : Kc C134 1 = (.iconst 0, 0, 0, 0, 0) := rfl
theorem k134_2 : Kc C134 2 = (.putfield 38, 9, 6, 0, 0) := rfl
theorem k134_5 : Kc C134 5 = (.iload_n 1, 1, 0, 0, 0) := rfl
theorem k134_6 : Kc C134 6 = (.ireturn, 0, 0, 0, 0) := rfl
theorem ev134 (d : Nat) (x0 : Nat) (x1 : Int32) (h : Hp) : EvM (d + 1) 134 [.ref x0, .int x1] h = EvI (EvM d) C134 1 0 [.ref x0, .int x1] [] h := rfl
theorem k135_0 : Kc C135 0 = (.iload_n 0, 0, 0, 0, 0) := rfl
theorem k135_1 : Kc C135 1 = (.i2l, 0, 0, 0, 0) := rfl
theorem k135_2 : Kc C135 2 = (.lconst 0, 0, 0, 0, 0) := rfl
theorem k135_3 : Kc C135 3 = (.ldc2_w 43, 0, 0, 0, 7) := rfl
theorem k135_6 : Kc C135 6 = (.invokestatic 45, 131, 3, 29, 0) := rfl
theorem k135_9 : Kc C135 9 = (.ireturn, 0, 0, 0, 0) := rfl
theorem ev135 (d : Nat) (x0 : Int32) (h : Hp) : EvM (d + 1) 135 [.int x0] h = EvI (EvM d) C135 2 0 [.int x0] [] h := rfl
theorem k136_0 : Kc C136 0 = (.iload_n 1, 1, 0, 0, 0) := rfl
theorem k136_1 : Kc C136 1 = (.invokestatic 49, 135, 1, 29, 0) := rfl
theorem k136_4 : Kc C136 4 = (.ifCond .eq 21, 25, 0, 0, 0) := rfl
theorem k136_7 : Kc C136 7 = (.iload_n 2, 2, 0, 0, 0) := rfl
theorem k136_8 : Kc C136 8 = (.i2l, 0, 0, 0, 0) := rfl
theorem k136_9 : Kc C136 9 = (.lconst 0, 0, 0, 0, 0) := rfl
theorem k136_10 : Kc C136 10 = (.ldc2_w 53, 0, 0, 0, 2) := rfl
theorem k136_13 : Kc C136 13 = (.invokestatic 45, 131, 3, 29, 0) := rfl
theorem k136_16 : Kc C136 16 = (.ifCond .eq 9, 25, 0, 0, 0) := rfl
theorem k136_19 : Kc C136 19 = (.iload_n 3, 3, 0, 0, 0) := rfl
theorem k136_20 : Kc C136 20 = (.bipush 40, 0, 0, 0, 40) := rfl
theorem k136_22 : Kc C136 22 = (.if_icmp .le 6, 28, 0, 0, 0) := rfl
theorem k136_25 : Kc C136 25 = (.ldc 55, 0, 0, 0, (-1000001)) := rfl
theorem k136_27 : Kc C136 27 = (.ireturn, 0, 0, 0, 0) := rfl
theorem k136_28 : Kc C136 28 = (.iload_n 3, 3, 0, 0, 0) := rfl
theorem k136_29 : Kc C136 29 = (.ifCond .ge 9, 38, 0, 0, 0) := rfl
theorem k136_32 : Kc C136 32 = (.aload_n 0, 0, 0, 0, 0) := rfl
theorem k136_33 : Kc C136 33 = (.iconst 4, 0, 0, 0, 4) := rfl
theorem k136_34 : Kc C136 34 = (.invokevirtual 56, 133, 1, 28, 0) := rfl
theorem k136_37 : Kc C136 37 = (.ireturn, 0, 0, 0, 0) := rfl
theorem k136_38 : Kc C136 38 = (.aload_n 0, 0, 0, 0, 0) := rfl
theorem k136_39 : Kc C136 39 = (.getfield 20, 9, 7, 0, 0) := rfl
theorem k136_42 : Kc C136 42 = (.iload_n 1, 1, 0, 0, 0) := rfl
theorem k136_43 : Kc C136 43 = (.iload_n 2, 2, 0, 0, 0) := rfl
theorem k136_44 : Kc C136 44 = (.iastore, 0, 0, 0, 0) := rfl
theorem k136_45 : Kc C136 45 = (.aload_n 0, 0, 0, 0, 0) := rfl
theorem k136_46 : Kc C136 46 = (.getfield 23, 9, 8, 0, 0) := rfl
theorem k136_49 : Kc C136 49 = (.iload_n 1, 1, 0, 0, 0) := rfl
theorem k136_50 : Kc C136 50 = (.iload_n 3, 3, 0, 0, 0) := rfl
theorem k136_51 : Kc C136 51 = (.iastore, 0, 0, 0, 0) := rfl
theorem k136_52 : Kc C136 52 = (.iconst 0, 0, 0, 0, 0) := rfl
theorem k136_53 : Kc C136 53 = (.istore 4, 4, 0, 0, 0) := rfl
theorem k136_55 : Kc C136 55 = (.iload 4, 4, 0, 0, 0) := rfl
theorem k136_57 : Kc C136 57 = (.iload_n 3, 3, 0, 0, 0) := rfl
theorem k136_58 : Kc C136 58 = (.if_icmp .ge 22, 80, 0, 0, 0) := rfl
theorem k136_61 : Kc C136 61 = (.aload_n 0, 0, 0, 0, 0) := rfl
theorem k136_62 : Kc C136 62 = (.getfield 26, 9, 9, 0, 0) := rfl
theorem k136_65 : Kc C136 65 = (.bipush 40, 0, 0, 0, 40) := rfl
theorem k136_67 : Kc C136 67 = (.iload_n 1, 1, 0, 0, 0) := rfl
theorem k136_68 : Kc C136 68 = (.imul, 0, 0, 0, 0) := rfl
theorem k136_69 : Kc C136 69 = (.iload 4, 4, 0, 0, 0) := rfl
theorem k136_71 : Kc C136 71 = (.iadd, 0, 0, 0, 0) := rfl
theorem k136_72 : Kc C136 72 = (.iconst 0, 0, 0, 0, 0) := rfl
theorem k136_73 : Kc C136 73 = (.iastore, 0, 0, 0, 0) := rfl
theorem k136_74 : Kc C136 74 = (.iinc 4 1, 4, 0, 0, 1) := rfl
theorem k136_77 : Kc C136 77 = (.goto (-22), 55, 0, 0, 0) := rfl
theorem k136_80 : Kc C136 80 = (.aload_n 0, 0, 0, 0, 0) := rfl
theorem k136_81 : Kc C136 81 = (.iload_n 3, 3, 0, 0, 0) := rfl
theorem k136_82 : Kc C136 82 = (.invokevirtual 60, 134, 1, 28, 0) := rfl
theorem k136_85 : Kc C136 85 = (.ireturn, 0, 0, 0, 0) := rfl
theorem ev136 (d : Nat) (x0 : Nat) (x1 : Int32) (x2 : Int32) (x3 : Int32) (h : Hp) : EvM (d + 1) 136 [.ref x0, .int x1, .int x2, .int x3] h = EvI (EvM d) C136 1 0 [.ref x0, .int x1, .int x2, .int x3, jk] [] h := rfl
theorem k137_0 : Kc C137 0 = (.iload_n 1, 1, 0, 0, 0) := rfl
theorem k137_1 : Kc C137 1 = (.invokestatic 49, 135, 1, 29, 0) := rfl
theorem k137_4 : Kc C137 4 = (.ifCond .ne 6, 10, 0, 0, 0) := rfl
theorem k137_7 : Kc C137 7 = (.ldc 55, 0, 0, 0, (-1000001)) := rfl
theorem k137_9 : Kc C137 9 = (.ireturn, 0, 0, 0, 0) := rfl
theorem k137_10 : Kc C137 10 = (.aload_n 0, 0, 0, 0, 0) := rfl
theorem k137_11 : Kc C137 11 = (.getfield 20, 9, 7, 0, 0) := rfl
theorem k137_14 : Kc C137 14 = (.iload_n 1, 1, 0, 0, 0) := rfl
theorem k137_15 : Kc C137 15 = (.iaload, 0, 0, 0, 0) := rfl
theorem k137_16 : Kc C137 16 = (.ldc 19, 0, 0, 0, (-1000000)) := rfl
theorem k137_18 : Kc C137 18 = (.if_icmp .ne 9, 27, 0, 0, 0) := rfl
theorem k137_21 : Kc C137 21 = (.aload_n 0, 0, 0, 0, 0) := rfl
theorem k137_22 : Kc C137 22 = (.iconst 1, 0, 0, 0, 1) := rfl
theorem k137_23 : Kc C137 23 = (.invokevirtual 56, 133, 1, 28, 0) := rfl
theorem k137_26 : Kc C137 26 = (.ireturn, 0, 0, 0, 0) := rfl
theorem k137_27 : Kc C137 27 = (.iload_n 2, 2, 0, 0, 0) := rfl
theorem k137_28 : Kc C137 28 = (.i2l, 0, 0, 0, 0) := rfl
theorem k137_29 : Kc C137 29 = (.lconst 0, 0, 0, 0, 0) := rfl
theorem k137_30 : Kc C137 30 = (.aload_n 0, 0, 0, 0, 0) := rfl
theorem k137_31 : Kc C137 31 = (.getfield 23, 9, 8, 0, 0) := rfl
theorem k137_34 : Kc C137 34 = (.iload_n 1, 1, 0, 0, 0) := rfl
theorem k137_35 : Kc C137 35 = (.iaload, 0, 0, 0, 0) := rfl
theorem k137_36 : Kc C137 36 = (.iconst 1, 0, 0, 0, 1) := rfl
theorem k137_37 : Kc C137 37 = (.isub, 0, 0, 0, 0) := rfl
theorem k137_38 : Kc C137 38 = (.i2l, 0, 0, 0, 0) := rfl
theorem k137_39 : Kc C137 39 = (.invokestatic 45, 131, 3, 29, 0) := rfl
theorem k137_42 : Kc C137 42 = (.ifCond .ne 9, 51, 0, 0, 0) := rfl
theorem k137_45 : Kc C137 45 = (.aload_n 0, 0, 0, 0, 0) := rfl
theorem k137_46 : Kc C137 46 = (.iconst 2, 0, 0, 0, 2) := rfl
theorem k137_47 : Kc C137 47 = (.invokevirtual 56, 133, 1, 28, 0) := rfl
theorem k137_50 : Kc C137 50 = (.ireturn, 0, 0, 0, 0) := rfl
theorem k137_51 : Kc C137 51 = (.aload_n 0, 0, 0, 0, 0) := rfl
theorem k137_52 : Kc C137 52 = (.getfield 26, 9, 9, 0, 0) := rfl
theorem k137_55 : Kc C137 55 = (.bipush 40, 0, 0, 0, 40) := rfl
theorem k137_57 : Kc C137 57 = (.iload_n 1, 1, 0, 0, 0) := rfl
theorem k137_58 : Kc C137 58 = (.imul, 0, 0, 0, 0) := rfl
theorem k137_59 : Kc C137 59 = (.iload_n 2, 2, 0, 0, 0) := rfl
theorem k137_60 : Kc C137 60 = (.iadd, 0, 0, 0, 0) := rfl
theorem k137_61 : Kc C137 61 = (.aload_n 0, 0, 0, 0, 0) := rfl
theorem k137_62 : Kc C137 62 = (.getfield 20, 9, 7, 0, 0) := rfl
theorem k137_65 : Kc C137 65 = (.iload_n 1, 1, 0, 0, 0) := rfl
theorem k137_66 : Kc C137 66 = (.iaload, 0, 0, 0, 0) := rfl
theorem k137_67 : Kc C137 67 = (.ifCond .ne 8, 75, 0, 0, 0) := rfl
theorem k137_70 : Kc C137 70 = (.iload_n 3, 3, 0, 0, 0) := rfl
theorem k137_71 : Kc C137 71 = (.i2b, 0, 0, 0, 0) := rfl
theorem k137_72 : Kc C137 72 = (.goto 19, 91, 0, 0, 0) := rfl
theorem k137_75 : Kc C137 75 = (.aload_n 0, 0, 0, 0, 0) := rfl
theorem k137_76 : Kc C137 76 = (.getfield 20, 9, 7, 0, 0) := rfl
theorem k137_79 : Kc C137 79 = (.iload_n 1, 1, 0, 0, 0) := rfl
theorem k137_80 : Kc C137 80 = (.iaload, 0, 0, 0, 0) := rfl
theorem k137_81 : Kc C137 81 = (.iconst 1, 0, 0, 0, 1) := rfl
theorem k137_82 : Kc C137 82 = (.if_icmp .ne 8, 90, 0, 0, 0) := rfl
theorem k137_85 : Kc C137 85 = (.iload_n 3, 3, 0, 0, 0) := rfl
theorem k137_86 : Kc C137 86 = (.i2s, 0, 0, 0, 0) := rfl
theorem k137_87 : Kc C137 87 = (.goto 4, 91, 0, 0, 0) := rfl
theorem k137_90 : Kc C137 90 = (.iload_n 3, 3, 0, 0, 0) := rfl
theorem k137_91 : Kc C137 91 = (.iastore, 0, 0, 0, 0) := rfl
theorem k137_92 : Kc C137 92 = (.aload_n 0, 0, 0, 0, 0) := rfl
theorem k137_93 : Kc C137 93 = (.aload_n 0, 0, 0, 0, 0) := rfl
theorem k137_94 : Kc C137 94 = (.getfield 26, 9, 9, 0, 0) := rfl
theorem k137_97 : Kc C137 97 = (.bipush 40, 0, 0, 0, 40) := rfl
theorem k137_99 : Kc C137 99 = (.iload_n 1, 1, 0, 0, 0) := rfl
theorem k137_100 : Kc C137 100 = (.imul, 0, 0, 0, 0) := rfl
theorem k137_101 : Kc C137 101 = (.iload_n 2, 2, 0, 0, 0) := rfl
theorem k137_102 : Kc C137 102 = (.iadd, 0, 0, 0, 0) := rfl
theorem k137_103 : Kc C137 103 = (.iaload, 0, 0, 0, 0) := rfl
theorem k137_104 : Kc C137 104 = (.invokevirtual 60, 134, 1, 28, 0) := rfl
theorem k137_107 : Kc C137 107 = (.ireturn, 0, 0, 0, 0) := rfl
theorem ev137 (d : Nat) (x0 : Nat) (x1 : Int32) (x2 : Int32) (x3 : Int32) (h : Hp) : EvM (d + 1) 137 [.ref x0, .int x1, .int x2, .int x3] h = EvI (EvM d) C137 1 0 [.ref x0, .int x1, .int x2, .int x3] [] h := rfl
theorem k138_0 : Kc C138 0 = (.iload_n 2, 2, 0, 0, 0) := rfl
theorem k138_1 : Kc C138 1 = (.ifCond .lt 27, 28, 0, 0, 0) := rfl
theorem k138_4 : Kc C138 4 = (.iload_n 3, 3, 0, 0, 0) := rfl
theorem k138_5 : Kc C138 5 = (.ifCond .lt 23, 28, 0, 0, 0) := rfl
theorem k138_8 : Kc C138 8 = (.iload_n 2, 2, 0, 0, 0) := rfl
theorem k138_9 : Kc C138 9 = (.i2l, 0, 0, 0, 0) := rfl
theorem k138_10 : Kc C138 10 = (.iload_n 3, 3, 0, 0, 0) := rfl
theorem k138_11 : Kc C138 11 = (.i2l, 0, 0, 0, 0) := rfl
theorem k138_12 : Kc C138 12 = (.ladd, 0, 0, 0, 0) := rfl
theorem k138_13 : Kc C138 13 = (.aload_n 0, 0, 0, 0, 0) := rfl
theorem k138_14 : Kc C138 14 = (.getfield 23, 9, 8, 0, 0) := rfl
theorem k138_17 : Kc C138 17 = (.iload_n 1, 1, 0, 0, 0) := rfl
theorem k138_18 : Kc C138 18 = (.iaload, 0, 0, 0, 0) := rfl
theorem k138_19 : Kc C138 19 = (.i2l, 0, 0, 0, 0) := rfl
theorem k138_20 : Kc C138 20 = (.lcmp, 0, 0, 0, 0) := rfl
theorem k138_21 : Kc C138 21 = (.ifCond .gt 7, 28, 0, 0, 0) := rfl
theorem k138_24 : Kc C138 24 = (.iconst 1, 0, 0, 0, 1) := rfl
theorem k138_25 : Kc C138 25 = (.goto 4, 29, 0, 0, 0) := rfl
theorem k138_28 : Kc C138 28 = (.iconst 0, 0, 0, 0, 0) := rfl
theorem k138_29 : Kc C138 29 = (.ireturn, 0, 0, 0, 0) := rfl
theorem ev138 (d : Nat) (x0 : Nat) (x1 : Int32) (x2 : Int32) (x3 : Int32) (h : Hp) : EvM (d + 1) 138 [.ref x0, .int x1, .int x2, .int x3] h = EvI (EvM d) C138 2 0 [.ref x0, .int x1, .int x2, .int x3] [] h := rfl
theorem k139_0 : Kc C139 0 = (.iload_n 1, 1, 0, 0, 0) := rfl
theorem k139_1 : Kc C139 1 = (.invokestatic 49, 135, 1, 29, 0) := rfl
theorem k139_4 : Kc C139 4 = (.ifCond .eq 10, 14, 0, 0, 0) := rfl
theorem k139_7 : Kc C139 7 = (.iload_n 3, 3, 0, 0, 0) := rfl
theorem k139_8 : Kc C139 8 = (.invokestatic 49, 135, 1, 29, 0) := rfl
theorem k139_11 : Kc C139 11 = (.ifCond .ne 6, 17, 0, 0, 0) := rfl
theorem k139_14 : Kc C139 14 = (.ldc 55, 0, 0, 0, (-1000001)) := rfl
theorem k139_16 : Kc C139 16 = (.ireturn, 0, 0, 0, 0) := rfl
theorem k139_17 : Kc C139 17 = (.aload_n 0, 0, 0, 0, 0) := rfl
theorem k139_18 : Kc C139 18 = (.getfield 20, 9, 7, 0, 0) := rfl
theorem k139_21 : Kc C139 21 = (.iload_n 1, 1, 0, 0, 0) := rfl
theorem k139_22 : Kc C139 22 = (.iaload, 0, 0, 0, 0) := rfl
theorem k139_23 : Kc C139 23 = (.ldc 19, 0, 0, 0, (-1000000)) := rfl
theorem k139_25 : Kc C139 25 = (.if_icmp .eq 14, 39, 0, 0, 0) := rfl
theorem k139_28 : Kc C139 28 = (.aload_n 0, 0, 0, 0, 0) := rfl
theorem k139_29 : Kc C139 29 = (.getfield 20, 9, 7, 0, 0) := rfl
theorem k139_32 : Kc C139 32 = (.iload_n 3, 3, 0, 0, 0) := rfl
theorem k139_33 : Kc C139 33 = (.iaload, 0, 0, 0, 0) := rfl
theorem k139_34 : Kc C139 34 = (.ldc 19, 0, 0, 0, (-1000000)) := rfl
theorem k139_36 : Kc C139 36 = (.if_icmp .ne 9, 45, 0, 0, 0) := rfl
theorem k139_39 : Kc C139 39 = (.aload_n 0, 0, 0, 0, 0) := rfl
theorem k139_40 : Kc C139 40 = (.iconst 1, 0, 0, 0, 1) := rfl
theorem k139_41 : Kc C139 41 = (.invokevirtual 56, 133, 1, 28, 0) := rfl
theorem k139_44 : Kc C139 44 = (.ireturn, 0, 0, 0, 0) := rfl
theorem k139_45 : Kc C139 45 = (.aload_n 0, 0, 0, 0, 0) := rfl
theorem k139_46 : Kc C139 46 = (.getfield 20, 9, 7, 0, 0) := rfl
theorem k139_49 : Kc C139 49 = (.iload_n 1, 1, 0, 0, 0) := rfl
theorem k139_50 : Kc C139 50 = (.iaload, 0, 0, 0, 0) := rfl
theorem k139_51 : Kc C139 51 = (.aload_n 0, 0, 0, 0, 0) := rfl
theorem k139_52 : Kc C139 52 = (.getfield 20, 9, 7, 0, 0) := rfl
theorem k139_55 : Kc C139 55 = (.iload_n 3, 3, 0, 0, 0) := rfl
theorem k139_56 : Kc C139 56 = (.iaload, 0, 0, 0, 0) := rfl
theorem k139_57 : Kc C139 57 = (.if_icmp .eq 9, 66, 0, 0, 0) := rfl
theorem k139_60 : Kc C139 60 = (.aload_n 0, 0, 0, 0, 0) := rfl
theorem k139_61 : Kc C139 61 = (.iconst 5, 0, 0, 0, 5) := rfl
theorem k139_62 : Kc C139 62 = (.invokevirtual 56, 133, 1, 28, 0) := rfl
theorem k139_65 : Kc C139 65 = (.ireturn, 0, 0, 0, 0) := rfl
theorem k139_66 : Kc C139 66 = (.aload_n 0, 0, 0, 0, 0) := rfl
theorem k139_67 : Kc C139 67 = (.iload_n 1, 1, 0, 0, 0) := rfl
theorem k139_68 : Kc C139 68 = (.iload_n 2, 2, 0, 0, 0) := rfl
theorem k139_69 : Kc C139 69 = (.iload 5, 5, 0, 0, 0) := rfl
theorem k139_71 : Kc C139 71 = (.invokevirtual 63, 138, 3, 29, 0) := rfl
theorem k139_74 : Kc C139 74 = (.ifCond .eq 15, 89, 0, 0, 0) := rfl
theorem k139_77 : Kc C139 77 = (.aload_n 0, 0, 0, 0, 0) := rfl
theorem k139_78 : Kc C139 78 = (.iload_n 3, 3, 0, 0, 0) := rfl
theorem k139_79 : Kc C139 79 = (.iload 4, 4, 0, 0, 0) := rfl
theorem k139_81 : Kc C139 81 = (.iload 5, 5, 0, 0, 0) := rfl
theorem k139_83 : Kc C139 83 = (.invokevirtual 63, 138, 3, 29, 0) := rfl
theorem k139_86 : Kc C139 86 = (.ifCond .ne 9, 95, 0, 0, 0) := rfl
theorem k139_89 : Kc C139 89 = (.aload_n 0, 0, 0, 0, 0) := rfl
theorem k139_90 : Kc C139 90 = (.iconst 2, 0, 0, 0, 2) := rfl
theorem k139_91 : Kc C139 91 = (.invokevirtual 56, 133, 1, 28, 0) := rfl
theorem k139_94 : Kc C139 94 = (.ireturn, 0, 0, 0, 0) := rfl
theorem k139_95 : Kc C139 95 = (.iconst 0, 0, 0, 0, 0) := rfl
theorem k139_96 : Kc C139 96 = (.istore 6, 6, 0, 0, 0) := rfl
theorem k139_98 : Kc C139 98 = (.iload 6, 6, 0, 0, 0) := rfl
theorem k139_100 : Kc C139 100 = (.iload 5, 5, 0, 0, 0) := rfl
theorem k139_102 : Kc C139 102 = (.if_icmp .ge 63, 165, 0, 0, 0) := rfl
theorem k139_105 : Kc C139 105 = (.iload_n 1, 1, 0, 0, 0) := rfl
theorem k139_106 : Kc C139 106 = (.iload_n 3, 3, 0, 0, 0) := rfl
theorem k139_107 : Kc C139 107 = (.if_icmp .ne 19, 126, 0, 0, 0) := rfl
theorem k139_110 : Kc C139 110 = (.iload_n 2, 2, 0, 0, 0) := rfl
theorem k139_111 : Kc C139 111 = (.iload 4, 4, 0, 0, 0) := rfl
theorem k139_113 : Kc C139 113 = (.if_icmp .ge 13, 126, 0, 0, 0) := rfl
theorem k139_116 : Kc C139 116 = (.iload 5, 5, 0, 0, 0) := rfl
theorem k139_118 : Kc C139 118 = (.iconst 1, 0, 0, 0, 1) := rfl
theorem k139_119 : Kc C139 119 = (.isub, 0, 0, 0, 0) := rfl
theorem k139_120 : Kc C139 120 = (.iload 6, 6, 0, 0, 0) := rfl
theorem k139_122 : Kc C139 122 = (.isub, 0, 0, 0, 0) := rfl
theorem k139_123 : Kc C139 123 = (.goto 5, 128, 0, 0, 0) := rfl
theorem k139_126 : Kc C139 126 = (.iload 6, 6, 0, 0, 0) := rfl
theorem k139_128 : Kc C139 128 = (.istore 7, 7, 0, 0, 0) := rfl
theorem k139_130 : Kc C139 130 = (.aload_n 0, 0, 0, 0, 0) := rfl
theorem k139_131 : Kc C139 131 = (.getfield 26, 9, 9, 0, 0) := rfl
theorem k139_134 : Kc C139 134 = (.bipush 40, 0, 0, 0, 40) := rfl
theorem k139_136 : Kc C139 136 = (.iload_n 3, 3, 0, 0, 0) := rfl
theorem k139_137 : Kc C139 137 = (.imul, 0, 0, 0, 0) := rfl
theorem k139_138 : Kc C139 138 = (.iload 4, 4, 0, 0, 0) := rfl
theorem k139_140 : Kc C139 140 = (.iadd, 0, 0, 0, 0) := rfl
theorem k139_141 : Kc C139 141 = (.iload 7, 7, 0, 0, 0) := rfl
theorem k139_143 : Kc C139 143 = (.iadd, 0, 0, 0, 0) := rfl
theorem k139_144 : Kc C139 144 = (.aload_n 0, 0, 0, 0, 0) := rfl
theorem k139_145 : Kc C139 145 = (.getfield 26, 9, 9, 0, 0) := rfl
theorem k139_148 : Kc C139 148 = (.bipush 40, 0, 0, 0, 40) := rfl
theorem k139_150 : Kc C139 150 = (.iload_n 1, 1, 0, 0, 0) := rfl
theorem k139_151 : Kc C139 151 = (.imul, 0, 0, 0, 0) := rfl
theorem k139_152 : Kc C139 152 = (.iload_n 2, 2, 0, 0, 0) := rfl
theorem k139_153 : Kc C139 153 = (.iadd, 0, 0, 0, 0) := rfl
theorem k139_154 : Kc C139 154 = (.iload 7, 7, 0, 0, 0) := rfl
theorem k139_156 : Kc C139 156 = (.iadd, 0, 0, 0, 0) := rfl
theorem k139_157 : Kc C139 157 = (.iaload, 0, 0, 0, 0) := rfl
theorem k139_158 : Kc C139 158 = (.iastore, 0, 0, 0, 0) := rfl
theorem k139_159 : Kc C139 159 = (.iinc 6 1, 6, 0, 0, 1) := rfl
theorem k139_162 : Kc C139 162 = (.goto (-64), 98, 0, 0, 0) := rfl
theorem k139_165 : Kc C139 165 = (.aload_n 0, 0, 0, 0, 0) := rfl
theorem k139_166 : Kc C139 166 = (.iload 5, 5, 0, 0, 0) := rfl
theorem k139_168 : Kc C139 168 = (.invokevirtual 60, 134, 1, 28, 0) := rfl
theorem k139_171 : Kc C139 171 = (.ireturn, 0, 0, 0, 0) := rfl
theorem ev139 (d : Nat) (x0 : Nat) (x1 : Int32) (x2 : Int32) (x3 : Int32) (x4 : Int32) (x5 : Int32) (h : Hp) : EvM (d + 1) 139 [.ref x0, .int x1, .int x2, .int x3, .int x4, .int x5] h = EvI (EvM d) C139 1 0 [.ref x0, .int x1, .int x2, .int x3, .int x4, .int x5, jk, jk] [] h := rfl
theorem k140_0 : Kc C140 0 = (.iload_n 1, 1, 0, 0, 0) := rfl
theorem k140_1 : Kc C140 1 = (.invokestatic 49, 135, 1, 29, 0) := rfl
theorem k140_4 : Kc C140 4 = (.ifCond .ne 6, 10, 0, 0, 0) := rfl
theorem k140_7 : Kc C140 7 = (.ldc 55, 0, 0, 0, (-1000001)) := rfl
theorem k140_9 : Kc C140 9 = (.ireturn, 0, 0, 0, 0) := rfl
theorem k140_10 : Kc C140 10 = (.aload_n 0, 0, 0, 0, 0) := rfl
theorem k140_11 : Kc C140 11 = (.getfield 20, 9, 7, 0, 0) := rfl
theorem k140_14 : Kc C140 14 = (.iload_n 1, 1, 0, 0, 0) := rfl
theorem k140_15 : Kc C140 15 = (.iaload, 0, 0, 0, 0) := rfl
theorem k140_16 : Kc C140 16 = (.ldc 19, 0, 0, 0, (-1000000)) := rfl
theorem k140_18 : Kc C140 18 = (.if_icmp .ne 9, 27, 0, 0, 0) := rfl
theorem k140_21 : Kc C140 21 = (.aload_n 0, 0, 0, 0, 0) := rfl
theorem k140_22 : Kc C140 22 = (.iconst 1, 0, 0, 0, 1) := rfl
theorem k140_23 : Kc C140 23 = (.invokevirtual 56, 133, 1, 28, 0) := rfl
theorem k140_26 : Kc C140 26 = (.ireturn, 0, 0, 0, 0) := rfl
theorem k140_27 : Kc C140 27 = (.aload_n 0, 0, 0, 0, 0) := rfl
theorem k140_28 : Kc C140 28 = (.getfield 20, 9, 7, 0, 0) := rfl
theorem k140_31 : Kc C140 31 = (.iload_n 1, 1, 0, 0, 0) := rfl
theorem k140_32 : Kc C140 32 = (.ldc 19, 0, 0, 0, (-1000000)) := rfl
theorem k140_34 : Kc C140 34 = (.iastore, 0, 0, 0, 0) := rfl
theorem k140_35 : Kc C140 35 = (.aload_n 0, 0, 0, 0, 0) := rfl
theorem k140_36 : Kc C140 36 = (.aload_n 0, 0, 0, 0, 0) := rfl
theorem k140_37 : Kc C140 37 = (.getfield 23, 9, 8, 0, 0) := rfl
theorem k140_40 : Kc C140 40 = (.iload_n 1, 1, 0, 0, 0) := rfl
theorem k140_41 : Kc C140 41 = (.iaload, 0, 0, 0, 0) := rfl
theorem k140_42 : Kc C140 42 = (.invokevirtual 60, 134, 1, 28, 0) := rfl
theorem k140_45 : Kc C140 45 = (.ireturn, 0, 0, 0, 0) := rfl
theorem ev140 (d : Nat) (x0 : Nat) (x1 : Int32) (h : Hp) : EvM (d + 1) 140 [.ref x0, .int x1] h = EvI (EvM d) C140 1 0 [.ref x0, .int x1] [] h := rfl
theorem k141_0 : Kc C141 0 = (.iload_n 1, 1, 0, 0, 0) := rfl
theorem k141_1 : Kc C141 1 = (.i2l, 0, 0, 0, 0) := rfl
theorem k141_2 : Kc C141 2 = (.lconst 0, 0, 0, 0, 0) := rfl
theorem k141_3 : Kc C141 3 = (.ldc2_w 67, 0, 0, 0, 255) := rfl
theorem k141_6 : Kc C141 6 = (.invokestatic 45, 131, 3, 29, 0) := rfl
theorem k141_9 : Kc C141 9 = (.ifCond .ne 6, 15, 0, 0, 0) := rfl
theorem k141_12 : Kc C141 12 = (.ldc 55, 0, 0, 0, (-1000001)) := rfl
theorem k141_14 : Kc C141 14 = (.ireturn, 0, 0, 0, 0) := rfl
theorem k141_15 : Kc C141 15 = (.aload_n 0, 0, 0, 0, 0) := rfl
theorem k141_16 : Kc C141 16 = (.getfield 69, 9, 4, 0, 0) := rfl
theorem k141_19 : Kc C141 19 = (.bipush 120, 0, 0, 0, 120) := rfl
theorem k141_21 : Kc C141 21 = (.if_icmp .ne 6, 27, 0, 0, 0) := rfl
theorem k141_24 : Kc C141 24 = (.ldc 72, 0, 0, 0, (-1000003)) := rfl
theorem k141_26 : Kc C141 26 = (.ireturn, 0, 0, 0, 0) := rfl
theorem k141_27 : Kc C141 27 = (.aload_n 0, 0, 0, 0, 0) := rfl
theorem k141_28 : Kc C141 28 = (.getfield 16, 9, 3, 0, 0) := rfl
theorem k141_31 : Kc C141 31 = (.aload_n 0, 0, 0, 0, 0) := rfl
theorem k141_32 : Kc C141 32 = (.getfield 69, 9, 4, 0, 0) := rfl
theorem k141_35 : Kc C141 35 = (.iload_n 1, 1, 0, 0, 0) := rfl
theorem k141_36 : Kc C141 36 = (.iastore, 0, 0, 0, 0) := rfl
theorem k141_37 : Kc C141 37 = (.aload_n 0, 0, 0, 0, 0) := rfl
theorem k141_38 : Kc C141 38 = (.dup, 0, 0, 0, 0) := rfl
theorem k141_39 : Kc C141 39 = (.getfield 69, 9, 4, 0, 0) := rfl
theorem k141_42 : Kc C141 42 = (.iconst 1, 0, 0, 0, 1) := rfl
theorem k141_43 : Kc C141 43 = (.iadd, 0, 0, 0, 0) := rfl
theorem k141_44 : Kc C141 44 = (.putfield 69, 9, 4, 0, 0) := rfl
theorem k141_47 : Kc C141 47 = (.aload_n 0, 0, 0, 0, 0) := rfl
theorem k141_48 : Kc C141 48 = (.getfield 69, 9, 4, 0, 0) := rfl
theorem k141_51 : Kc C141 51 = (.ireturn, 0, 0, 0, 0) := rfl
theorem ev141 (d : Nat) (x0 : Nat) (x1 : Int32) (h : Hp) : EvM (d + 1) 141 [.ref x0, .int x1] h = EvI (EvM d) C141 1 0 [.ref x0, .int x1] [] h := rfl
theorem k142_0 : Kc C142 0 = (.iload_n 0, 0, 0, 0, 0) := rfl
theorem k142_1 : Kc C142 1 = (.bipush 48, 0, 0, 0, 48) := rfl
theorem k142_3 : Kc C142 3 = (.if_icmp .lt 13, 16, 0, 0, 0) := rfl
theorem k142_6 : Kc C142 6 = (.iload_n 0, 0, 0, 0, 0) := rfl
theorem k142_7 : Kc C142 7 = (.bipush 57, 0, 0, 0, 57) := rfl
theorem k142_9 : Kc C142 9 = (.if_icmp .gt 7, 16, 0, 0, 0) := rfl
theorem k142_12 : Kc C142 12 = (.iconst 1, 0, 0, 0, 1) := rfl
theorem k142_13 : Kc C142 13 = (.goto 4, 17, 0, 0, 0) := rfl
theorem k142_16 : Kc C142 16 = (.iconst 0, 0, 0, 0, 0) := rfl
theorem k142_17 : Kc C142 17 = (.ireturn, 0, 0, 0, 0) := rfl
theorem ev142 (d : Nat) (x0 : Int32) (h : Hp) : EvM (d + 1) 142 [.int x0] h = EvI (EvM d) C142 2 0 [.int x0] [] h := rfl
theorem k143_0 : Kc C143 0 = (.aload_n 0, 0, 0, 0, 0) := rfl
theorem k143_1 : Kc C143 1 = (.getfield 73, 9, 12, 0, 0) := rfl
theorem k143_4 : Kc C143 4 = (.istore_n 3, 3, 0, 0, 0) := rfl
theorem k143_5 : Kc C143 5 = (.iload_n 3, 3, 0, 0, 0) := rfl
theorem k143_6 : Kc C143 6 = (.aload_n 0, 0, 0, 0, 0) := rfl
theorem k143_7 : Kc C143 7 = (.getfield 69, 9, 4, 0, 0) := rfl
theorem k143_10 : Kc C143 10 = (.if_icmp .ge 21, 31, 0, 0, 0) := rfl
theorem k143_13 : Kc C143 13 = (.aload_n 0, 0, 0, 0, 0) := rfl
theorem k143_14 : Kc C143 14 = (.getfield 16, 9, 3, 0, 0) := rfl
theorem k143_17 : Kc C143 17 = (.iload_n 3, 3, 0, 0, 0) := rfl
theorem k143_18 : Kc C143 18 = (.iaload, 0, 0, 0, 0) := rfl
theorem k143_19 : Kc C143 19 = (.invokestatic 76, 142, 1, 29, 0) := rfl
theorem k143_22 : Kc C143 22 = (.ifCond .eq 9, 31, 0, 0, 0) := rfl
theorem k143_25 : Kc C143 25 = (.iinc 3 1, 3, 0, 0, 1) := rfl
theorem k143_28 : Kc C143 28 = (.goto (-23), 5, 0, 0, 0) := rfl
theorem k143_31 : Kc C143 31 = (.iload_n 3, 3, 0, 0, 0) := rfl
theorem k143_32 : Kc C143 32 = (.aload_n 0, 0, 0, 0, 0) := rfl
theorem k143_33 : Kc C143 33 = (.getfield 73, 9, 12, 0, 0) := rfl
theorem k143_36 : Kc C143 36 = (.if_icmp .eq 13, 49, 0, 0, 0) := rfl
theorem k143_39 : Kc C143 39 = (.iload_n 3, 3, 0, 0, 0) := rfl
theorem k143_40 : Kc C143 40 = (.aload_n 0, 0, 0, 0, 0) := rfl
theorem k143_41 : Kc C143 41 = (.getfield 73, 9, 12, 0, 0) := rfl
theorem k143_44 : Kc C143 44 = (.isub, 0, 0, 0, 0) := rfl
theorem k143_45 : Kc C143 45 = (.iconst 2, 0, 0, 0, 2) := rfl
theorem k143_46 : Kc C143 46 = (.if_icmp .le 11, 57, 0, 0, 0) := rfl
theorem k143_49 : Kc C143 49 = (.aload_n 0, 0, 0, 0, 0) := rfl
theorem k143_50 : Kc C143 50 = (.iconst 1, 0, 0, 0, 1) := rfl
theorem k143_51 : Kc C143 51 = (.putfield 79, 9, 5, 0, 0) := rfl
theorem k143_54 : Kc C143 54 = (.ldc 19, 0, 0, 0, (-1000000)) := rfl
theorem k143_56 : Kc C143 56 = (.ireturn, 0, 0, 0, 0) := rfl
theorem k143_57 : Kc C143 57 = (.iconst 0, 0, 0, 0, 0) := rfl
theorem k143_58 : Kc C143 58 = (.istore 4, 4, 0, 0, 0) := rfl
theorem k143_60 : Kc C143 60 = (.aload_n 0, 0, 0, 0, 0) := rfl
theorem k143_61 : Kc C143 61 = (.getfield 73, 9, 12, 0, 0) := rfl
theorem k143_64 : Kc C143 64 = (.istore 5, 5, 0, 0, 0) := rfl
theorem k143_66 : Kc C143 66 = (.iload 5, 5, 0, 0, 0) := rfl
theorem k143_68 : Kc C143 68 = (.iload_n 3, 3, 0, 0, 0) := rfl
theorem k143_69 : Kc C143 69 = (.if_icmp .ge 27, 96, 0, 0, 0) := rfl
theorem k143_72 : Kc C143 72 = (.bipush 10, 0, 0, 0, 10) := rfl
theorem k143_74 : Kc C143 74 = (.iload 4, 4, 0, 0, 0) := rfl
theorem k143_76 : Kc C143 76 = (.imul, 0, 0, 0, 0) := rfl
theorem k143_77 : Kc C143 77 = (.aload_n 0, 0, 0, 0, 0) := rfl
theorem k143_78 : Kc C143 78 = (.getfield 16, 9, 3, 0, 0) := rfl
theorem k143_81 : Kc C143 81 = (.iload 5, 5, 0, 0, 0) := rfl
theorem k143_83 : Kc C143 83 = (.iaload, 0, 0, 0, 0) := rfl
theorem k143_84 : Kc C143 84 = (.iadd, 0, 0, 0, 0) := rfl
theorem k143_85 : Kc C143 85 = (.bipush 48, 0, 0, 0, 48) := rfl
theorem k143_87 : Kc C143 87 = (.isub, 0, 0, 0, 0) := rfl
theorem k143_88 : Kc C143 88 = (.istore 4, 4, 0, 0, 0) := rfl
theorem k143_90 : Kc C143 90 = (.iinc 5 1, 5, 0, 0, 1) := rfl
theorem k143_93 : Kc C143 93 = (.goto (-27), 66, 0, 0, 0) := rfl
theorem k143_96 : Kc C143 96 = (.iload 4, 4, 0, 0, 0) := rfl
theorem k143_98 : Kc C143 98 = (.i2l, 0, 0, 0, 0) := rfl
theorem k143_99 : Kc C143 99 = (.iload_n 1, 1, 0, 0, 0) := rfl
theorem k143_100 : Kc C143 100 = (.i2l, 0, 0, 0, 0) := rfl
theorem k143_101 : Kc C143 101 = (.iload_n 2, 2, 0, 0, 0) := rfl
theorem k143_102 : Kc C143 102 = (.i2l, 0, 0, 0, 0) := rfl
theorem k143_103 : Kc C143 103 = (.invokestatic 45, 131, 3, 29, 0) := rfl
theorem k143_106 : Kc C143 106 = (.ifCond .ne 11, 117, 0, 0, 0) := rfl
theorem k143_109 : Kc C143 109 = (.aload_n 0, 0, 0, 0, 0) := rfl
theorem k143_110 : Kc C143 110 = (.iconst 2, 0, 0, 0, 2) := rfl
theorem k143_111 : Kc C143 111 = (.putfield 79, 9, 5, 0, 0) := rfl
theorem k143_114 : Kc C143 114 = (.ldc 19, 0, 0, 0, (-1000000)) := rfl
theorem k143_116 : Kc C143 116 = (.ireturn, 0, 0, 0, 0) := rfl
theorem k143_117 : Kc C143 117 = (.aload_n 0, 0, 0, 0, 0) := rfl
theorem k143_118 : Kc C143 118 = (.iload_n 3, 3, 0, 0, 0) := rfl
theorem k143_119 : Kc C143 119 = (.putfield 73, 9, 12, 0, 0) := rfl
theorem k143_122 : Kc C143 122 = (.iload 4, 4, 0, 0, 0) := rfl
theorem k143_124 : Kc C143 124 = (.ireturn, 0, 0, 0, 0) := rfl
theorem ev143 (d : Nat) (x0 : Nat) (x1 : Int32) (x2 : Int32) (h : Hp) : EvM (d + 1) 143 [.ref x0, .int x1, .int x2] h = EvI (EvM d) C143 1 0 [.ref x0, .int x1, .int x2, jk, jk, jk] [] h := rfl
theorem k144_0 : Kc C144 0 = (.aload_n 0, 0, 0, 0, 0) := rfl
theorem k144_1 : Kc C144 1 = (.getfield 73, 9, 12, 0, 0) := rfl
theorem k144_4 : Kc C144 4 = (.aload_n 0, 0, 0, 0, 0) := rfl
theorem k144_5 : Kc C144 5 = (.getfield 69, 9, 4, 0, 0) := rfl
theorem k144_8 : Kc C144 8 = (.if_icmp .eq 16, 24, 0, 0, 0) := rfl
theorem k144_11 : Kc C144 11 = (.aload_n 0, 0, 0, 0, 0) := rfl
theorem k144_12 : Kc C144 12 = (.getfield 16, 9, 3, 0, 0) := rfl
theorem k144_15 : Kc C144 15 = (.aload_n 0, 0, 0, 0, 0) := rfl
theorem k144_16 : Kc C144 16 = (.getfield 73, 9, 12, 0, 0) := rfl
theorem k144_19 : Kc C144 19 = (.iaload, 0, 0, 0, 0) := rfl
theorem k144_20 : Kc C144 20 = (.iload_n 1, 1, 0, 0, 0) := rfl
theorem k144_21 : Kc C144 21 = (.if_icmp .eq 10, 31, 0, 0, 0) := rfl
theorem k144_24 : Kc C144 24 = (.aload_n 0, 0, 0, 0, 0) := rfl
theorem k144_25 : Kc C144 25 = (.iconst 1, 0, 0, 0, 1) := rfl
theorem k144_26 : Kc C144 26 = (.putfield 79, 9, 5, 0, 0) := rfl
theorem k144_29 : Kc C144 29 = (.iconst 0, 0, 0, 0, 0) := rfl
theorem k144_30 : Kc C144 30 = (.ireturn, 0, 0, 0, 0) := rfl
theorem k144_31 : Kc C144 31 = (.aload_n 0, 0, 0, 0, 0) := rfl
theorem k144_32 : Kc C144 32 = (.dup, 0, 0, 0, 0) := rfl
theorem k144_33 : Kc C144 33 = (.getfield 73, 9, 12, 0, 0) := rfl
theorem k144_36 : Kc C144 36 = (.iconst 1, 0, 0, 0, 1) := rfl
theorem k144_37 : Kc C144 37 = (.iadd, 0, 0, 0, 0) := rfl
theorem k144_38 : Kc C144 38 = (.putfield 73, 9, 12, 0, 0) := rfl
theorem k144_41 : Kc C144 41 = (.iconst 1, 0, 0, 0, 1) := rfl
theorem k144_42 : Kc C144 42 = (.ireturn, 0, 0, 0, 0) := rfl
theorem ev144 (d : Nat) (x0 : Nat) (x1 : Int32) (h : Hp) : EvM (d + 1) 144 [.ref x0, .int x1] h = EvI (EvM d) C144 2 0 [.ref x0, .int x1] [] h := rfl
theorem k145_0 : Kc C145 0 = (.aload_n 0, 0, 0, 0, 0) := rfl
theorem k145_1 : Kc C145 1 = (.getfield 16, 9, 3, 0, 0) := rfl
theorem k145_4 : Kc C145 4 = (.aload_n 0, 0, 0, 0, 0) := rfl
theorem k145_5 : Kc C145 5 = (.getfield 73, 9, 12, 0, 0) := rfl
theorem k145_8 : Kc C145 8 = (.iaload, 0, 0, 0, 0) := rfl
theorem k145_9 : Kc C145 9 = (.istore_n 1, 1, 0, 0, 0) := rfl
theorem k145_10 : Kc C145 10 = (.iload_n 1, 1, 0, 0, 0) := rfl
theorem k145_11 : Kc C145 11 = (.bipush 99, 0, 0, 0, 99) := rfl
theorem k145_13 : Kc C145 13 = (.if_icmp .ne 7, 20, 0, 0, 0) := rfl
theorem k145_16 : Kc C145 16 = (.iconst 1, 0, 0, 0, 1) := rfl
theorem k145_17 : Kc C145 17 = (.goto 45, 62, 0, 0, 0) := rfl
theorem k145_20 : Kc C145 20 = (.iload_n 1, 1, 0, 0, 0) := rfl
theorem k145_21 : Kc C145 21 = (.bipush 115, 0, 0, 0, 115) := rfl
theorem k145_23 : Kc C145 23 = (.if_icmp .ne 7, 30, 0, 0, 0) := rfl
theorem k145_26 : Kc C145 26 = (.iconst 2, 0, 0, 0, 2) := rfl
theorem k145_27 : Kc C145 27 = (.goto 35, 62, 0, 0, 0) := rfl
theorem k145_30 : Kc C145 30 = (.iload_n 1, 1, 0, 0, 0) := rfl
theorem k145_31 : Kc C145 31 = (.bipush 104, 0, 0, 0, 104) := rfl
theorem k145_33 : Kc C145 33 = (.if_icmp .ne 7, 40, 0, 0, 0) := rfl
theorem k145_36 : Kc C145 36 = (.iconst 3, 0, 0, 0, 3) := rfl
theorem k145_37 : Kc C145 37 = (.goto 25, 62, 0, 0, 0) := rfl
theorem k145_40 : Kc C145 40 = (.iload_n 1, 1, 0, 0, 0) := rfl
theorem k145_41 : Kc C145 41 = (.bipush 116, 0, 0, 0, 116) := rfl
theorem k145_43 : Kc C145 43 = (.if_icmp .ne 7, 50, 0, 0, 0) := rfl
theorem k145_46 : Kc C145 46 = (.iconst 4, 0, 0, 0, 4) := rfl
theorem k145_47 : Kc C145 47 = (.goto 15, 62, 0, 0, 0) := rfl
theorem k145_50 : Kc C145 50 = (.iload_n 1, 1, 0, 0, 0) := rfl
theorem k145_51 : Kc C145 51 = (.bipush 112, 0, 0, 0, 112) := rfl
theorem k145_53 : Kc C145 53 = (.if_icmp .ne 7, 60, 0, 0, 0) := rfl
theorem k145_56 : Kc C145 56 = (.iconst 5, 0, 0, 0, 5) := rfl
theorem k145_57 : Kc C145 57 = (.goto 5, 62, 0, 0, 0) := rfl
theorem k145_60 : Kc C145 60 = (.ldc 19, 0, 0, 0, (-1000000)) := rfl
theorem k145_62 : Kc C145 62 = (.ireturn, 0, 0, 0, 0) := rfl
theorem ev145 (d : Nat) (x0 : Nat) (h : Hp) : EvM (d + 1) 145 [.ref x0] h = EvI (EvM d) C145 1 0 [.ref x0, jk] [] h := rfl
theorem k146_0 : Kc C146 0 = (.aload_n 0, 0, 0, 0, 0) := rfl
theorem k146_1 : Kc C146 1 = (.bipush 121, 0, 0, 0, 121) := rfl
theorem k146_3 : Kc C146 3 = (.invokevirtual 82, 144, 1, 29, 0) := rfl
theorem k146_6 : Kc C146 6 = (.ifCond .ne 5, 11, 0, 0, 0) := rfl
theorem k146_9 : Kc C146 9 = (.iconst 0, 0, 0, 0, 0) := rfl
theorem k146_10 : Kc C146 10 = (.ireturn, 0, 0, 0, 0) := rfl
theorem k146_11 : Kc C146 11 = (.aload_n 0, 0, 0, 0, 0) := rfl
theorem k146_12 : Kc C146 12 = (.aload_n 0, 0, 0, 0, 0) := rfl
theorem k146_13 : Kc C146 13 = (.iconst 1, 0, 0, 0, 1) := rfl
theorem k146_14 : Kc C146 14 = (.bipush 24, 0, 0, 0, 24) := rfl
theorem k146_16 : Kc C146 16 = (.invokevirtual 85, 143, 2, 28, 0) := rfl
theorem k146_19 : Kc C146 19 = (.putfield 89, 9, 13, 0, 0) := rfl
theorem k146_22 : Kc C146 22 = (.aload_n 0, 0, 0, 0, 0) := rfl
theorem k146_23 : Kc C146 23 = (.getfield 89, 9, 13, 0, 0) := rfl
theorem k146_26 : Kc C146 26 = (.ldc 19, 0, 0, 0, (-1000000)) := rfl
theorem k146_28 : Kc C146 28 = (.if_icmp .eq 12, 40, 0, 0, 0) := rfl
theorem k146_31 : Kc C146 31 = (.aload_n 0, 0, 0, 0, 0) := rfl
theorem k146_32 : Kc C146 32 = (.bipush 44, 0, 0, 0, 44) := rfl
theorem k146_34 : Kc C146 34 = (.invokevirtual 82, 144, 1, 29, 0) := rfl
theorem k146_37 : Kc C146 37 = (.ifCond .ne 5, 42, 0, 0, 0) := rfl
theorem k146_40 : Kc C146 40 = (.iconst 0, 0, 0, 0, 0) := rfl
theorem k146_41 : Kc C146 41 = (.ireturn, 0, 0, 0, 0) := rfl
theorem k146_42 : Kc C146 42 = (.aload_n 0, 0, 0, 0, 0) := rfl
theorem k146_43 : Kc C146 43 = (.aload_n 0, 0, 0, 0, 0) := rfl
theorem k146_44 : Kc C146 44 = (.iconst 1, 0, 0, 0, 1) := rfl
theorem k146_45 : Kc C146 45 = (.bipush 30, 0, 0, 0, 30) := rfl
theorem k146_47 : Kc C146 47 = (.invokevirtual 85, 143, 2, 28, 0) := rfl
theorem k146_50 : Kc C146 50 = (.putfield 92, 9, 14, 0, 0) := rfl
theorem k146_53 : Kc C146 53 = (.aload_n 0, 0, 0, 0, 0) := rfl
theorem k146_54 : Kc C146 54 = (.getfield 92, 9, 14, 0, 0) := rfl
theorem k146_57 : Kc C146 57 = (.ldc 19, 0, 0, 0, (-1000000)) := rfl
theorem k146_59 : Kc C146 59 = (.if_icmp .eq 16, 75, 0, 0, 0) := rfl
theorem k146_62 : Kc C146 62 = (.aload_n 0, 0, 0, 0, 0) := rfl
theorem k146_63 : Kc C146 63 = (.bipush 59, 0, 0, 0, 59) := rfl
theorem k146_65 : Kc C146 65 = (.invokevirtual 82, 144, 1, 29, 0) := rfl
theorem k146_68 : Kc C146 68 = (.ifCond .eq 7, 75, 0, 0, 0) := rfl
theorem k146_71 : Kc C146 71 = (.iconst 1, 0, 0, 0, 1) := rfl
theorem k146_72 : Kc C146 72 = (.goto 4, 76, 0, 0, 0) := rfl
theorem k146_75 : Kc C146 75 = (.iconst 0, 0, 0, 0, 0) := rfl
theorem k146_76 : Kc C146 76 = (.ireturn, 0, 0, 0, 0) := rfl
theorem ev146 (d : Nat) (x0 : Nat) (h : Hp) : EvM (d + 1) 146 [.ref x0] h = EvI (EvM d) C146 2 0 [.ref x0] [] h := rfl
theorem k147_0 : Kc C147 0 = (.aload_n 0, 0, 0, 0, 0) := rfl
theorem k147_1 : Kc C147 1 = (.invokevirtual 95, 145, 0, 28, 0) := rfl
theorem k147_4 : Kc C147 4 = (.istore_n 1, 1, 0, 0, 0) := rfl
theorem k147_5 : Kc C147 5 = (.iload_n 1, 1, 0, 0, 0) := rfl
theorem k147_6 : Kc C147 6 = (.ldc 19, 0, 0, 0, (-1000000)) := rfl
theorem k147_8 : Kc C147 8 = (.if_icmp .eq 12, 20, 0, 0, 0) := rfl
theorem k147_11 : Kc C147 11 = (.aload_n 0, 0, 0, 0, 0) := rfl
theorem k147_12 : Kc C147 12 = (.getfield 99, 9, 16, 0, 0) := rfl
theorem k147_15 : Kc C147 15 = (.bipush 6, 0, 0, 0, 6) := rfl
theorem k147_17 : Kc C147 17 = (.if_icmp .ne 20, 37, 0, 0, 0) := rfl
theorem k147_20 : Kc C147 20 = (.aload_n 0, 0, 0, 0, 0) := rfl
theorem k147_21 : Kc C147 21 = (.iload_n 1, 1, 0, 0, 0) := rfl
theorem k147_22 : Kc C147 22 = (.ldc 19, 0, 0, 0, (-1000000)) := rfl
theorem k147_24 : Kc C147 24 = (.if_icmp .ne 7, 31, 0, 0, 0) := rfl
theorem k147_27 : Kc C147 27 = (.iconst 1, 0, 0, 0, 1) := rfl
theorem k147_28 : Kc C147 28 = (.goto 4, 32, 0, 0, 0) := rfl
theorem k147_31 : Kc C147 31 = (.iconst 3, 0, 0, 0, 3) := rfl
theorem k147_32 : Kc C147 32 = (.putfield 79, 9, 5, 0, 0) := rfl
theorem k147_35 : Kc C147 35 = (.iconst 0, 0, 0, 0, 0) := rfl
theorem k147_36 : Kc C147 36 = (.ireturn, 0, 0, 0, 0) := rfl
theorem k147_37 : Kc C147 37 = (.aload_n 0, 0, 0, 0, 0) := rfl
theorem k147_38 : Kc C147 38 = (.dup, 0, 0, 0, 0) := rfl
theorem k147_39 : Kc C147 39 = (.getfield 73, 9, 12, 0, 0) := rfl
theorem k147_42 : Kc C147 42 = (.iconst 1, 0, 0, 0, 1) := rfl
theorem k147_43 : Kc C147 43 = (.iadd, 0, 0, 0, 0) := rfl
theorem k147_44 : Kc C147 44 = (.putfield 73, 9, 12, 0, 0) := rfl
theorem k147_47 : Kc C147 47 = (.aload_n 0, 0, 0, 0, 0) := rfl
theorem k147_48 : Kc C147 48 = (.iconst 0, 0, 0, 0, 0) := rfl
theorem k147_49 : Kc C147 49 = (.bipush 9, 0, 0, 0, 9) := rfl
theorem k147_51 : Kc C147 51 = (.invokevirtual 85, 143, 2, 28, 0) := rfl
theorem k147_54 : Kc C147 54 = (.istore_n 2, 2, 0, 0, 0) := rfl
theorem k147_55 : Kc C147 55 = (.iload_n 2, 2, 0, 0, 0) := rfl
theorem k147_56 : Kc C147 56 = (.ldc 19, 0, 0, 0, (-1000000)) := rfl
theorem k147_58 : Kc C147 58 = (.if_icmp .eq 12, 70, 0, 0, 0) := rfl
theorem k147_61 : Kc C147 61 = (.aload_n 0, 0, 0, 0, 0) := rfl
theorem k147_62 : Kc C147 62 = (.bipush 44, 0, 0, 0, 44) := rfl
theorem k147_64 : Kc C147 64 = (.invokevirtual 82, 144, 1, 29, 0) := rfl
theorem k147_67 : Kc C147 67 = (.ifCond .ne 5, 72, 0, 0, 0) := rfl
theorem k147_70 : Kc C147 70 = (.iconst 0, 0, 0, 0, 0) := rfl
theorem k147_71 : Kc C147 71 = (.ireturn, 0, 0, 0, 0) := rfl
theorem k147_72 : Kc C147 72 = (.aload_n 0, 0, 0, 0, 0) := rfl
theorem k147_73 : Kc C147 73 = (.iconst 0, 0, 0, 0, 0) := rfl
theorem k147_74 : Kc C147 74 = (.bipush 99, 0, 0, 0, 99) := rfl
theorem k147_76 : Kc C147 76 = (.invokevirtual 85, 143, 2, 28, 0) := rfl
theorem k147_79 : Kc C147 79 = (.istore_n 3, 3, 0, 0, 0) := rfl
theorem k147_80 : Kc C147 80 = (.iload_n 3, 3, 0, 0, 0) := rfl
theorem k147_81 : Kc C147 81 = (.ldc 19, 0, 0, 0, (-1000000)) := rfl
theorem k147_83 : Kc C147 83 = (.if_icmp .eq 12, 95, 0, 0, 0) := rfl
theorem k147_86 : Kc C147 86 = (.aload_n 0, 0, 0, 0, 0) := rfl
theorem k147_87 : Kc C147 87 = (.bipush 44, 0, 0, 0, 44) := rfl
theorem k147_89 : Kc C147 89 = (.invokevirtual 82, 144, 1, 29, 0) := rfl
theorem k147_92 : Kc C147 92 = (.ifCond .ne 5, 97, 0, 0, 0) := rfl
theorem k147_95 : Kc C147 95 = (.iconst 0, 0, 0, 0, 0) := rfl
theorem k147_96 : Kc C147 96 = (.ireturn, 0, 0, 0, 0) := rfl
theorem k147_97 : Kc C147 97 = (.aload_n 0, 0, 0, 0, 0) := rfl
theorem k147_98 : Kc C147 98 = (.iconst 0, 0, 0, 0, 0) := rfl
theorem k147_99 : Kc C147 99 = (.bipush 99, 0, 0, 0, 99) := rfl
theorem k147_101 : Kc C147 101 = (.invokevirtual 85, 143, 2, 28, 0) := rfl
theorem k147_104 : Kc C147 104 = (.istore 4, 4, 0, 0, 0) := rfl
theorem k147_106 : Kc C147 106 = (.iload 4, 4, 0, 0, 0) := rfl
theorem k147_108 : Kc C147 108 = (.ldc 19, 0, 0, 0, (-1000000)) := rfl
theorem k147_110 : Kc C147 110 = (.if_icmp .ne 5, 115, 0, 0, 0) := rfl
theorem k147_113 : Kc C147 113 = (.iconst 0, 0, 0, 0, 0) := rfl
theorem k147_114 : Kc C147 114 = (.ireturn, 0, 0, 0, 0) := rfl
theorem k147_115 : Kc C147 115 = (.aload_n 0, 0, 0, 0, 0) := rfl
theorem k147_116 : Kc C147 116 = (.getfield 32, 9, 15, 0, 0) := rfl
theorem k147_119 : Kc C147 119 = (.iconst 4, 0, 0, 0, 4) := rfl
theorem k147_120 : Kc C147 120 = (.aload_n 0, 0, 0, 0, 0) := rfl
theorem k147_121 : Kc C147 121 = (.getfield 99, 9, 16, 0, 0) := rfl
theorem k147_124 : Kc C147 124 = (.imul, 0, 0, 0, 0) := rfl
theorem k147_125 : Kc C147 125 = (.iload_n 1, 1, 0, 0, 0) := rfl
theorem k147_126 : Kc C147 126 = (.iastore, 0, 0, 0, 0) := rfl
theorem k147_127 : Kc C147 127 = (.aload_n 0, 0, 0, 0, 0) := rfl
theorem k147_128 : Kc C147 128 = (.getfield 32, 9, 15, 0, 0) := rfl
theorem k147_131 : Kc C147 131 = (.iconst 4, 0, 0, 0, 4) := rfl
theorem k147_132 : Kc C147 132 = (.aload_n 0, 0, 0, 0, 0) := rfl
theorem k147_133 : Kc C147 133 = (.getfield 99, 9, 16, 0, 0) := rfl
theorem k147_136 : Kc C147 136 = (.imul, 0, 0, 0, 0) := rfl
theorem k147_137 : Kc C147 137 = (.iconst 1, 0, 0, 0, 1) := rfl
theorem k147_138 : Kc C147 138 = (.iadd, 0, 0, 0, 0) := rfl
theorem k147_139 : Kc C147 139 = (.iload_n 2, 2, 0, 0, 0) := rfl
theorem k147_140 : Kc C147 140 = (.iastore, 0, 0, 0, 0) := rfl
theorem k147_141 : Kc C147 141 = (.aload_n 0, 0, 0, 0, 0) := rfl
theorem k147_142 : Kc C147 142 = (.getfield 32, 9, 15, 0, 0) := rfl
theorem k147_145 : Kc C147 145 = (.iconst 4, 0, 0, 0, 4) := rfl
theorem k147_146 : Kc C147 146 = (.aload_n 0, 0, 0, 0, 0) := rfl
theorem k147_147 : Kc C147 147 = (.getfield 99, 9, 16, 0, 0) := rfl
theorem k147_150 : Kc C147 150 = (.imul, 0, 0, 0, 0) := rfl
theorem k147_151 : Kc C147 151 = (.iconst 2, 0, 0, 0, 2) := rfl
theorem k147_152 : Kc C147 152 = (.iadd, 0, 0, 0, 0) := rfl
theorem k147_153 : Kc C147 153 = (.iload_n 3, 3, 0, 0, 0) := rfl
theorem k147_154 : Kc C147 154 = (.iastore, 0, 0, 0, 0) := rfl
theorem k147_155 : Kc C147 155 = (.aload_n 0, 0, 0, 0, 0) := rfl
theorem k147_156 : Kc C147 156 = (.getfield 32, 9, 15, 0, 0) := rfl
theorem k147_159 : Kc C147 159 = (.iconst 4, 0, 0, 0, 4) := rfl
theorem k147_160 : Kc C147 160 = (.aload_n 0, 0, 0, 0, 0) := rfl
theorem k147_161 : Kc C147 161 = (.getfield 99, 9, 16, 0, 0) := rfl
theorem k147_164 : Kc C147 164 = (.imul, 0, 0, 0, 0) := rfl
theorem k147_165 : Kc C147 165 = (.iconst 3, 0, 0, 0, 3) := rfl
theorem k147_166 : Kc C147 166 = (.iadd, 0, 0, 0, 0) := rfl
theorem k147_167 : Kc C147 167 = (.iload 4, 4, 0, 0, 0) := rfl
theorem k147_169 : Kc C147 169 = (.iastore, 0, 0, 0, 0) := rfl
theorem k147_170 : Kc C147 170 = (.aload_n 0, 0, 0, 0, 0) := rfl
theorem k147_171 : Kc C147 171 = (.dup, 0, 0, 0, 0) := rfl
theorem k147_172 : Kc C147 172 = (.getfield 99, 9, 16, 0, 0) := rfl
theorem k147_175 : Kc C147 175 = (.iconst 1, 0, 0, 0, 1) := rfl
theorem k147_176 : Kc C147 176 = (.iadd, 0, 0, 0, 0) := rfl
theorem k147_177 : Kc C147 177 = (.putfield 99, 9, 16, 0, 0) := rfl
theorem k147_180 : Kc C147 180 = (.aload_n 0, 0, 0, 0, 0) := rfl
theorem k147_181 : Kc C147 181 = (.bipush 59, 0, 0, 0, 59) := rfl
theorem k147_183 : Kc C147 183 = (.invokevirtual 82, 144, 1, 29, 0) := rfl
theorem k147_186 : Kc C147 186 = (.ireturn, 0, 0, 0, 0) := rfl
theorem ev147 (d : Nat) (x0 : Nat) (h : Hp) : EvM (d + 1) 147 [.ref x0] h = EvI (EvM d) C147 2 0 [.ref x0, jk, jk, jk, jk] [] h := rfl
theorem k148_0 : Kc C148 0 = (.aload_n 0, 0, 0, 0, 0) := rfl
theorem k148_1 : Kc C148 1 = (.iconst 0, 0, 0, 0, 0) := rfl
theorem k148_2 : Kc C148 2 = (.putfield 73, 9, 12, 0, 0) := rfl
theorem k148_5 : Kc C148 5 = (.aload_n 0, 0, 0, 0, 0) := rfl
theorem k148_6 : Kc C148 6 = (.iconst 0, 0, 0, 0, 0) := rfl
theorem k148_7 : Kc C148 7 = (.putfield 99, 9, 16, 0, 0) := rfl
theorem k148_10 : Kc C148 10 = (.aload_n 0, 0, 0, 0, 0) := rfl
theorem k148_11 : Kc C148 11 = (.invokevirtual 102, 146, 0, 29, 0) := rfl
theorem k148_14 : Kc C148 14 = (.istore_n 1, 1, 0, 0, 0) := rfl
theorem k148_15 : Kc C148 15 = (.iload_n 1, 1, 0, 0, 0) := rfl
theorem k148_16 : Kc C148 16 = (.ifCond .eq 22, 38, 0, 0, 0) := rfl
theorem k148_19 : Kc C148 19 = (.aload_n 0, 0, 0, 0, 0) := rfl
theorem k148_20 : Kc C148 20 = (.getfield 73, 9, 12, 0, 0) := rfl
theorem k148_23 : Kc C148 23 = (.aload_n 0, 0, 0, 0, 0) := rfl
theorem k148_24 : Kc C148 24 = (.getfield 69, 9, 4, 0, 0) := rfl
theorem k148_27 : Kc C148 27 = (.if_icmp .ge 11, 38, 0, 0, 0) := rfl
theorem k148_30 : Kc C148 30 = (.aload_n 0, 0, 0, 0, 0) := rfl
theorem k148_31 : Kc C148 31 = (.invokevirtual 106, 147, 0, 29, 0) := rfl
theorem k148_34 : Kc C148 34 = (.istore_n 1, 1, 0, 0, 0) := rfl
theorem k148_35 : Kc C148 35 = (.goto (-20), 15, 0, 0, 0) := rfl
theorem k148_38 : Kc C148 38 = (.iload_n 1, 1, 0, 0, 0) := rfl
theorem k148_39 : Kc C148 39 = (.ireturn, 0, 0, 0, 0) := rfl
theorem ev148 (d : Nat) (x0 : Nat) (h : Hp) : EvM (d + 1) 148 [.ref x0] h = EvI (EvM d) C148 2 0 [.ref x0, jk] [] h := rfl
theorem k149_0 : Kc C149 0 = (.aload_n 0, 0, 0, 0, 0) := rfl
theorem k149_1 : Kc C149 1 = (.invokevirtual 109, 148, 0, 29, 0) := rfl
theorem k149_4 : Kc C149 4 = (.istore_n 1, 1, 0, 0, 0) := rfl
theorem k149_5 : Kc C149 5 = (.aload_n 0, 0, 0, 0, 0) := rfl
theorem k149_6 : Kc C149 6 = (.iconst 0, 0, 0, 0, 0) := rfl
theorem k149_7 : Kc C149 7 = (.putfield 69, 9, 4, 0, 0) := rfl
theorem k149_10 : Kc C149 10 = (.iload_n 1, 1, 0, 0, 0) := rfl
theorem k149_11 : Kc C149 11 = (.ifCond .ne 11, 22, 0, 0, 0) := rfl
theorem k149_14 : Kc C149 14 = (.ldc 112, 0, 0, 0, (-1000100)) := rfl
theorem k149_16 : Kc C149 16 = (.aload_n 0, 0, 0, 0, 0) := rfl
theorem k149_17 : Kc C149 17 = (.getfield 73, 9, 12, 0, 0) := rfl
theorem k149_20 : Kc C149 20 = (.isub, 0, 0, 0, 0) := rfl
theorem k149_21 : Kc C149 21 = (.ireturn, 0, 0, 0, 0) := rfl
theorem k149_22 : Kc C149 22 = (.aload_n 0, 0, 0, 0, 0) := rfl
theorem k149_23 : Kc C149 23 = (.getfield 7, 9, 0, 0, 0) := rfl
theorem k149_26 : Kc C149 26 = (.iconst 0, 0, 0, 0, 0) := rfl
theorem k149_27 : Kc C149 27 = (.iconst 1, 0, 0, 0, 1) := rfl
theorem k149_28 : Kc C149 28 = (.iastore, 0, 0, 0, 0) := rfl
theorem k149_29 : Kc C149 29 = (.aload_n 0, 0, 0, 0, 0) := rfl
theorem k149_30 : Kc C149 30 = (.getfield 7, 9, 0, 0, 0) := rfl
theorem k149_33 : Kc C149 33 = (.iconst 1, 0, 0, 0, 1) := rfl
theorem k149_34 : Kc C149 34 = (.aload_n 0, 0, 0, 0, 0) := rfl
theorem k149_35 : Kc C149 35 = (.getfield 89, 9, 13, 0, 0) := rfl
theorem k149_38 : Kc C149 38 = (.iastore, 0, 0, 0, 0) := rfl
theorem k149_39 : Kc C149 39 = (.aload_n 0, 0, 0, 0, 0) := rfl
theorem k149_40 : Kc C149 40 = (.getfield 7, 9, 0, 0, 0) := rfl
theorem k149_43 : Kc C149 43 = (.iconst 2, 0, 0, 0, 2) := rfl
theorem k149_44 : Kc C149 44 = (.aload_n 0, 0, 0, 0, 0) := rfl
theorem k149_45 : Kc C149 45 = (.getfield 92, 9, 14, 0, 0) := rfl
theorem k149_48 : Kc C149 48 = (.iastore, 0, 0, 0, 0) := rfl
theorem k149_49 : Kc C149 49 = (.aload_n 0, 0, 0, 0, 0) := rfl
theorem k149_50 : Kc C149 50 = (.getfield 7, 9, 0, 0, 0) := rfl
theorem k149_53 : Kc C149 53 = (.iconst 3, 0, 0, 0, 3) := rfl
theorem k149_54 : Kc C149 54 = (.aload_n 0, 0, 0, 0, 0) := rfl
theorem k149_55 : Kc C149 55 = (.getfield 99, 9, 16, 0, 0) := rfl
theorem k149_58 : Kc C149 58 = (.iastore, 0, 0, 0, 0) := rfl
theorem k149_59 : Kc C149 59 = (.iconst 0, 0, 0, 0, 0) := rfl
theorem k149_60 : Kc C149 60 = (.istore_n 2, 2, 0, 0, 0) := rfl
theorem k149_61 : Kc C149 61 = (.iload_n 2, 2, 0, 0, 0) := rfl
theorem k149_62 : Kc C149 62 = (.bipush 97, 0, 0, 0, 97) := rfl
theorem k149_64 : Kc C149 64 = (.if_icmp .ge 19, 83, 0, 0, 0) := rfl
theorem k149_67 : Kc C149 67 = (.aload_n 0, 0, 0, 0, 0) := rfl
theorem k149_68 : Kc C149 68 = (.getfield 7, 9, 0, 0, 0) := rfl
theorem k149_71 : Kc C149 71 = (.bipush 22, 0, 0, 0, 22) := rfl
theorem k149_73 : Kc C149 73 = (.iload_n 2, 2, 0, 0, 0) := rfl
theorem k149_74 : Kc C149 74 = (.iadd, 0, 0, 0, 0) := rfl
theorem k149_75 : Kc C149 75 = (.iconst 0, 0, 0, 0, 0) := rfl
theorem k149_76 : Kc C149 76 = (.iastore, 0, 0, 0, 0) := rfl
theorem k149_77 : Kc C149 77 = (.iinc 2 1, 2, 0, 0, 1) := rfl
theorem k149_80 : Kc C149 80 = (.goto (-19), 61, 0, 0, 0) := rfl
theorem k149_83 : Kc C149 83 = (.iconst 0, 0, 0, 0, 0) := rfl
theorem k149_84 : Kc C149 84 = (.istore_n 2, 2, 0, 0, 0) := rfl
theorem k149_85 : Kc C149 85 = (.iload_n 2, 2, 0, 0, 0) := rfl
theorem k149_86 : Kc C149 86 = (.aload_n 0, 0, 0, 0, 0) := rfl
theorem k149_87 : Kc C149 87 = (.getfield 99, 9, 16, 0, 0) := rfl
theorem k149_90 : Kc C149 90 = (.if_icmp .ge 68, 158, 0, 0, 0) := rfl
theorem k149_93 : Kc C149 93 = (.iconst 0, 0, 0, 0, 0) := rfl
theorem k149_94 : Kc C149 94 = (.istore_n 3, 3, 0, 0, 0) := rfl
theorem k149_95 : Kc C149 95 = (.iload_n 3, 3, 0, 0, 0) := rfl
theorem k149_96 : Kc C149 96 = (.iconst 3, 0, 0, 0, 3) := rfl
theorem k149_97 : Kc C149 97 = (.if_icmp .ge 31, 128, 0, 0, 0) := rfl
theorem k149_100 : Kc C149 100 = (.aload_n 0, 0, 0, 0, 0) := rfl
theorem k149_101 : Kc C149 101 = (.getfield 7, 9, 0, 0, 0) := rfl
theorem k149_104 : Kc C149 104 = (.iconst 4, 0, 0, 0, 4) := rfl
theorem k149_105 : Kc C149 105 = (.iconst 3, 0, 0, 0, 3) := rfl
theorem k149_106 : Kc C149 106 = (.iload_n 2, 2, 0, 0, 0) := rfl
theorem k149_107 : Kc C149 107 = (.imul, 0, 0, 0, 0) := rfl
theorem k149_108 : Kc C149 108 = (.iadd, 0, 0, 0, 0) := rfl
theorem k149_109 : Kc C149 109 = (.iload_n 3, 3, 0, 0, 0) := rfl
theorem k149_110 : Kc C149 110 = (.iadd, 0, 0, 0, 0) := rfl
theorem k149_111 : Kc C149 111 = (.aload_n 0, 0, 0, 0, 0) := rfl
theorem k149_112 : Kc C149 112 = (.getfield 32, 9, 15, 0, 0) := rfl
theorem k149_115 : Kc C149 115 = (.iconst 4, 0, 0, 0, 4) := rfl
theorem k149_116 : Kc C149 116 = (.iload_n 2, 2, 0, 0, 0) := rfl
theorem k149_117 : Kc C149 117 = (.imul, 0, 0, 0, 0) := rfl
theorem k149_118 : Kc C149 118 = (.iload_n 3, 3, 0, 0, 0) := rfl
theorem k149_119 : Kc C149 119 = (.iadd, 0, 0, 0, 0) := rfl
theorem k149_120 : Kc C149 120 = (.iaload, 0, 0, 0, 0) := rfl
theorem k149_121 : Kc C149 121 = (.iastore, 0, 0, 0, 0) := rfl
theorem k149_122 : Kc C149 122 = (.iinc 3 1, 3, 0, 0, 1) := rfl
theorem k149_125 : Kc C149 125 = (.goto (-30), 95, 0, 0, 0) := rfl
theorem k149_128 : Kc C149 128 = (.aload_n 0, 0, 0, 0, 0) := rfl
theorem k149_129 : Kc C149 129 = (.getfield 7, 9, 0, 0, 0) := rfl
theorem k149_132 : Kc C149 132 = (.bipush 23, 0, 0, 0, 23) := rfl
theorem k149_134 : Kc C149 134 = (.bipush 16, 0, 0, 0, 16) := rfl
theorem k149_136 : Kc C149 136 = (.iload_n 2, 2, 0, 0, 0) := rfl
theorem k149_137 : Kc C149 137 = (.imul, 0, 0, 0, 0) := rfl
theorem k149_138 : Kc C149 138 = (.iadd, 0, 0, 0, 0) := rfl
theorem k149_139 : Kc C149 139 = (.iconst 1, 0, 0, 0, 1) := rfl
theorem k149_140 : Kc C149 140 = (.iadd, 0, 0, 0, 0) := rfl
theorem k149_141 : Kc C149 141 = (.aload_n 0, 0, 0, 0, 0) := rfl
theorem k149_142 : Kc C149 142 = (.getfield 32, 9, 15, 0, 0) := rfl
theorem k149_145 : Kc C149 145 = (.iconst 4, 0, 0, 0, 4) := rfl
theorem k149_146 : Kc C149 146 = (.iload_n 2, 2, 0, 0, 0) := rfl
theorem k149_147 : Kc C149 147 = (.imul, 0, 0, 0, 0) := rfl
theorem k149_148 : Kc C149 148 = (.iconst 3, 0, 0, 0, 3) := rfl
theorem k149_149 : Kc C149 149 = (.iadd, 0, 0, 0, 0) := rfl
theorem k149_150 : Kc C149 150 = (.iaload, 0, 0, 0, 0) := rfl
theorem k149_151 : Kc C149 151 = (.iastore, 0, 0, 0, 0) := rfl
theorem k149_152 : Kc C149 152 = (.iinc 2 1, 2, 0, 0, 1) := rfl
theorem k149_155 : Kc C149 155 = (.goto (-70), 85, 0, 0, 0) := rfl
theorem k149_158 : Kc C149 158 = (.aload_n 0, 0, 0, 0, 0) := rfl
theorem k149_159 : Kc C149 159 = (.iconst 0, 0, 0, 0, 0) := rfl
theorem k149_160 : Kc C149 160 = (.putfield 113, 9, 2, 0, 0) := rfl
theorem k149_163 : Kc C149 163 = (.aload_n 0, 0, 0, 0, 0) := rfl
theorem k149_164 : Kc C149 164 = (.getfield 99, 9, 16, 0, 0) := rfl
theorem k149_167 : Kc C149 167 = (.ireturn, 0, 0, 0, 0) := rfl
theorem ev149 (d : Nat) (x0 : Nat) (h : Hp) : EvM (d + 1) 149 [.ref x0] h = EvI (EvM d) C149 1 0 [.ref x0, jk, jk, jk] [] h := rfl
theorem k150_0 : Kc C150 0 = (.aload_n 0, 0, 0, 0, 0) := rfl
theorem k150_1 : Kc C150 1 = (.getfield 79, 9, 5, 0, 0) := rfl
theorem k150_4 : Kc C150 4 = (.ireturn, 0, 0, 0, 0) := rfl
theorem ev150 (d : Nat) (x0 : Nat) (h : Hp) : EvM (d + 1) 150 [.ref x0] h = EvI (EvM d) C150 1 0 [.ref x0] [] h := rfl
theorem k151_0 : Kc C151 0 = (.iload_n 1, 1, 0, 0, 0) := rfl
theorem k151_1 : Kc C151 1 = (.i2l, 0, 0, 0, 0) := rfl
theorem k151_2 : Kc C151 2 = (.lconst 0, 0, 0, 0, 0) := rfl
theorem k151_3 : Kc C151 3 = (.aload_n 0, 0, 0, 0, 0) := rfl
theorem k151_4 : Kc C151 4 = (.getfield 7, 9, 0, 0, 0) := rfl
theorem k151_7 : Kc C151 7 = (.iconst 3, 0, 0, 0, 3) := rfl
theorem k151_8 : Kc C151 8 = (.iaload, 0, 0, 0, 0) := rfl
theorem k151_9 : Kc C151 9 = (.iconst 1, 0, 0, 0, 1) := rfl
theorem k151_10 : Kc C151 10 = (.isub, 0, 0, 0, 0) := rfl
theorem k151_11 : Kc C151 11 = (.i2l, 0, 0, 0, 0) := rfl
theorem k151_12 : Kc C151 12 = (.invokestatic 45, 131, 3, 29, 0) := rfl
theorem k151_15 : Kc C151 15 = (.ireturn, 0, 0, 0, 0) := rfl
theorem ev151 (d : Nat) (x0 : Nat) (x1 : Int32) (h : Hp) : EvM (d + 1) 151 [.ref x0, .int x1] h = EvI (EvM d) C151 2 0 [.ref x0, .int x1] [] h := rfl
theorem k152_0 : Kc C152 0 = (.aload_n 0, 0, 0, 0, 0) := rfl
theorem k152_1 : Kc C152 1 = (.getfield 7, 9, 0, 0, 0) := rfl
theorem k152_4 : Kc C152 4 = (.iconst 4, 0, 0, 0, 4) := rfl
theorem k152_5 : Kc C152 5 = (.iconst 3, 0, 0, 0, 3) := rfl
theorem k152_6 : Kc C152 6 = (.iload_n 1, 1, 0, 0, 0) := rfl
theorem k152_7 : Kc C152 7 = (.imul, 0, 0, 0, 0) := rfl
theorem k152_8 : Kc C152 8 = (.iadd, 0, 0, 0, 0) := rfl
theorem k152_9 : Kc C152 9 = (.iaload, 0, 0, 0, 0) := rfl
theorem k152_10 : Kc C152 10 = (.ireturn, 0, 0, 0, 0) := rfl
theorem ev152 (d : Nat) (x0 : Nat) (x1 : Int32) (h : Hp) : EvM (d + 1) 152 [.ref x0, .int x1] h = EvI (EvM d) C152 1 0 [.ref x0, .int x1] [] h := rfl
theorem k153_0 : Kc C153 0 = (.iload_n 0, 0, 0, 0, 0) := rfl
theorem k153_1 : Kc C153 1 = (.bipush 23, 0, 0, 0, 23) := rfl
theorem k153_3 : Kc C153 3 = (.iadd, 0, 0, 0, 0) := rfl
theorem k153_4 : Kc C153 4 = (.bipush 16, 0, 0, 0, 16) := rfl
theorem k153_6 : Kc C153 6 = (.iload_n 1, 1, 0, 0, 0) := rfl
theorem k153_7 : Kc C153 7 = (.imul, 0, 0, 0, 0) := rfl
theorem k153_8 : Kc C153 8 = (.iadd, 0, 0, 0, 0) := rfl
theorem k153_9 : Kc C153 9 = (.ireturn, 0, 0, 0, 0) := rfl
theorem ev153 (d : Nat) (x0 : Int32) (x1 : Int32) (h : Hp) : EvM (d + 1) 153 [.int x0, .int x1] h = EvI (EvM d) C153 1 0 [.int x0, .int x1] [] h := rfl
theorem k154_0 : Kc C154 0 = (.iconst 0, 0, 0, 0, 0) := rfl
theorem k154_1 : Kc C154 1 = (.istore_n 3, 3, 0, 0, 0) := rfl
theorem k154_2 : Kc C154 2 = (.iconst 0, 0, 0, 0, 0) := rfl
theorem k154_3 : Kc C154 3 = (.istore 4, 4, 0, 0, 0) := rfl
theorem k154_5 : Kc C154 5 = (.iload 4, 4, 0, 0, 0) := rfl
theorem k154_7 : Kc C154 7 = (.aload_n 0, 0, 0, 0, 0) := rfl
theorem k154_8 : Kc C154 8 = (.getfield 7, 9, 0, 0, 0) := rfl
theorem k154_11 : Kc C154 11 = (.iload_n 1, 1, 0, 0, 0) := rfl
theorem k154_12 : Kc C154 12 = (.iload_n 2, 2, 0, 0, 0) := rfl
theorem k154_13 : Kc C154 13 = (.invokestatic 116, 153, 2, 28, 0) := rfl
theorem k154_16 : Kc C154 16 = (.iconst 3, 0, 0, 0, 3) := rfl
theorem k154_17 : Kc C154 17 = (.iadd, 0, 0, 0, 0) := rfl
theorem k154_18 : Kc C154 18 = (.iaload, 0, 0, 0, 0) := rfl
theorem k154_19 : Kc C154 19 = (.if_icmp .ge 29, 48, 0, 0, 0) := rfl
theorem k154_22 : Kc C154 22 = (.iload_n 3, 3, 0, 0, 0) := rfl
theorem k154_23 : Kc C154 23 = (.aload_n 0, 0, 0, 0, 0) := rfl
theorem k154_24 : Kc C154 24 = (.getfield 7, 9, 0, 0, 0) := rfl
theorem k154_27 : Kc C154 27 = (.iload_n 1, 1, 0, 0, 0) := rfl
theorem k154_28 : Kc C154 28 = (.iload_n 2, 2, 0, 0, 0) := rfl
theorem k154_29 : Kc C154 29 = (.invokestatic 116, 153, 2, 28, 0) := rfl
theorem k154_32 : Kc C154 32 = (.iconst 4, 0, 0, 0, 4) := rfl
theorem k154_33 : Kc C154 33 = (.iadd, 0, 0, 0, 0) := rfl
theorem k154_34 : Kc C154 34 = (.iconst 2, 0, 0, 0, 2) := rfl
theorem k154_35 : Kc C154 35 = (.iload 4, 4, 0, 0, 0) := rfl
theorem k154_37 : Kc C154 37 = (.imul, 0, 0, 0, 0) := rfl
theorem k154_38 : Kc C154 38 = (.iadd, 0, 0, 0, 0) := rfl
theorem k154_39 : Kc C154 39 = (.iaload, 0, 0, 0, 0) := rfl
theorem k154_40 : Kc C154 40 = (.iadd, 0, 0, 0, 0) := rfl
theorem k154_41 : Kc C154 41 = (.istore_n 3, 3, 0, 0, 0) := rfl
theorem k154_42 : Kc C154 42 = (.iinc 4 1, 4, 0, 0, 1) := rfl
theorem k154_45 : Kc C154 45 = (.goto (-40), 5, 0, 0, 0) := rfl
theorem k154_48 : Kc C154 48 = (.iload_n 3, 3, 0, 0, 0) := rfl
theorem k154_49 : Kc C154 49 = (.ireturn, 0, 0, 0, 0) := rfl
theorem ev154 (d : Nat) (x0 : Nat) (x1 : Int32) (x2 : Int32) (h : Hp) : EvM (d + 1) 154 [.ref x0, .int x1, .int x2] h = EvI (EvM d) C154 1 0 [.ref x0, .int x1, .int x2, jk, jk] [] h := rfl
theorem k155_0 : Kc C155 0 = (.iload_n 1, 1, 0, 0, 0) := rfl
theorem k155_1 : Kc C155 1 = (.iload_n 2, 2, 0, 0, 0) := rfl
theorem k155_2 : Kc C155 2 = (.invokestatic 116, 153, 2, 28, 0) := rfl
theorem k155_5 : Kc C155 5 = (.istore 4, 4, 0, 0, 0) := rfl
theorem k155_7 : Kc C155 7 = (.aload_n 0, 0, 0, 0, 0) := rfl
theorem k155_8 : Kc C155 8 = (.getfield 7, 9, 0, 0, 0) := rfl
theorem k155_11 : Kc C155 11 = (.iload 4, 4, 0, 0, 0) := rfl
theorem k155_13 : Kc C155 13 = (.iconst 3, 0, 0, 0, 3) := rfl
theorem k155_14 : Kc C155 14 = (.iadd, 0, 0, 0, 0) := rfl
theorem k155_15 : Kc C155 15 = (.iaload, 0, 0, 0, 0) := rfl
theorem k155_16 : Kc C155 16 = (.istore 5, 5, 0, 0, 0) := rfl
theorem k155_18 : Kc C155 18 = (.iload 5, 5, 0, 0, 0) := rfl
theorem k155_20 : Kc C155 20 = (.bipush 6, 0, 0, 0, 6) := rfl
theorem k155_22 : Kc C155 22 = (.if_icmp .ne 20, 42, 0, 0, 0) := rfl
theorem k155_25 : Kc C155 25 = (.aload_n 0, 0, 0, 0, 0) := rfl
theorem k155_26 : Kc C155 26 = (.getfield 7, 9, 0, 0, 0) := rfl
theorem k155_29 : Kc C155 29 = (.iload 4, 4, 0, 0, 0) := rfl
theorem k155_31 : Kc C155 31 = (.iconst 4, 0, 0, 0, 4) := rfl
theorem k155_32 : Kc C155 32 = (.iadd, 0, 0, 0, 0) := rfl
theorem k155_33 : Kc C155 33 = (.bipush 10, 0, 0, 0, 10) := rfl
theorem k155_35 : Kc C155 35 = (.iadd, 0, 0, 0, 0) := rfl
theorem k155_36 : Kc C155 36 = (.dup2, 0, 0, 0, 0) := rfl
theorem k155_37 : Kc C155 37 = (.iaload, 0, 0, 0, 0) := rfl
theorem k155_38 : Kc C155 38 = (.iload_n 3, 3, 0, 0, 0) := rfl
theorem k155_39 : Kc C155 39 = (.iadd, 0, 0, 0, 0) := rfl
theorem k155_40 : Kc C155 40 = (.iastore, 0, 0, 0, 0) := rfl
theorem k155_41 : Kc C155 41 = (.return_, 0, 0, 0, 0) := rfl
theorem k155_42 : Kc C155 42 = (.aload_n 0, 0, 0, 0, 0) := rfl
theorem k155_43 : Kc C155 43 = (.getfield 7, 9, 0, 0, 0) := rfl
theorem k155_46 : Kc C155 46 = (.iload 4, 4, 0, 0, 0) := rfl
theorem k155_48 : Kc C155 48 = (.iconst 4, 0, 0, 0, 4) := rfl
theorem k155_49 : Kc C155 49 = (.iadd, 0, 0, 0, 0) := rfl
theorem k155_50 : Kc C155 50 = (.iconst 2, 0, 0, 0, 2) := rfl
theorem k155_51 : Kc C155 51 = (.iload 5, 5, 0, 0, 0) := rfl
theorem k155_53 : Kc C155 53 = (.imul, 0, 0, 0, 0) := rfl
theorem k155_54 : Kc C155 54 = (.iadd, 0, 0, 0, 0) := rfl
theorem k155_55 : Kc C155 55 = (.iload_n 3, 3, 0, 0, 0) := rfl
theorem k155_56 : Kc C155 56 = (.iastore, 0, 0, 0, 0) := rfl
theorem k155_57 : Kc C155 57 = (.aload_n 0, 0, 0, 0, 0) := rfl
theorem k155_58 : Kc C155 58 = (.getfield 7, 9, 0, 0, 0) := rfl
theorem k155_61 : Kc C155 61 = (.iload 4, 4, 0, 0, 0) := rfl
theorem k155_63 : Kc C155 63 = (.iconst 4, 0, 0, 0, 4) := rfl
theorem k155_64 : Kc C155 64 = (.iadd, 0, 0, 0, 0) := rfl
theorem k155_65 : Kc C155 65 = (.iconst 2, 0, 0, 0, 2) := rfl
theorem k155_66 : Kc C155 66 = (.iload 5, 5, 0, 0, 0) := rfl
theorem k155_68 : Kc C155 68 = (.imul, 0, 0, 0, 0) := rfl
theorem k155_69 : Kc C155 69 = (.iadd, 0, 0, 0, 0) := rfl
theorem k155_70 : Kc C155 70 = (.iconst 1, 0, 0, 0, 1) := rfl
theorem k155_71 : Kc C155 71 = (.iadd, 0, 0, 0, 0) := rfl
theorem k155_72 : Kc C155 72 = (.aload_n 0, 0, 0, 0, 0) := rfl
theorem k155_73 : Kc C155 73 = (.getfield 7, 9, 0, 0, 0) := rfl
theorem k155_76 : Kc C155 76 = (.iload_n 1, 1, 0, 0, 0) := rfl
theorem k155_77 : Kc C155 77 = (.bipush 22, 0, 0, 0, 22) := rfl
theorem k155_79 : Kc C155 79 = (.iadd, 0, 0, 0, 0) := rfl
theorem k155_80 : Kc C155 80 = (.iaload, 0, 0, 0, 0) := rfl
theorem k155_81 : Kc C155 81 = (.iastore, 0, 0, 0, 0) := rfl
theorem k155_82 : Kc C155 82 = (.aload_n 0, 0, 0, 0, 0) := rfl
theorem k155_83 : Kc C155 83 = (.getfield 7, 9, 0, 0, 0) := rfl
theorem k155_86 : Kc C155 86 = (.iload 4, 4, 0, 0, 0) := rfl
theorem k155_88 : Kc C155 88 = (.iconst 3, 0, 0, 0, 3) := rfl
theorem k155_89 : Kc C155 89 = (.iadd, 0, 0, 0, 0) := rfl
theorem k155_90 : Kc C155 90 = (.dup2, 0, 0, 0, 0) := rfl
theorem k155_91 : Kc C155 91 = (.iaload, 0, 0, 0, 0) := rfl
theorem k155_92 : Kc C155 92 = (.iconst 1, 0, 0, 0, 1) := rfl
theorem k155_93 : Kc C155 93 = (.iadd, 0, 0, 0, 0) := rfl
theorem k155_94 : Kc C155 94 = (.iastore, 0, 0, 0, 0) := rfl
theorem k155_95 : Kc C155 95 = (.return_, 0, 0, 0, 0) := rfl
theorem ev155 (d : Nat) (x0 : Nat) (x1 : Int32) (x2 : Int32) (x3 : Int32) (h : Hp) : EvM (d + 1) 155 [.ref x0, .int x1, .int x2, .int x3] h = EvI (EvM d) C155 0 0 [.ref x0, .int x1, .int x2, .int x3, jk, jk] [] h := rfl
theorem k156_0 : Kc C156 0 = (.iload_n 1, 1, 0, 0, 0) := rfl
theorem k156_1 : Kc C156 1 = (.iload_n 2, 2, 0, 0, 0) := rfl
theorem k156_2 : Kc C156 2 = (.invokestatic 116, 153, 2, 28, 0) := rfl
theorem k156_5 : Kc C156 5 = (.istore_n 3, 3, 0, 0, 0) := rfl
theorem k156_6 : Kc C156 6 = (.iconst 0, 0, 0, 0, 0) := rfl
theorem k156_7 : Kc C156 7 = (.istore 4, 4, 0, 0, 0) := rfl
theorem k156_9 : Kc C156 9 = (.iconst 0, 0, 0, 0, 0) := rfl
theorem k156_10 : Kc C156 10 = (.istore 5, 5, 0, 0, 0) := rfl
theorem k156_12 : Kc C156 12 = (.iload 5, 5, 0, 0, 0) := rfl
theorem k156_14 : Kc C156 14 = (.aload_n 0, 0, 0, 0, 0) := rfl
theorem k156_15 : Kc C156 15 = (.getfield 7, 9, 0, 0, 0) := rfl
theorem k156_18 : Kc C156 18 = (.iload_n 3, 3, 0, 0, 0) := rfl
theorem k156_19 : Kc C156 19 = (.iconst 3, 0, 0, 0, 3) := rfl
theorem k156_20 : Kc C156 20 = (.iadd, 0, 0, 0, 0) := rfl
theorem k156_21 : Kc C156 21 = (.iaload, 0, 0, 0, 0) := rfl
theorem k156_22 : Kc C156 22 = (.if_icmp .ge 81, 103, 0, 0, 0) := rfl
theorem k156_25 : Kc C156 25 = (.aload_n 0, 0, 0, 0, 0) := rfl
theorem k156_26 : Kc C156 26 = (.getfield 7, 9, 0, 0, 0) := rfl
theorem k156_29 : Kc C156 29 = (.iload_n 3, 3, 0, 0, 0) := rfl
theorem k156_30 : Kc C156 30 = (.iconst 4, 0, 0, 0, 4) := rfl
theorem k156_31 : Kc C156 31 = (.iadd, 0, 0, 0, 0) := rfl
theorem k156_32 : Kc C156 32 = (.iconst 2, 0, 0, 0, 2) := rfl
theorem k156_33 : Kc C156 33 = (.iload 5, 5, 0, 0, 0) := rfl
theorem k156_35 : Kc C156 35 = (.imul, 0, 0, 0, 0) := rfl
theorem k156_36 : Kc C156 36 = (.iadd, 0, 0, 0, 0) := rfl
theorem k156_37 : Kc C156 37 = (.iaload, 0, 0, 0, 0) := rfl
theorem k156_38 : Kc C156 38 = (.istore 6, 6, 0, 0, 0) := rfl
theorem k156_40 : Kc C156 40 = (.aload_n 0, 0, 0, 0, 0) := rfl
theorem k156_41 : Kc C156 41 = (.getfield 7, 9, 0, 0, 0) := rfl
theorem k156_44 : Kc C156 44 = (.iload_n 3, 3, 0, 0, 0) := rfl
theorem k156_45 : Kc C156 45 = (.iconst 4, 0, 0, 0, 4) := rfl
theorem k156_46 : Kc C156 46 = (.iadd, 0, 0, 0, 0) := rfl
theorem k156_47 : Kc C156 47 = (.iconst 2, 0, 0, 0, 2) := rfl
theorem k156_48 : Kc C156 48 = (.iload 5, 5, 0, 0, 0) := rfl
theorem k156_50 : Kc C156 50 = (.imul, 0, 0, 0, 0) := rfl
theorem k156_51 : Kc C156 51 = (.iadd, 0, 0, 0, 0) := rfl
theorem k156_52 : Kc C156 52 = (.iconst 1, 0, 0, 0, 1) := rfl
theorem k156_53 : Kc C156 53 = (.iadd, 0, 0, 0, 0) := rfl
theorem k156_54 : Kc C156 54 = (.iaload, 0, 0, 0, 0) := rfl
theorem k156_55 : Kc C156 55 = (.istore 7, 7, 0, 0, 0) := rfl
theorem k156_57 : Kc C156 57 = (.iload 6, 6, 0, 0, 0) := rfl
theorem k156_59 : Kc C156 59 = (.ifCond .le 38, 97, 0, 0, 0) := rfl
theorem k156_62 : Kc C156 62 = (.aload_n 0, 0, 0, 0, 0) := rfl
theorem k156_63 : Kc C156 63 = (.getfield 7, 9, 0, 0, 0) := rfl
theorem k156_66 : Kc C156 66 = (.iload_n 3, 3, 0, 0, 0) := rfl
theorem k156_67 : Kc C156 67 = (.iconst 4, 0, 0, 0, 4) := rfl
theorem k156_68 : Kc C156 68 = (.iadd, 0, 0, 0, 0) := rfl
theorem k156_69 : Kc C156 69 = (.iconst 2, 0, 0, 0, 2) := rfl
theorem k156_70 : Kc C156 70 = (.iload 4, 4, 0, 0, 0) := rfl
theorem k156_72 : Kc C156 72 = (.imul, 0, 0, 0, 0) := rfl
theorem k156_73 : Kc C156 73 = (.iadd, 0, 0, 0, 0) := rfl
theorem k156_74 : Kc C156 74 = (.iload 6, 6, 0, 0, 0) := rfl
theorem k156_76 : Kc C156 76 = (.iastore, 0, 0, 0, 0) := rfl
theorem k156_77 : Kc C156 77 = (.aload_n 0, 0, 0, 0, 0) := rfl
theorem k156_78 : Kc C156 78 = (.getfield 7, 9, 0, 0, 0) := rfl
theorem k156_81 : Kc C156 81 = (.iload_n 3, 3, 0, 0, 0) := rfl
theorem k156_82 : Kc C156 82 = (.iconst 4, 0, 0, 0, 4) := rfl
theorem k156_83 : Kc C156 83 = (.iadd, 0, 0, 0, 0) := rfl
theorem k156_84 : Kc C156 84 = (.iconst 2, 0, 0, 0, 2) := rfl
theorem k156_85 : Kc C156 85 = (.iload 4, 4, 0, 0, 0) := rfl
theorem k156_87 : Kc C156 87 = (.imul, 0, 0, 0, 0) := rfl
theorem k156_88 : Kc C156 88 = (.iadd, 0, 0, 0, 0) := rfl
theorem k156_89 : Kc C156 89 = (.iconst 1, 0, 0, 0, 1) := rfl
theorem k156_90 : Kc C156 90 = (.iadd, 0, 0, 0, 0) := rfl
theorem k156_91 : Kc C156 91 = (.iload 7, 7, 0, 0, 0) := rfl
theorem k156_93 : Kc C156 93 = (.iastore, 0, 0, 0, 0) := rfl
theorem k156_94 : Kc C156 94 = (.iinc 4 1, 4, 0, 0, 1) := rfl
theorem k156_97 : Kc C156 97 = (.iinc 5 1, 5, 0, 0, 1) := rfl
theorem k156_100 : Kc C156 100 = (.goto (-88), 12, 0, 0, 0) := rfl
theorem k156_103 : Kc C156 103 = (.iconst 2, 0, 0, 0, 2) := rfl
theorem k156_104 : Kc C156 104 = (.iload 4, 4, 0, 0, 0) := rfl
theorem k156_106 : Kc C156 106 = (.imul, 0, 0, 0, 0) := rfl
theorem k156_107 : Kc C156 107 = (.istore 5, 5, 0, 0, 0) := rfl
theorem k156_109 : Kc C156 109 = (.iload 5, 5, 0, 0, 0) := rfl
theorem k156_111 : Kc C156 111 = (.bipush 12, 0, 0, 0, 12) := rfl
theorem k156_113 : Kc C156 113 = (.if_icmp .ge 21, 134, 0, 0, 0) := rfl
theorem k156_116 : Kc C156 116 = (.aload_n 0, 0, 0, 0, 0) := rfl
theorem k156_117 : Kc C156 117 = (.getfield 7, 9, 0, 0, 0) := rfl
theorem k156_120 : Kc C156 120 = (.iload_n 3, 3, 0, 0, 0) := rfl
theorem k156_121 : Kc C156 121 = (.iconst 4, 0, 0, 0, 4) := rfl
theorem k156_122 : Kc C156 122 = (.iadd, 0, 0, 0, 0) := rfl
theorem k156_123 : Kc C156 123 = (.iload 5, 5, 0, 0, 0) := rfl
theorem k156_125 : Kc C156 125 = (.iadd, 0, 0, 0, 0) := rfl
theorem k156_126 : Kc C156 126 = (.iconst 0, 0, 0, 0, 0) := rfl
theorem k156_127 : Kc C156 127 = (.iastore, 0, 0, 0, 0) := rfl
theorem k156_128 : Kc C156 128 = (.iinc 5 1, 5, 0, 0, 1) := rfl
theorem k156_131 : Kc C156 131 = (.goto (-22), 109, 0, 0, 0) := rfl
theorem k156_134 : Kc C156 134 = (.aload_n 0, 0, 0, 0, 0) := rfl
theorem k156_135 : Kc C156 135 = (.getfield 7, 9, 0, 0, 0) := rfl
theorem k156_138 : Kc C156 138 = (.iload_n 3, 3, 0, 0, 0) := rfl
theorem k156_139 : Kc C156 139 = (.iconst 3, 0, 0, 0, 3) := rfl
theorem k156_140 : Kc C156 140 = (.iadd, 0, 0, 0, 0) := rfl
theorem k156_141 : Kc C156 141 = (.iload 4, 4, 0, 0, 0) := rfl
theorem k156_143 : Kc C156 143 = (.iastore, 0, 0, 0, 0) := rfl
theorem k156_144 : Kc C156 144 = (.return_, 0, 0, 0, 0) := rfl
theorem ev156 (d : Nat) (x0 : Nat) (x1 : Int32) (x2 : Int32) (h : Hp) : EvM (d + 1) 156 [.ref x0, .int x1, .int x2] h = EvI (EvM d) C156 0 0 [.ref x0, .int x1, .int x2, jk, jk, jk, jk, jk] [] h := rfl
theorem k157_0 : Kc C157 0 = (.iload_n 1, 1, 0, 0, 0) := rfl
theorem k157_1 : Kc C157 1 = (.iload_n 2, 2, 0, 0, 0) := rfl
theorem k157_2 : Kc C157 2 = (.invokestatic 116, 153, 2, 28, 0) := rfl
theorem k157_5 : Kc C157 5 = (.istore 4, 4, 0, 0, 0) := rfl
theorem k157_7 : Kc C157 7 = (.aload_n 0, 0, 0, 0, 0) := rfl
theorem k157_8 : Kc C157 8 = (.getfield 7, 9, 0, 0, 0) := rfl
theorem k157_11 : Kc C157 11 = (.iload 4, 4, 0, 0, 0) := rfl
theorem k157_13 : Kc C157 13 = (.iconst 3, 0, 0, 0, 3) := rfl
theorem k157_14 : Kc C157 14 = (.iadd, 0, 0, 0, 0) := rfl
theorem k157_15 : Kc C157 15 = (.iaload, 0, 0, 0, 0) := rfl
theorem k157_16 : Kc C157 16 = (.istore 5, 5, 0, 0, 0) := rfl
theorem k157_18 : Kc C157 18 = (.iload_n 3, 3, 0, 0, 0) := rfl
theorem k157_19 : Kc C157 19 = (.istore 6, 6, 0, 0, 0) := rfl
theorem k157_21 : Kc C157 21 = (.iconst 0, 0, 0, 0, 0) := rfl
theorem k157_22 : Kc C157 22 = (.istore 7, 7, 0, 0, 0) := rfl
theorem k157_24 : Kc C157 24 = (.iload 7, 7, 0, 0, 0) := rfl
theorem k157_26 : Kc C157 26 = (.iload 5, 5, 0, 0, 0) := rfl
theorem k157_28 : Kc C157 28 = (.if_icmp .ge 84, 112, 0, 0, 0) := rfl
theorem k157_31 : Kc C157 31 = (.iload 4, 4, 0, 0, 0) := rfl
theorem k157_33 : Kc C157 33 = (.iconst 4, 0, 0, 0, 4) := rfl
theorem k157_34 : Kc C157 34 = (.iadd, 0, 0, 0, 0) := rfl
theorem k157_35 : Kc C157 35 = (.iconst 2, 0, 0, 0, 2) := rfl
theorem k157_36 : Kc C157 36 = (.aload_n 0, 0, 0, 0, 0) := rfl
theorem k157_37 : Kc C157 37 = (.iload_n 2, 2, 0, 0, 0) := rfl
theorem k157_38 : Kc C157 38 = (.invokevirtual 119, 152, 1, 28, 0) := rfl
theorem k157_41 : Kc C157 41 = (.iconst 4, 0, 0, 0, 4) := rfl
theorem k157_42 : Kc C157 42 = (.if_icmp .lt 13, 55, 0, 0, 0) := rfl
theorem k157_45 : Kc C157 45 = (.iload 5, 5, 0, 0, 0) := rfl
theorem k157_47 : Kc C157 47 = (.iconst 1, 0, 0, 0, 1) := rfl
theorem k157_48 : Kc C157 48 = (.isub, 0, 0, 0, 0) := rfl
theorem k157_49 : Kc C157 49 = (.iload 7, 7, 0, 0, 0) := rfl
theorem k157_51 : Kc C157 51 = (.isub, 0, 0, 0, 0) := rfl
theorem k157_52 : Kc C157 52 = (.goto 5, 57, 0, 0, 0) := rfl
theorem k157_55 : Kc C157 55 = (.iload 7, 7, 0, 0, 0) := rfl
theorem k157_57 : Kc C157 57 = (.imul, 0, 0, 0, 0) := rfl
theorem k157_58 : Kc C157 58 = (.iadd, 0, 0, 0, 0) := rfl
theorem k157_59 : Kc C157 59 = (.istore 8, 8, 0, 0, 0) := rfl
theorem k157_61 : Kc C157 61 = (.aload_n 0, 0, 0, 0, 0) := rfl
theorem k157_62 : Kc C157 62 = (.getfield 7, 9, 0, 0, 0) := rfl
theorem k157_65 : Kc C157 65 = (.iload 8, 8, 0, 0, 0) := rfl
theorem k157_67 : Kc C157 67 = (.iaload, 0, 0, 0, 0) := rfl
theorem k157_68 : Kc C157 68 = (.iload 6, 6, 0, 0, 0) := rfl
theorem k157_70 : Kc C157 70 = (.if_icmp .ge 13, 83, 0, 0, 0) := rfl
theorem k157_73 : Kc C157 73 = (.aload_n 0, 0, 0, 0, 0) := rfl
theorem k157_74 : Kc C157 74 = (.getfield 7, 9, 0, 0, 0) := rfl
theorem k157_77 : Kc C157 77 = (.iload 8, 8, 0, 0, 0) := rfl
theorem k157_79 : Kc C157 79 = (.iaload, 0, 0, 0, 0) := rfl
theorem k157_80 : Kc C157 80 = (.goto 5, 85, 0, 0, 0) := rfl
theorem k157_83 : Kc C157 83 = (.iload 6, 6, 0, 0, 0) := rfl
theorem k157_85 : Kc C157 85 = (.istore 9, 9, 0, 0, 0) := rfl
theorem k157_87 : Kc C157 87 = (.aload_n 0, 0, 0, 0, 0) := rfl
theorem k157_88 : Kc C157 88 = (.getfield 7, 9, 0, 0, 0) := rfl
theorem k157_91 : Kc C157 91 = (.iload 8, 8, 0, 0, 0) := rfl
theorem k157_93 : Kc C157 93 = (.dup2, 0, 0, 0, 0) := rfl
theorem k157_94 : Kc C157 94 = (.iaload, 0, 0, 0, 0) := rfl
theorem k157_95 : Kc C157 95 = (.iload 9, 9, 0, 0, 0) := rfl
theorem k157_97 : Kc C157 97 = (.isub, 0, 0, 0, 0) := rfl
theorem k157_98 : Kc C157 98 = (.iastore, 0, 0, 0, 0) := rfl
theorem k157_99 : Kc C157 99 = (.iload 6, 6, 0, 0, 0) := rfl
theorem k157_101 : Kc C157 101 = (.iload 9, 9, 0, 0, 0) := rfl
theorem k157_103 : Kc C157 103 = (.isub, 0, 0, 0, 0) := rfl
theorem k157_104 : Kc C157 104 = (.istore 6, 6, 0, 0, 0) := rfl
theorem k157_106 : Kc C157 106 = (.iinc 7 1, 7, 0, 0, 1) := rfl
theorem k157_109 : Kc C157 109 = (.goto (-85), 24, 0, 0, 0) := rfl
theorem k157_112 : Kc C157 112 = (.aload_n 0, 0, 0, 0, 0) := rfl
theorem k157_113 : Kc C157 113 = (.iload_n 1, 1, 0, 0, 0) := rfl
theorem k157_114 : Kc C157 114 = (.iload_n 2, 2, 0, 0, 0) := rfl
theorem k157_115 : Kc C157 115 = (.invokevirtual 122, 156, 2, 27, 0) := rfl
theorem k157_118 : Kc C157 118 = (.return_, 0, 0, 0, 0) := rfl
theorem ev157 (d : Nat) (x0 : Nat) (x1 : Int32) (x2 : Int32) (x3 : Int32) (h : Hp) : EvM (d + 1) 157 [.ref x0, .int x1, .int x2, .int x3] h = EvI (EvM d) C157 0 0 [.ref x0, .int x1, .int x2, .int x3, jk, jk, jk, jk, jk, jk] [] h := rfl
theorem k158_0 : Kc C158 0 = (.iload_n 1, 1, 0, 0, 0) := rfl
theorem k158_1 : Kc C158 1 = (.iload_n 2, 2, 0, 0, 0) := rfl
theorem k158_2 : Kc C158 2 = (.invokestatic 116, 153, 2, 28, 0) := rfl
theorem k158_5 : Kc C158 5 = (.istore 4, 4, 0, 0, 0) := rfl
theorem k158_7 : Kc C158 7 = (.aload_n 0, 0, 0, 0, 0) := rfl
theorem k158_8 : Kc C158 8 = (.iload_n 1, 1, 0, 0, 0) := rfl
theorem k158_9 : Kc C158 9 = (.iload_n 2, 2, 0, 0, 0) := rfl
theorem k158_10 : Kc C158 10 = (.invokevirtual 126, 154, 2, 28, 0) := rfl
theorem k158_13 : Kc C158 13 = (.istore 5, 5, 0, 0, 0) := rfl
theorem k158_15 : Kc C158 15 = (.iload_n 3, 3, 0, 0, 0) := rfl
theorem k158_16 : Kc C158 16 = (.iload 5, 5, 0, 0, 0) := rfl
theorem k158_18 : Kc C158 18 = (.if_icmp .ge 7, 25, 0, 0, 0) := rfl
theorem k158_21 : Kc C158 21 = (.iload_n 3, 3, 0, 0, 0) := rfl
theorem k158_22 : Kc C158 22 = (.goto 5, 27, 0, 0, 0) := rfl
theorem k158_25 : Kc C158 25 = (.iload 5, 5, 0, 0, 0) := rfl
theorem k158_27 : Kc C158 27 = (.istore 6, 6, 0, 0, 0) := rfl
theorem k158_29 : Kc C158 29 = (.aload_n 0, 0, 0, 0, 0) := rfl
theorem k158_30 : Kc C158 30 = (.iload_n 1, 1, 0, 0, 0) := rfl
theorem k158_31 : Kc C158 31 = (.iload_n 2, 2, 0, 0, 0) := rfl
theorem k158_32 : Kc C158 32 = (.iload 6, 6, 0, 0, 0) := rfl
theorem k158_34 : Kc C158 34 = (.invokevirtual 129, 157, 3, 27, 0) := rfl
theorem k158_37 : Kc C158 37 = (.aload_n 0, 0, 0, 0, 0) := rfl
theorem k158_38 : Kc C158 38 = (.getfield 7, 9, 0, 0, 0) := rfl
theorem k158_41 : Kc C158 41 = (.iload 4, 4, 0, 0, 0) := rfl
theorem k158_43 : Kc C158 43 = (.iconst 0, 0, 0, 0, 0) := rfl
theorem k158_44 : Kc C158 44 = (.iadd, 0, 0, 0, 0) := rfl
theorem k158_45 : Kc C158 45 = (.iaload, 0, 0, 0, 0) := rfl
theorem k158_46 : Kc C158 46 = (.iload_n 3, 3, 0, 0, 0) := rfl
theorem k158_47 : Kc C158 47 = (.iadd, 0, 0, 0, 0) := rfl
theorem k158_48 : Kc C158 48 = (.iload 6, 6, 0, 0, 0) := rfl
theorem k158_50 : Kc C158 50 = (.isub, 0, 0, 0, 0) := rfl
theorem k158_51 : Kc C158 51 = (.istore 7, 7, 0, 0, 0) := rfl
theorem k158_53 : Kc C158 53 = (.aload_n 0, 0, 0, 0, 0) := rfl
theorem k158_54 : Kc C158 54 = (.getfield 7, 9, 0, 0, 0) := rfl
theorem k158_57 : Kc C158 57 = (.iload 4, 4, 0, 0, 0) := rfl
theorem k158_59 : Kc C158 59 = (.iconst 0, 0, 0, 0, 0) := rfl
theorem k158_60 : Kc C158 60 = (.iadd, 0, 0, 0, 0) := rfl
theorem k158_61 : Kc C158 61 = (.iload 7, 7, 0, 0, 0) := rfl
theorem k158_63 : Kc C158 63 = (.sipush 9999, 0, 0, 0, 9999) := rfl
theorem k158_66 : Kc C158 66 = (.if_icmp .le 9, 75, 0, 0, 0) := rfl
theorem k158_69 : Kc C158 69 = (.sipush 9999, 0, 0, 0, 9999) := rfl
theorem k158_72 : Kc C158 72 = (.goto 5, 77, 0, 0, 0) := rfl
theorem k158_75 : Kc C158 75 = (.iload 7, 7, 0, 0, 0) := rfl
theorem k158_77 : Kc C158 77 = (.iastore, 0, 0, 0, 0) := rfl
theorem k158_78 : Kc C158 78 = (.aload_n 0, 0, 0, 0, 0) := rfl
theorem k158_79 : Kc C158 79 = (.getfield 7, 9, 0, 0, 0) := rfl
theorem k158_82 : Kc C158 82 = (.iload 4, 4, 0, 0, 0) := rfl
theorem k158_84 : Kc C158 84 = (.iconst 2, 0, 0, 0, 2) := rfl
theorem k158_85 : Kc C158 85 = (.iadd, 0, 0, 0, 0) := rfl
theorem k158_86 : Kc C158 86 = (.dup2, 0, 0, 0, 0) := rfl
theorem k158_87 : Kc C158 87 = (.iaload, 0, 0, 0, 0) := rfl
theorem k158_88 : Kc C158 88 = (.iconst 1, 0, 0, 0, 1) := rfl
theorem k158_89 : Kc C158 89 = (.iadd, 0, 0, 0, 0) := rfl
theorem k158_90 : Kc C158 90 = (.iastore, 0, 0, 0, 0) := rfl
theorem k158_91 : Kc C158 91 = (.return_, 0, 0, 0, 0) := rfl
theorem ev158 (d : Nat) (x0 : Nat) (x1 : Int32) (x2 : Int32) (x3 : Int32) (h : Hp) : EvM (d + 1) 158 [.ref x0, .int x1, .int x2, .int x3] h = EvI (EvM d) C158 0 0 [.ref x0, .int x1, .int x2, .int x3, jk, jk, jk, jk] [] h := rfl
theorem k159_0 : Kc C159 0 = (.iconst 0, 0, 0, 0, 0) := rfl
theorem k159_1 : Kc C159 1 = (.istore_n 2, 2, 0, 0, 0) := rfl
theorem k159_2 : Kc C159 2 = (.iload_n 2, 2, 0, 0, 0) := rfl
theorem k159_3 : Kc C159 3 = (.aload_n 0, 0, 0, 0, 0) := rfl
theorem k159_4 : Kc C159 4 = (.getfield 7, 9, 0, 0, 0) := rfl
theorem k159_7 : Kc C159 7 = (.iconst 3, 0, 0, 0, 3) := rfl
theorem k159_8 : Kc C159 8 = (.iaload, 0, 0, 0, 0) := rfl
theorem k159_9 : Kc C159 9 = (.if_icmp .ge 166, 175, 0, 0, 0) := rfl
theorem k159_12 : Kc C159 12 = (.iload_n 1, 1, 0, 0, 0) := rfl
theorem k159_13 : Kc C159 13 = (.iload_n 2, 2, 0, 0, 0) := rfl
theorem k159_14 : Kc C159 14 = (.invokestatic 116, 153, 2, 28, 0) := rfl
theorem k159_17 : Kc C159 17 = (.istore_n 3, 3, 0, 0, 0) := rfl
theorem k159_18 : Kc C159 18 = (.iconst 0, 0, 0, 0, 0) := rfl
theorem k159_19 : Kc C159 19 = (.istore 4, 4, 0, 0, 0) := rfl
theorem k159_21 : Kc C159 21 = (.iload 4, 4, 0, 0, 0) := rfl
theorem k159_23 : Kc C159 23 = (.aload_n 0, 0, 0, 0, 0) := rfl
theorem k159_24 : Kc C159 24 = (.getfield 7, 9, 0, 0, 0) := rfl
theorem k159_27 : Kc C159 27 = (.iload_n 3, 3, 0, 0, 0) := rfl
theorem k159_28 : Kc C159 28 = (.iconst 3, 0, 0, 0, 3) := rfl
theorem k159_29 : Kc C159 29 = (.iadd, 0, 0, 0, 0) := rfl
theorem k159_30 : Kc C159 30 = (.iaload, 0, 0, 0, 0) := rfl
theorem k159_31 : Kc C159 31 = (.if_icmp .ge 94, 125, 0, 0, 0) := rfl
theorem k159_34 : Kc C159 34 = (.aload_n 0, 0, 0, 0, 0) := rfl
theorem k159_35 : Kc C159 35 = (.iload_n 2, 2, 0, 0, 0) := rfl
theorem k159_36 : Kc C159 36 = (.invokevirtual 119, 152, 1, 28, 0) := rfl
theorem k159_39 : Kc C159 39 = (.iconst 3, 0, 0, 0, 3) := rfl
theorem k159_40 : Kc C159 40 = (.if_icmp .eq 85, 125, 0, 0, 0) := rfl
theorem k159_43 : Kc C159 43 = (.aload_n 0, 0, 0, 0, 0) := rfl
theorem k159_44 : Kc C159 44 = (.getfield 7, 9, 0, 0, 0) := rfl
theorem k159_47 : Kc C159 47 = (.iload_n 1, 1, 0, 0, 0) := rfl
theorem k159_48 : Kc C159 48 = (.bipush 22, 0, 0, 0, 22) := rfl
theorem k159_50 : Kc C159 50 = (.iadd, 0, 0, 0, 0) := rfl
theorem k159_51 : Kc C159 51 = (.iaload, 0, 0, 0, 0) := rfl
theorem k159_52 : Kc C159 52 = (.aload_n 0, 0, 0, 0, 0) := rfl
theorem k159_53 : Kc C159 53 = (.getfield 7, 9, 0, 0, 0) := rfl
theorem k159_56 : Kc C159 56 = (.iload_n 3, 3, 0, 0, 0) := rfl
theorem k159_57 : Kc C159 57 = (.iconst 4, 0, 0, 0, 4) := rfl
theorem k159_58 : Kc C159 58 = (.iadd, 0, 0, 0, 0) := rfl
theorem k159_59 : Kc C159 59 = (.iconst 2, 0, 0, 0, 2) := rfl
theorem k159_60 : Kc C159 60 = (.iload 4, 4, 0, 0, 0) := rfl
theorem k159_62 : Kc C159 62 = (.imul, 0, 0, 0, 0) := rfl
theorem k159_63 : Kc C159 63 = (.iadd, 0, 0, 0, 0) := rfl
theorem k159_64 : Kc C159 64 = (.iconst 1, 0, 0, 0, 1) := rfl
theorem k159_65 : Kc C159 65 = (.iadd, 0, 0, 0, 0) := rfl
theorem k159_66 : Kc C159 66 = (.iaload, 0, 0, 0, 0) := rfl
theorem k159_67 : Kc C159 67 = (.isub, 0, 0, 0, 0) := rfl
theorem k159_68 : Kc C159 68 = (.aload_n 0, 0, 0, 0, 0) := rfl
theorem k159_69 : Kc C159 69 = (.getfield 7, 9, 0, 0, 0) := rfl
theorem k159_72 : Kc C159 72 = (.iconst 1, 0, 0, 0, 1) := rfl
theorem k159_73 : Kc C159 73 = (.iaload, 0, 0, 0, 0) := rfl
theorem k159_74 : Kc C159 74 = (.if_icmp .lt 7, 81, 0, 0, 0) := rfl
theorem k159_77 : Kc C159 77 = (.iconst 1, 0, 0, 0, 1) := rfl
theorem k159_78 : Kc C159 78 = (.goto 4, 82, 0, 0, 0) := rfl
theorem k159_81 : Kc C159 81 = (.iconst 0, 0, 0, 0, 0) := rfl
theorem k159_82 : Kc C159 82 = (.istore 5, 5, 0, 0, 0) := rfl
theorem k159_84 : Kc C159 84 = (.aload_n 0, 0, 0, 0, 0) := rfl
theorem k159_85 : Kc C159 85 = (.getfield 7, 9, 0, 0, 0) := rfl
theorem k159_88 : Kc C159 88 = (.iload_n 3, 3, 0, 0, 0) := rfl
theorem k159_89 : Kc C159 89 = (.iconst 4, 0, 0, 0, 4) := rfl
theorem k159_90 : Kc C159 90 = (.iadd, 0, 0, 0, 0) := rfl
theorem k159_91 : Kc C159 91 = (.iconst 2, 0, 0, 0, 2) := rfl
theorem k159_92 : Kc C159 92 = (.iload 4, 4, 0, 0, 0) := rfl
theorem k159_94 : Kc C159 94 = (.imul, 0, 0, 0, 0) := rfl
theorem k159_95 : Kc C159 95 = (.iadd, 0, 0, 0, 0) := rfl
theorem k159_96 : Kc C159 96 = (.iload 5, 5, 0, 0, 0) := rfl
theorem k159_98 : Kc C159 98 = (.ifCond .eq 7, 105, 0, 0, 0) := rfl
theorem k159_101 : Kc C159 101 = (.iconst 0, 0, 0, 0, 0) := rfl
theorem k159_102 : Kc C159 102 = (.goto 16, 118, 0, 0, 0) := rfl
theorem k159_105 : Kc C159 105 = (.aload_n 0, 0, 0, 0, 0) := rfl
theorem k159_106 : Kc C159 106 = (.getfield 7, 9, 0, 0, 0) := rfl
theorem k159_109 : Kc C159 109 = (.iload_n 3, 3, 0, 0, 0) := rfl
theorem k159_110 : Kc C159 110 = (.iconst 4, 0, 0, 0, 4) := rfl
theorem k159_111 : Kc C159 111 = (.iadd, 0, 0, 0, 0) := rfl
theorem k159_112 : Kc C159 112 = (.iconst 2, 0, 0, 0, 2) := rfl
theorem k159_113 : Kc C159 113 = (.iload 4, 4, 0, 0, 0) := rfl
theorem k159_115 : Kc C159 115 = (.imul, 0, 0, 0, 0) := rfl
theorem k159_116 : Kc C159 116 = (.iadd, 0, 0, 0, 0) := rfl
theorem k159_117 : Kc C159 117 = (.iaload, 0, 0, 0, 0) := rfl
theorem k159_118 : Kc C159 118 = (.iastore, 0, 0, 0, 0) := rfl
theorem k159_119 : Kc C159 119 = (.iinc 4 1, 4, 0, 0, 1) := rfl
theorem k159_122 : Kc C159 122 = (.goto (-101), 21, 0, 0, 0) := rfl
theorem k159_125 : Kc C159 125 = (.aload_n 0, 0, 0, 0, 0) := rfl
theorem k159_126 : Kc C159 126 = (.iload_n 1, 1, 0, 0, 0) := rfl
theorem k159_127 : Kc C159 127 = (.iload_n 2, 2, 0, 0, 0) := rfl
theorem k159_128 : Kc C159 128 = (.invokevirtual 122, 156, 2, 27, 0) := rfl
theorem k159_131 : Kc C159 131 = (.aload_n 0, 0, 0, 0, 0) := rfl
theorem k159_132 : Kc C159 132 = (.getfield 7, 9, 0, 0, 0) := rfl
theorem k159_135 : Kc C159 135 = (.iload_n 3, 3, 0, 0, 0) := rfl
theorem k159_136 : Kc C159 136 = (.iconst 0, 0, 0, 0, 0) := rfl
theorem k159_137 : Kc C159 137 = (.iadd, 0, 0, 0, 0) := rfl
theorem k159_138 : Kc C159 138 = (.aload_n 0, 0, 0, 0, 0) := rfl
theorem k159_139 : Kc C159 139 = (.iload_n 2, 2, 0, 0, 0) := rfl
theorem k159_140 : Kc C159 140 = (.invokevirtual 119, 152, 1, 28, 0) := rfl
theorem k159_143 : Kc C159 143 = (.iconst 5, 0, 0, 0, 5) := rfl
theorem k159_144 : Kc C159 144 = (.if_icmp .ne 16, 160, 0, 0, 0) := rfl
theorem k159_147 : Kc C159 147 = (.aload_n 0, 0, 0, 0, 0) := rfl
theorem k159_148 : Kc C159 148 = (.getfield 7, 9, 0, 0, 0) := rfl
theorem k159_151 : Kc C159 151 = (.iload_n 3, 3, 0, 0, 0) := rfl
theorem k159_152 : Kc C159 152 = (.iconst 0, 0, 0, 0, 0) := rfl
theorem k159_153 : Kc C159 153 = (.iadd, 0, 0, 0, 0) := rfl
theorem k159_154 : Kc C159 154 = (.iaload, 0, 0, 0, 0) := rfl
theorem k159_155 : Kc C159 155 = (.iconst 2, 0, 0, 0, 2) := rfl
theorem k159_156 : Kc C159 156 = (.idiv, 0, 0, 0, 0) := rfl
theorem k159_157 : Kc C159 157 = (.goto 11, 168, 0, 0, 0) := rfl
theorem k159_160 : Kc C159 160 = (.aload_n 0, 0, 0, 0, 0) := rfl
theorem k159_161 : Kc C159 161 = (.getfield 7, 9, 0, 0, 0) := rfl
theorem k159_164 : Kc C159 164 = (.iload_n 3, 3, 0, 0, 0) := rfl
theorem k159_165 : Kc C159 165 = (.iconst 0, 0, 0, 0, 0) := rfl
theorem k159_166 : Kc C159 166 = (.iadd, 0, 0, 0, 0) := rfl
theorem k159_167 : Kc C159 167 = (.iaload, 0, 0, 0, 0) := rfl
theorem k159_168 : Kc C159 168 = (.iastore, 0, 0, 0, 0) := rfl
theorem k159_169 : Kc C159 169 = (.iinc 2 1, 2, 0, 0, 1) := rfl
theorem k159_172 : Kc C159 172 = (.goto (-170), 2, 0, 0, 0) := rfl
theorem k159_175 : Kc C159 175 = (.aload_n 0, 0, 0, 0, 0) := rfl
theorem k159_176 : Kc C159 176 = (.getfield 7, 9, 0, 0, 0) := rfl
theorem k159_179 : Kc C159 179 = (.iload_n 1, 1, 0, 0, 0) := rfl
theorem k159_180 : Kc C159 180 = (.bipush 22, 0, 0, 0, 22) := rfl
theorem k159_182 : Kc C159 182 = (.iadd, 0, 0, 0, 0) := rfl
theorem k159_183 : Kc C159 183 = (.dup2, 0, 0, 0, 0) := rfl
theorem k159_184 : Kc C159 184 = (.iaload, 0, 0, 0, 0) := rfl
theorem k159_185 : Kc C159 185 = (.iconst 1, 0, 0, 0, 1) := rfl
theorem k159_186 : Kc C159 186 = (.iadd, 0, 0, 0, 0) := rfl
theorem k159_187 : Kc C159 187 = (.iastore, 0, 0, 0, 0) := rfl
theorem k159_188 : Kc C159 188 = (.return_, 0, 0, 0, 0) := rfl
theorem ev159 (d : Nat) (x0 : Nat) (x1 : Int32) (h : Hp) : EvM (d + 1) 159 [.ref x0, .int x1] h = EvI (EvM d) C159 0 0 [.ref x0, .int x1, jk, jk, jk, jk] [] h := rfl
theorem k160_0 : Kc C160 0 = (.aload_n 0, 0, 0, 0, 0) := rfl
theorem k160_1 : Kc C160 1 = (.iconst 0, 0, 0, 0, 0) := rfl
theorem k160_2 : Kc C160 2 = (.putfield 133, 9, 18, 0, 0) := rfl
theorem k160_5 : Kc C160 5 = (.iconst 0, 0, 0, 0, 0) := rfl
theorem k160_6 : Kc C160 6 = (.istore_n 2, 2, 0, 0, 0) := rfl
theorem k160_7 : Kc C160 7 = (.iload_n 2, 2, 0, 0, 0) := rfl
theorem k160_8 : Kc C160 8 = (.aload_n 0, 0, 0, 0, 0) := rfl
theorem k160_9 : Kc C160 9 = (.getfield 7, 9, 0, 0, 0) := rfl
theorem k160_12 : Kc C160 12 = (.iconst 3, 0, 0, 0, 3) := rfl
theorem k160_13 : Kc C160 13 = (.iaload, 0, 0, 0, 0) := rfl
theorem k160_14 : Kc C160 14 = (.if_icmp .ge 94, 108, 0, 0, 0) := rfl
theorem k160_17 : Kc C160 17 = (.aload_n 0, 0, 0, 0, 0) := rfl
theorem k160_18 : Kc C160 18 = (.aload_n 0, 0, 0, 0, 0) := rfl
theorem k160_19 : Kc C160 19 = (.getfield 136, 9, 17, 0, 0) := rfl
theorem k160_22 : Kc C160 22 = (.ldc2_w 140, 0, 0, 0, 16807) := rfl
theorem k160_25 : Kc C160 25 = (.lmul, 0, 0, 0, 0) := rfl
theorem k160_26 : Kc C160 26 = (.ldc2_w 142, 0, 0, 0, 2147483647) := rfl
theorem k160_29 : Kc C160 29 = (.lrem, 0, 0, 0, 0) := rfl
theorem k160_30 : Kc C160 30 = (.putfield 136, 9, 17, 0, 0) := rfl
theorem k160_33 : Kc C160 33 = (.aload_n 0, 0, 0, 0, 0) := rfl
theorem k160_34 : Kc C160 34 = (.iload_n 2, 2, 0, 0, 0) := rfl
theorem k160_35 : Kc C160 35 = (.invokevirtual 119, 152, 1, 28, 0) := rfl
theorem k160_38 : Kc C160 38 = (.iconst 2, 0, 0, 0, 2) := rfl
theorem k160_39 : Kc C160 39 = (.if_icmp .eq 63, 102, 0, 0, 0) := rfl
theorem k160_42 : Kc C160 42 = (.aload_n 0, 0, 0, 0, 0) := rfl
theorem k160_43 : Kc C160 43 = (.getfield 136, 9, 17, 0, 0) := rfl
theorem k160_46 : Kc C160 46 = (.ldc2_w 144, 0, 0, 0, 10) := rfl
theorem k160_49 : Kc C160 49 = (.lrem, 0, 0, 0, 0) := rfl
theorem k160_50 : Kc C160 50 = (.aload_n 0, 0, 0, 0, 0) := rfl
theorem k160_51 : Kc C160 51 = (.getfield 7, 9, 0, 0, 0) := rfl
theorem k160_54 : Kc C160 54 = (.iconst 4, 0, 0, 0, 4) := rfl
theorem k160_55 : Kc C160 55 = (.iconst 3, 0, 0, 0, 3) := rfl
theorem k160_56 : Kc C160 56 = (.iload_n 2, 2, 0, 0, 0) := rfl
theorem k160_57 : Kc C160 57 = (.imul, 0, 0, 0, 0) := rfl
theorem k160_58 : Kc C160 58 = (.iadd, 0, 0, 0, 0) := rfl
theorem k160_59 : Kc C160 59 = (.iconst 1, 0, 0, 0, 1) := rfl
theorem k160_60 : Kc C160 60 = (.iadd, 0, 0, 0, 0) := rfl
theorem k160_61 : Kc C160 61 = (.iaload, 0, 0, 0, 0) := rfl
theorem k160_62 : Kc C160 62 = (.i2l, 0, 0, 0, 0) := rfl
theorem k160_63 : Kc C160 63 = (.lcmp, 0, 0, 0, 0) := rfl
theorem k160_64 : Kc C160 64 = (.ifCond .ge 38, 102, 0, 0, 0) := rfl
theorem k160_67 : Kc C160 67 = (.aload_n 0, 0, 0, 0, 0) := rfl
theorem k160_68 : Kc C160 68 = (.iload_n 1, 1, 0, 0, 0) := rfl
theorem k160_69 : Kc C160 69 = (.iload_n 2, 2, 0, 0, 0) := rfl
theorem k160_70 : Kc C160 70 = (.iconst 1, 0, 0, 0, 1) := rfl
theorem k160_71 : Kc C160 71 = (.aload_n 0, 0, 0, 0, 0) := rfl
theorem k160_72 : Kc C160 72 = (.getfield 136, 9, 17, 0, 0) := rfl
theorem k160_75 : Kc C160 75 = (.ldc2_w 144, 0, 0, 0, 10) := rfl
theorem k160_78 : Kc C160 78 = (.ldiv, 0, 0, 0, 0) := rfl
theorem k160_79 : Kc C160 79 = (.aload_n 0, 0, 0, 0, 0) := rfl
theorem k160_80 : Kc C160 80 = (.getfield 7, 9, 0, 0, 0) := rfl
theorem k160_83 : Kc C160 83 = (.iconst 2, 0, 0, 0, 2) := rfl
theorem k160_84 : Kc C160 84 = (.iaload, 0, 0, 0, 0) := rfl
theorem k160_85 : Kc C160 85 = (.i2l, 0, 0, 0, 0) := rfl
theorem k160_86 : Kc C160 86 = (.lrem, 0, 0, 0, 0) := rfl
theorem k160_87 : Kc C160 87 = (.l2i, 0, 0, 0, 0) := rfl
theorem k160_88 : Kc C160 88 = (.iadd, 0, 0, 0, 0) := rfl
theorem k160_89 : Kc C160 89 = (.invokevirtual 146, 158, 3, 27, 0) := rfl
theorem k160_92 : Kc C160 92 = (.aload_n 0, 0, 0, 0, 0) := rfl
theorem k160_93 : Kc C160 93 = (.dup, 0, 0, 0, 0) := rfl
theorem k160_94 : Kc C160 94 = (.getfield 133, 9, 18, 0, 0) := rfl
theorem k160_97 : Kc C160 97 = (.iconst 1, 0, 0, 0, 1) := rfl
theorem k160_98 : Kc C160 98 = (.iadd, 0, 0, 0, 0) := rfl
theorem k160_99 : Kc C160 99 = (.putfield 133, 9, 18, 0, 0) := rfl
theorem k160_102 : Kc C160 102 = (.iinc 2 1, 2, 0, 0, 1) := rfl
theorem k160_105 : Kc C160 105 = (.goto (-98), 7, 0, 0, 0) := rfl
theorem k160_108 : Kc C160 108 = (.aload_n 0, 0, 0, 0, 0) := rfl
theorem k160_109 : Kc C160 109 = (.iload_n 1, 1, 0, 0, 0) := rfl
theorem k160_110 : Kc C160 110 = (.invokevirtual 149, 159, 1, 27, 0) := rfl
theorem k160_113 : Kc C160 113 = (.return_, 0, 0, 0, 0) := rfl
theorem ev160 (d : Nat) (x0 : Nat) (x1 : Int32) (h : Hp) : EvM (d + 1) 160 [.ref x0, .int x1] h = EvI (EvM d) C160 0 0 [.ref x0, .int x1, jk] [] h := rfl
theorem k161_0 : Kc C161 0 = (.iconst 0, 0, 0, 0, 0) := rfl
theorem k161_1 : Kc C161 1 = (.istore_n 1, 1, 0, 0, 0) := rfl
theorem k161_2 : Kc C161 2 = (.iload_n 1, 1, 0, 0, 0) := rfl
theorem k161_3 : Kc C161 3 = (.sipush 2231, 0, 0, 0, 2231) := rfl
theorem k161_6 : Kc C161 6 = (.if_icmp .ge 33, 39, 0, 0, 0) := rfl
theorem k161_9 : Kc C161 9 = (.aload_n 0, 0, 0, 0, 0) := rfl
theorem k161_10 : Kc C161 10 = (.getfield 113, 9, 2, 0, 0) := rfl
theorem k161_13 : Kc C161 13 = (.bipush 24, 0, 0, 0, 24) := rfl
theorem k161_15 : Kc C161 15 = (.if_icmp .ne 24, 39, 0, 0, 0) := rfl
theorem k161_18 : Kc C161 18 = (.aload_n 0, 0, 0, 0, 0) := rfl
theorem k161_19 : Kc C161 19 = (.getfield 13, 9, 1, 0, 0) := rfl
theorem k161_22 : Kc C161 22 = (.iload_n 1, 1, 0, 0, 0) := rfl
theorem k161_23 : Kc C161 23 = (.aload_n 0, 0, 0, 0, 0) := rfl
theorem k161_24 : Kc C161 24 = (.getfield 13, 9, 1, 0, 0) := rfl
theorem k161_27 : Kc C161 27 = (.iload_n 1, 1, 0, 0, 0) := rfl
theorem k161_28 : Kc C161 28 = (.bipush 97, 0, 0, 0, 97) := rfl
theorem k161_30 : Kc C161 30 = (.iadd, 0, 0, 0, 0) := rfl
theorem k161_31 : Kc C161 31 = (.iaload, 0, 0, 0, 0) := rfl
theorem k161_32 : Kc C161 32 = (.iastore, 0, 0, 0, 0) := rfl
theorem k161_33 : Kc C161 33 = (.iinc 1 1, 1, 0, 0, 1) := rfl
theorem k161_36 : Kc C161 36 = (.goto (-34), 2, 0, 0, 0) := rfl
theorem k161_39 : Kc C161 39 = (.aload_n 0, 0, 0, 0, 0) := rfl
theorem k161_40 : Kc C161 40 = (.dup, 0, 0, 0, 0) := rfl
theorem k161_41 : Kc C161 41 = (.getfield 113, 9, 2, 0, 0) := rfl
theorem k161_44 : Kc C161 44 = (.aload_n 0, 0, 0, 0, 0) := rfl
theorem k161_45 : Kc C161 45 = (.getfield 113, 9, 2, 0, 0) := rfl
theorem k161_48 : Kc C161 48 = (.bipush 24, 0, 0, 0, 24) := rfl
theorem k161_50 : Kc C161 50 = (.if_icmp .ne 7, 57, 0, 0, 0) := rfl
theorem k161_53 : Kc C161 53 = (.iconst 1, 0, 0, 0, 1) := rfl
theorem k161_54 : Kc C161 54 = (.goto 4, 58, 0, 0, 0) := rfl
theorem k161_57 : Kc C161 57 = (.iconst 0, 0, 0, 0, 0) := rfl
theorem k161_58 : Kc C161 58 = (.isub, 0, 0, 0, 0) := rfl
theorem k161_59 : Kc C161 59 = (.putfield 113, 9, 2, 0, 0) := rfl
theorem k161_62 : Kc C161 62 = (.iconst 0, 0, 0, 0, 0) := rfl
theorem k161_63 : Kc C161 63 = (.istore_n 1, 1, 0, 0, 0) := rfl
theorem k161_64 : Kc C161 64 = (.iload_n 1, 1, 0, 0, 0) := rfl
theorem k161_65 : Kc C161 65 = (.bipush 97, 0, 0, 0, 97) := rfl
theorem k161_67 : Kc C161 67 = (.if_icmp .ge 32, 99, 0, 0, 0) := rfl
theorem k161_70 : Kc C161 70 = (.aload_n 0, 0, 0, 0, 0) := rfl
theorem k161_71 : Kc C161 71 = (.getfield 13, 9, 1, 0, 0) := rfl
theorem k161_74 : Kc C161 74 = (.bipush 97, 0, 0, 0, 97) := rfl
theorem k161_76 : Kc C161 76 = (.aload_n 0, 0, 0, 0, 0) := rfl
theorem k161_77 : Kc C161 77 = (.getfield 113, 9, 2, 0, 0) := rfl
theorem k161_80 : Kc C161 80 = (.imul, 0, 0, 0, 0) := rfl
theorem k161_81 : Kc C161 81 = (.iload_n 1, 1, 0, 0, 0) := rfl
theorem k161_82 : Kc C161 82 = (.iadd, 0, 0, 0, 0) := rfl
theorem k161_83 : Kc C161 83 = (.aload_n 0, 0, 0, 0, 0) := rfl
theorem k161_84 : Kc C161 84 = (.getfield 7, 9, 0, 0, 0) := rfl
theorem k161_87 : Kc C161 87 = (.bipush 22, 0, 0, 0, 22) := rfl
theorem k161_89 : Kc C161 89 = (.iload_n 1, 1, 0, 0, 0) := rfl
theorem k161_90 : Kc C161 90 = (.iadd, 0, 0, 0, 0) := rfl
theorem k161_91 : Kc C161 91 = (.iaload, 0, 0, 0, 0) := rfl
theorem k161_92 : Kc C161 92 = (.iastore, 0, 0, 0, 0) := rfl
theorem k161_93 : Kc C161 93 = (.iinc 1 1, 1, 0, 0, 1) := rfl
theorem k161_96 : Kc C161 96 = (.goto (-32), 64, 0, 0, 0) := rfl
theorem k161_99 : Kc C161 99 = (.aload_n 0, 0, 0, 0, 0) := rfl
theorem k161_100 : Kc C161 100 = (.dup, 0, 0, 0, 0) := rfl
theorem k161_101 : Kc C161 101 = (.getfield 113, 9, 2, 0, 0) := rfl
theorem k161_104 : Kc C161 104 = (.iconst 1, 0, 0, 0, 1) := rfl
theorem k161_105 : Kc C161 105 = (.iadd, 0, 0, 0, 0) := rfl
theorem k161_106 : Kc C161 106 = (.putfield 113, 9, 2, 0, 0) := rfl
theorem k161_109 : Kc C161 109 = (.return_, 0, 0, 0, 0) := rfl
theorem ev161 (d : Nat) (x0 : Nat) (h : Hp) : EvM (d + 1) 161 [.ref x0] h = EvI (EvM d) C161 0 0 [.ref x0, jk] [] h := rfl
theorem k162_0 : Kc C162 0 = (.aload_n 0, 0, 0, 0, 0) := rfl
theorem k162_1 : Kc C162 1 = (.getfield 113, 9, 2, 0, 0) := rfl
theorem k162_4 : Kc C162 4 = (.ifCond .ne 6, 10, 0, 0, 0) := rfl
theorem k162_7 : Kc C162 7 = (.ldc 153, 0, 0, 0, (-1000002)) := rfl
theorem k162_9 : Kc C162 9 = (.ireturn, 0, 0, 0, 0) := rfl
theorem k162_10 : Kc C162 10 = (.aload_n 0, 0, 0, 0, 0) := rfl
theorem k162_11 : Kc C162 11 = (.dup, 0, 0, 0, 0) := rfl
theorem k162_12 : Kc C162 12 = (.getfield 113, 9, 2, 0, 0) := rfl
theorem k162_15 : Kc C162 15 = (.iconst 1, 0, 0, 0, 1) := rfl
theorem k162_16 : Kc C162 16 = (.isub, 0, 0, 0, 0) := rfl
theorem k162_17 : Kc C162 17 = (.putfield 113, 9, 2, 0, 0) := rfl
theorem k162_20 : Kc C162 20 = (.iconst 0, 0, 0, 0, 0) := rfl
theorem k162_21 : Kc C162 21 = (.istore_n 1, 1, 0, 0, 0) := rfl
theorem k162_22 : Kc C162 22 = (.iload_n 1, 1, 0, 0, 0) := rfl
theorem k162_23 : Kc C162 23 = (.bipush 97, 0, 0, 0, 97) := rfl
theorem k162_25 : Kc C162 25 = (.if_icmp .ge 32, 57, 0, 0, 0) := rfl
theorem k162_28 : Kc C162 28 = (.aload_n 0, 0, 0, 0, 0) := rfl
theorem k162_29 : Kc C162 29 = (.getfield 7, 9, 0, 0, 0) := rfl
theorem k162_32 : Kc C162 32 = (.bipush 22, 0, 0, 0, 22) := rfl
theorem k162_34 : Kc C162 34 = (.iload_n 1, 1, 0, 0, 0) := rfl
theorem k162_35 : Kc C162 35 = (.iadd, 0, 0, 0, 0) := rfl
theorem k162_36 : Kc C162 36 = (.aload_n 0, 0, 0, 0, 0) := rfl
theorem k162_37 : Kc C162 37 = (.getfield 13, 9, 1, 0, 0) := rfl
theorem k162_40 : Kc C162 40 = (.bipush 97, 0, 0, 0, 97) := rfl
theorem k162_42 : Kc C162 42 = (.aload_n 0, 0, 0, 0, 0) := rfl
theorem k162_43 : Kc C162 43 = (.getfield 113, 9, 2, 0, 0) := rfl
theorem k162_46 : Kc C162 46 = (.imul, 0, 0, 0, 0) := rfl
theorem k162_47 : Kc C162 47 = (.iload_n 1, 1, 0, 0, 0) := rfl
theorem k162_48 : Kc C162 48 = (.iadd, 0, 0, 0, 0) := rfl
theorem k162_49 : Kc C162 49 = (.iaload, 0, 0, 0, 0) := rfl
theorem k162_50 : Kc C162 50 = (.iastore, 0, 0, 0, 0) := rfl
theorem k162_51 : Kc C162 51 = (.iinc 1 1, 1, 0, 0, 1) := rfl
theorem k162_54 : Kc C162 54 = (.goto (-32), 22, 0, 0, 0) := rfl
theorem k162_57 : Kc C162 57 = (.aload_n 0, 0, 0, 0, 0) := rfl
theorem k162_58 : Kc C162 58 = (.getfield 113, 9, 2, 0, 0) := rfl
theorem k162_61 : Kc C162 61 = (.ireturn, 0, 0, 0, 0) := rfl
theorem ev162 (d : Nat) (x0 : Nat) (h : Hp) : EvM (d + 1) 162 [.ref x0] h = EvI (EvM d) C162 1 0 [.ref x0, jk] [] h := rfl
theorem k163_0 : Kc C163 0 = (.aload_n 0, 0, 0, 0, 0) := rfl
theorem k163_1 : Kc C163 1 = (.iload_n 1, 1, 0, 0, 0) := rfl
theorem k163_2 : Kc C163 2 = (.invokevirtual 154, 151, 1, 29, 0) := rfl
theorem k163_5 : Kc C163 5 = (.ifCond .eq 15, 20, 0, 0, 0) := rfl
theorem k163_8 : Kc C163 8 = (.iload_n 2, 2, 0, 0, 0) := rfl
theorem k163_9 : Kc C163 9 = (.i2l, 0, 0, 0, 0) := rfl
theorem k163_10 : Kc C163 10 = (.lconst 1, 0, 0, 0, 1) := rfl
theorem k163_11 : Kc C163 11 = (.ldc2_w 157, 0, 0, 0, 999) := rfl
theorem k163_14 : Kc C163 14 = (.invokestatic 45, 131, 3, 29, 0) := rfl
theorem k163_17 : Kc C163 17 = (.ifCond .ne 6, 23, 0, 0, 0) := rfl
theorem k163_20 : Kc C163 20 = (.ldc 55, 0, 0, 0, (-1000001)) := rfl
theorem k163_22 : Kc C163 22 = (.ireturn, 0, 0, 0, 0) := rfl
theorem k163_23 : Kc C163 23 = (.aload_n 0, 0, 0, 0, 0) := rfl
theorem k163_24 : Kc C163 24 = (.iconst 0, 0, 0, 0, 0) := rfl
theorem k163_25 : Kc C163 25 = (.iload_n 1, 1, 0, 0, 0) := rfl
theorem k163_26 : Kc C163 26 = (.invokevirtual 126, 154, 2, 28, 0) := rfl
theorem k163_29 : Kc C163 29 = (.iload_n 2, 2, 0, 0, 0) := rfl
theorem k163_30 : Kc C163 30 = (.iadd, 0, 0, 0, 0) := rfl
theorem k163_31 : Kc C163 31 = (.sipush 9999, 0, 0, 0, 9999) := rfl
theorem k163_34 : Kc C163 34 = (.if_icmp .le 6, 40, 0, 0, 0) := rfl
theorem k163_37 : Kc C163 37 = (.ldc 72, 0, 0, 0, (-1000003)) := rfl
theorem k163_39 : Kc C163 39 = (.ireturn, 0, 0, 0, 0) := rfl
theorem k163_40 : Kc C163 40 = (.aload_n 0, 0, 0, 0, 0) := rfl
theorem k163_41 : Kc C163 41 = (.invokevirtual 159, 161, 0, 27, 0) := rfl
theorem k163_44 : Kc C163 44 = (.aload_n 0, 0, 0, 0, 0) := rfl
theorem k163_45 : Kc C163 45 = (.iconst 0, 0, 0, 0, 0) := rfl
theorem k163_46 : Kc C163 46 = (.iload_n 1, 1, 0, 0, 0) := rfl
theorem k163_47 : Kc C163 47 = (.iload_n 2, 2, 0, 0, 0) := rfl
theorem k163_48 : Kc C163 48 = (.invokevirtual 162, 155, 3, 27, 0) := rfl
theorem k163_51 : Kc C163 51 = (.aload_n 0, 0, 0, 0, 0) := rfl
theorem k163_52 : Kc C163 52 = (.iconst 0, 0, 0, 0, 0) := rfl
theorem k163_53 : Kc C163 53 = (.iload_n 1, 1, 0, 0, 0) := rfl
theorem k163_54 : Kc C163 54 = (.invokevirtual 126, 154, 2, 28, 0) := rfl
theorem k163_57 : Kc C163 57 = (.ireturn, 0, 0, 0, 0) := rfl
theorem ev163 (d : Nat) (x0 : Nat) (x1 : Int32) (x2 : Int32) (h : Hp) : EvM (d + 1) 163 [.ref x0, .int x1, .int x2] h = EvI (EvM d) C163 1 0 [.ref x0, .int x1, .int x2] [] h := rfl
theorem k164_0 : Kc C164 0 = (.aload_n 0, 0, 0, 0, 0) := rfl
theorem k164_1 : Kc C164 1 = (.iload_n 1, 1, 0, 0, 0) := rfl
theorem k164_2 : Kc C164 2 = (.invokevirtual 154, 151, 1, 29, 0) := rfl
theorem k164_5 : Kc C164 5 = (.ifCond .eq 15, 20, 0, 0, 0) := rfl
theorem k164_8 : Kc C164 8 = (.iload_n 2, 2, 0, 0, 0) := rfl
theorem k164_9 : Kc C164 9 = (.i2l, 0, 0, 0, 0) := rfl
theorem k164_10 : Kc C164 10 = (.lconst 1, 0, 0, 0, 1) := rfl
theorem k164_11 : Kc C164 11 = (.ldc2_w 157, 0, 0, 0, 999) := rfl
theorem k164_14 : Kc C164 14 = (.invokestatic 45, 131, 3, 29, 0) := rfl
theorem k164_17 : Kc C164 17 = (.ifCond .ne 6, 23, 0, 0, 0) := rfl
theorem k164_20 : Kc C164 20 = (.ldc 55, 0, 0, 0, (-1000001)) := rfl
theorem k164_22 : Kc C164 22 = (.ireturn, 0, 0, 0, 0) := rfl
theorem k164_23 : Kc C164 23 = (.aload_n 0, 0, 0, 0, 0) := rfl
theorem k164_24 : Kc C164 24 = (.invokevirtual 159, 161, 0, 27, 0) := rfl
theorem k164_27 : Kc C164 27 = (.aload_n 0, 0, 0, 0, 0) := rfl
theorem k164_28 : Kc C164 28 = (.iconst 0, 0, 0, 0, 0) := rfl
theorem k164_29 : Kc C164 29 = (.iload_n 1, 1, 0, 0, 0) := rfl
theorem k164_30 : Kc C164 30 = (.iload_n 2, 2, 0, 0, 0) := rfl
theorem k164_31 : Kc C164 31 = (.invokevirtual 146, 158, 3, 27, 0) := rfl
theorem k164_34 : Kc C164 34 = (.aload_n 0, 0, 0, 0, 0) := rfl
theorem k164_35 : Kc C164 35 = (.getfield 7, 9, 0, 0, 0) := rfl
theorem k164_38 : Kc C164 38 = (.iconst 0, 0, 0, 0, 0) := rfl
theorem k164_39 : Kc C164 39 = (.iload_n 1, 1, 0, 0, 0) := rfl
theorem k164_40 : Kc C164 40 = (.invokestatic 116, 153, 2, 28, 0) := rfl
theorem k164_43 : Kc C164 43 = (.iconst 0, 0, 0, 0, 0) := rfl
theorem k164_44 : Kc C164 44 = (.iadd, 0, 0, 0, 0) := rfl
theorem k164_45 : Kc C164 45 = (.iaload, 0, 0, 0, 0) := rfl
theorem k164_46 : Kc C164 46 = (.ireturn, 0, 0, 0, 0) := rfl
theorem ev164 (d : Nat) (x0 : Nat) (x1 : Int32) (x2 : Int32) (h : Hp) : EvM (d + 1) 164 [.ref x0, .int x1, .int x2] h = EvI (EvM d) C164 1 0 [.ref x0, .int x1, .int x2] [] h := rfl
theorem k165_0 : Kc C165 0 = (.aload_n 0, 0, 0, 0, 0) := rfl
theorem k165_1 : Kc C165 1 = (.iload_n 1, 1, 0, 0, 0) := rfl
theorem k165_2 : Kc C165 2 = (.invokevirtual 154, 151, 1, 29, 0) := rfl
theorem k165_5 : Kc C165 5 = (.ifCond .eq 45, 50, 0, 0, 0) := rfl
theorem k165_8 : Kc C165 8 = (.aload_n 0, 0, 0, 0, 0) := rfl
theorem k165_9 : Kc C165 9 = (.iload_n 2, 2, 0, 0, 0) := rfl
theorem k165_10 : Kc C165 10 = (.invokevirtual 154, 151, 1, 29, 0) := rfl
theorem k165_13 : Kc C165 13 = (.ifCond .eq 37, 50, 0, 0, 0) := rfl
theorem k165_16 : Kc C165 16 = (.iload_n 1, 1, 0, 0, 0) := rfl
theorem k165_17 : Kc C165 17 = (.iload_n 2, 2, 0, 0, 0) := rfl
theorem k165_18 : Kc C165 18 = (.if_icmp .eq 32, 50, 0, 0, 0) := rfl
theorem k165_21 : Kc C165 21 = (.iload_n 3, 3, 0, 0, 0) := rfl
theorem k165_22 : Kc C165 22 = (.i2l, 0, 0, 0, 0) := rfl
theorem k165_23 : Kc C165 23 = (.lconst 1, 0, 0, 0, 1) := rfl
theorem k165_24 : Kc C165 24 = (.ldc2_w 157, 0, 0, 0, 999) := rfl
theorem k165_27 : Kc C165 27 = (.invokestatic 45, 131, 3, 29, 0) := rfl
theorem k165_30 : Kc C165 30 = (.ifCond .eq 20, 50, 0, 0, 0) := rfl
theorem k165_33 : Kc C165 33 = (.iload 4, 4, 0, 0, 0) := rfl
theorem k165_35 : Kc C165 35 = (.i2l, 0, 0, 0, 0) := rfl
theorem k165_36 : Kc C165 36 = (.lconst 0, 0, 0, 0, 0) := rfl
theorem k165_37 : Kc C165 37 = (.ldc2_w 157, 0, 0, 0, 999) := rfl
theorem k165_40 : Kc C165 40 = (.invokestatic 45, 131, 3, 29, 0) := rfl
theorem k165_43 : Kc C165 43 = (.ifCond .eq 7, 50, 0, 0, 0) := rfl
theorem k165_46 : Kc C165 46 = (.iconst 1, 0, 0, 0, 1) := rfl
theorem k165_47 : Kc C165 47 = (.goto 4, 51, 0, 0, 0) := rfl
theorem k165_50 : Kc C165 50 = (.iconst 0, 0, 0, 0, 0) := rfl
theorem k165_51 : Kc C165 51 = (.ireturn, 0, 0, 0, 0) := rfl
theorem ev165 (d : Nat) (x0 : Nat) (x1 : Int32) (x2 : Int32) (x3 : Int32) (x4 : Int32) (h : Hp) : EvM (d + 1) 165 [.ref x0, .int x1, .int x2, .int x3, .int x4] h = EvI (EvM d) C165 2 0 [.ref x0, .int x1, .int x2, .int x3, .int x4] [] h := rfl
theorem k166_0 : Kc C166 0 = (.aload_n 0, 0, 0, 0, 0) := rfl
theorem k166_1 : Kc C166 1 = (.iload_n 1, 1, 0, 0, 0) := rfl
theorem k166_2 : Kc C166 2 = (.iload_n 2, 2, 0, 0, 0) := rfl
theorem k166_3 : Kc C166 3 = (.invokevirtual 126, 154, 2, 28, 0) := rfl
theorem k166_6 : Kc C166 6 = (.iload 4, 4, 0, 0, 0) := rfl
theorem k166_8 : Kc C166 8 = (.if_icmp .ge 8, 16, 0, 0, 0) := rfl
theorem k166_11 : Kc C166 11 = (.ldc 153, 0, 0, 0, (-1000002)) := rfl
theorem k166_13 : Kc C166 13 = (.goto 24, 37, 0, 0, 0) := rfl
theorem k166_16 : Kc C166 16 = (.aload_n 0, 0, 0, 0, 0) := rfl
theorem k166_17 : Kc C166 17 = (.iload_n 1, 1, 0, 0, 0) := rfl
theorem k166_18 : Kc C166 18 = (.iload_n 3, 3, 0, 0, 0) := rfl
theorem k166_19 : Kc C166 19 = (.invokevirtual 126, 154, 2, 28, 0) := rfl
theorem k166_22 : Kc C166 22 = (.iload 4, 4, 0, 0, 0) := rfl
theorem k166_24 : Kc C166 24 = (.iadd, 0, 0, 0, 0) := rfl
theorem k166_25 : Kc C166 25 = (.sipush 9999, 0, 0, 0, 9999) := rfl
theorem k166_28 : Kc C166 28 = (.if_icmp .le 8, 36, 0, 0, 0) := rfl
theorem k166_31 : Kc C166 31 = (.ldc 72, 0, 0, 0, (-1000003)) := rfl
theorem k166_33 : Kc C166 33 = (.goto 4, 37, 0, 0, 0) := rfl
theorem k166_36 : Kc C166 36 = (.iconst 0, 0, 0, 0, 0) := rfl
theorem k166_37 : Kc C166 37 = (.ireturn, 0, 0, 0, 0) := rfl
theorem ev166 (d : Nat) (x0 : Nat) (x1 : Int32) (x2 : Int32) (x3 : Int32) (x4 : Int32) (h : Hp) : EvM (d + 1) 166 [.ref x0, .int x1, .int x2, .int x3, .int x4] h = EvI (EvM d) C166 1 0 [.ref x0, .int x1, .int x2, .int x3, .int x4] [] h := rfl
theorem k167_0 : Kc C167 0 = (.aload_n 0, 0, 0, 0, 0) := rfl
theorem k167_1 : Kc C167 1 = (.iload_n 1, 1, 0, 0, 0) := rfl
theorem k167_2 : Kc C167 2 = (.iload_n 2, 2, 0, 0, 0) := rfl
theorem k167_3 : Kc C167 3 = (.iload 4, 4, 0, 0, 0) := rfl
theorem k167_5 : Kc C167 5 = (.invokevirtual 129, 157, 3, 27, 0) := rfl
theorem k167_8 : Kc C167 8 = (.aload_n 0, 0, 0, 0, 0) := rfl
theorem k167_9 : Kc C167 9 = (.iload_n 1, 1, 0, 0, 0) := rfl
theorem k167_10 : Kc C167 10 = (.iload_n 3, 3, 0, 0, 0) := rfl
theorem k167_11 : Kc C167 11 = (.iload 4, 4, 0, 0, 0) := rfl
theorem k167_13 : Kc C167 13 = (.invokevirtual 162, 155, 3, 27, 0) := rfl
theorem k167_16 : Kc C167 16 = (.aload_n 0, 0, 0, 0, 0) := rfl
theorem k167_17 : Kc C167 17 = (.getfield 7, 9, 0, 0, 0) := rfl
theorem k167_20 : Kc C167 20 = (.iload_n 1, 1, 0, 0, 0) := rfl
theorem k167_21 : Kc C167 21 = (.iload_n 2, 2, 0, 0, 0) := rfl
theorem k167_22 : Kc C167 22 = (.invokestatic 116, 153, 2, 28, 0) := rfl
theorem k167_25 : Kc C167 25 = (.iconst 1, 0, 0, 0, 1) := rfl
theorem k167_26 : Kc C167 26 = (.iadd, 0, 0, 0, 0) := rfl
theorem k167_27 : Kc C167 27 = (.dup2, 0, 0, 0, 0) := rfl
theorem k167_28 : Kc C167 28 = (.iaload, 0, 0, 0, 0) := rfl
theorem k167_29 : Kc C167 29 = (.iload 5, 5, 0, 0, 0) := rfl
theorem k167_31 : Kc C167 31 = (.iadd, 0, 0, 0, 0) := rfl
theorem k167_32 : Kc C167 32 = (.iastore, 0, 0, 0, 0) := rfl
theorem k167_33 : Kc C167 33 = (.aload_n 0, 0, 0, 0, 0) := rfl
theorem k167_34 : Kc C167 34 = (.getfield 7, 9, 0, 0, 0) := rfl
theorem k167_37 : Kc C167 37 = (.iload_n 1, 1, 0, 0, 0) := rfl
theorem k167_38 : Kc C167 38 = (.iload_n 3, 3, 0, 0, 0) := rfl
theorem k167_39 : Kc C167 39 = (.invokestatic 116, 153, 2, 28, 0) := rfl
theorem k167_42 : Kc C167 42 = (.iconst 1, 0, 0, 0, 1) := rfl
theorem k167_43 : Kc C167 43 = (.iadd, 0, 0, 0, 0) := rfl
theorem k167_44 : Kc C167 44 = (.dup2, 0, 0, 0, 0) := rfl
theorem k167_45 : Kc C167 45 = (.iaload, 0, 0, 0, 0) := rfl
theorem k167_46 : Kc C167 46 = (.iload 5, 5, 0, 0, 0) := rfl
theorem k167_48 : Kc C167 48 = (.isub, 0, 0, 0, 0) := rfl
theorem k167_49 : Kc C167 49 = (.iastore, 0, 0, 0, 0) := rfl
theorem k167_50 : Kc C167 50 = (.return_, 0, 0, 0, 0) := rfl
theorem ev167 (d : Nat) (x0 : Nat) (x1 : Int32) (x2 : Int32) (x3 : Int32) (x4 : Int32) (x5 : Int32) (h : Hp) : EvM (d + 1) 167 [.ref x0, .int x1, .int x2, .int x3, .int x4, .int x5] h = EvI (EvM d) C167 0 0 [.ref x0, .int x1, .int x2, .int x3, .int x4, .int x5] [] h := rfl
theorem k168_0 : Kc C168 0 = (.aload_n 0, 0, 0, 0, 0) := rfl
theorem k168_1 : Kc C168 1 = (.iload_n 1, 1, 0, 0, 0) := rfl
theorem k168_2 : Kc C168 2 = (.iload_n 2, 2, 0, 0, 0) := rfl
theorem k168_3 : Kc C168 3 = (.iload_n 3, 3, 0, 0, 0) := rfl
theorem k168_4 : Kc C168 4 = (.iload 4, 4, 0, 0, 0) := rfl
theorem k168_6 : Kc C168 6 = (.invokevirtual 165, 165, 4, 29, 0) := rfl
theorem k168_9 : Kc C168 9 = (.ifCond .ne 6, 15, 0, 0, 0) := rfl
theorem k168_12 : Kc C168 12 = (.ldc 55, 0, 0, 0, (-1000001)) := rfl
theorem k168_14 : Kc C168 14 = (.ireturn, 0, 0, 0, 0) := rfl
theorem k168_15 : Kc C168 15 = (.aload_n 0, 0, 0, 0, 0) := rfl
theorem k168_16 : Kc C168 16 = (.iconst 0, 0, 0, 0, 0) := rfl
theorem k168_17 : Kc C168 17 = (.iload_n 1, 1, 0, 0, 0) := rfl
theorem k168_18 : Kc C168 18 = (.iload_n 2, 2, 0, 0, 0) := rfl
theorem k168_19 : Kc C168 19 = (.iload_n 3, 3, 0, 0, 0) := rfl
theorem k168_20 : Kc C168 20 = (.invokevirtual 169, 166, 4, 28, 0) := rfl
theorem k168_23 : Kc C168 23 = (.istore 5, 5, 0, 0, 0) := rfl
theorem k168_25 : Kc C168 25 = (.iload 5, 5, 0, 0, 0) := rfl
theorem k168_27 : Kc C168 27 = (.ifCond .eq 6, 33, 0, 0, 0) := rfl
theorem k168_30 : Kc C168 30 = (.iload 5, 5, 0, 0, 0) := rfl
theorem k168_32 : Kc C168 32 = (.ireturn, 0, 0, 0, 0) := rfl
theorem k168_33 : Kc C168 33 = (.aload_n 0, 0, 0, 0, 0) := rfl
theorem k168_34 : Kc C168 34 = (.invokevirtual 159, 161, 0, 27, 0) := rfl
theorem k168_37 : Kc C168 37 = (.aload_n 0, 0, 0, 0, 0) := rfl
theorem k168_38 : Kc C168 38 = (.iconst 0, 0, 0, 0, 0) := rfl
theorem k168_39 : Kc C168 39 = (.iload_n 1, 1, 0, 0, 0) := rfl
theorem k168_40 : Kc C168 40 = (.iload_n 2, 2, 0, 0, 0) := rfl
theorem k168_41 : Kc C168 41 = (.iload_n 3, 3, 0, 0, 0) := rfl
theorem k168_42 : Kc C168 42 = (.iload 4, 4, 0, 0, 0) := rfl
theorem k168_44 : Kc C168 44 = (.invokevirtual 173, 167, 5, 27, 0) := rfl
theorem k168_47 : Kc C168 47 = (.aload_n 0, 0, 0, 0, 0) := rfl
theorem k168_48 : Kc C168 48 = (.iconst 0, 0, 0, 0, 0) := rfl
theorem k168_49 : Kc C168 49 = (.iload_n 2, 2, 0, 0, 0) := rfl
theorem k168_50 : Kc C168 50 = (.invokevirtual 126, 154, 2, 28, 0) := rfl
theorem k168_53 : Kc C168 53 = (.ireturn, 0, 0, 0, 0) := rfl
theorem ev168 (d : Nat) (x0 : Nat) (x1 : Int32) (x2 : Int32) (x3 : Int32) (x4 : Int32) (h : Hp) : EvM (d + 1) 168 [.ref x0, .int x1, .int x2, .int x3, .int x4] h = EvI (EvM d) C168 1 0 [.ref x0, .int x1, .int x2, .int x3, .int x4, jk] [] h := rfl
theorem k169_0 : Kc C169 0 = (.aload_n 0, 0, 0, 0, 0) := rfl
theorem k169_1 : Kc C169 1 = (.iload_n 1, 1, 0, 0, 0) := rfl
theorem k169_2 : Kc C169 2 = (.invokevirtual 154, 151, 1, 29, 0) := rfl
theorem k169_5 : Kc C169 5 = (.ifCond .eq 15, 20, 0, 0, 0) := rfl
theorem k169_8 : Kc C169 8 = (.iload_n 2, 2, 0, 0, 0) := rfl
theorem k169_9 : Kc C169 9 = (.i2l, 0, 0, 0, 0) := rfl
theorem k169_10 : Kc C169 10 = (.lconst 1, 0, 0, 0, 1) := rfl
theorem k169_11 : Kc C169 11 = (.ldc2_w 157, 0, 0, 0, 999) := rfl
theorem k169_14 : Kc C169 14 = (.invokestatic 45, 131, 3, 29, 0) := rfl
theorem k169_17 : Kc C169 17 = (.ifCond .ne 6, 23, 0, 0, 0) := rfl
theorem k169_20 : Kc C169 20 = (.ldc 55, 0, 0, 0, (-1000001)) := rfl
theorem k169_22 : Kc C169 22 = (.ireturn, 0, 0, 0, 0) := rfl
theorem k169_23 : Kc C169 23 = (.aload_n 0, 0, 0, 0, 0) := rfl
theorem k169_24 : Kc C169 24 = (.iconst 0, 0, 0, 0, 0) := rfl
theorem k169_25 : Kc C169 25 = (.iload_n 1, 1, 0, 0, 0) := rfl
theorem k169_26 : Kc C169 26 = (.invokevirtual 126, 154, 2, 28, 0) := rfl
theorem k169_29 : Kc C169 29 = (.iload_n 2, 2, 0, 0, 0) := rfl
theorem k169_30 : Kc C169 30 = (.if_icmp .lt 19, 49, 0, 0, 0) := rfl
theorem k169_33 : Kc C169 33 = (.aload_n 0, 0, 0, 0, 0) := rfl
theorem k169_34 : Kc C169 34 = (.getfield 7, 9, 0, 0, 0) := rfl
theorem k169_37 : Kc C169 37 = (.iconst 0, 0, 0, 0, 0) := rfl
theorem k169_38 : Kc C169 38 = (.iload_n 1, 1, 0, 0, 0) := rfl
theorem k169_39 : Kc C169 39 = (.invokestatic 116, 153, 2, 28, 0) := rfl
theorem k169_42 : Kc C169 42 = (.iconst 0, 0, 0, 0, 0) := rfl
theorem k169_43 : Kc C169 43 = (.iadd, 0, 0, 0, 0) := rfl
theorem k169_44 : Kc C169 44 = (.iaload, 0, 0, 0, 0) := rfl
theorem k169_45 : Kc C169 45 = (.iload_n 2, 2, 0, 0, 0) := rfl
theorem k169_46 : Kc C169 46 = (.if_icmp .ge 6, 52, 0, 0, 0) := rfl
theorem k169_49 : Kc C169 49 = (.ldc 153, 0, 0, 0, (-1000002)) := rfl
theorem k169_51 : Kc C169 51 = (.ireturn, 0, 0, 0, 0) := rfl
theorem k169_52 : Kc C169 52 = (.aload_n 0, 0, 0, 0, 0) := rfl
theorem k169_53 : Kc C169 53 = (.invokevirtual 159, 161, 0, 27, 0) := rfl
theorem k169_56 : Kc C169 56 = (.aload_n 0, 0, 0, 0, 0) := rfl
theorem k169_57 : Kc C169 57 = (.iconst 0, 0, 0, 0, 0) := rfl
theorem k169_58 : Kc C169 58 = (.iload_n 1, 1, 0, 0, 0) := rfl
theorem k169_59 : Kc C169 59 = (.iload_n 2, 2, 0, 0, 0) := rfl
theorem k169_60 : Kc C169 60 = (.invokevirtual 129, 157, 3, 27, 0) := rfl
theorem k169_63 : Kc C169 63 = (.aload_n 0, 0, 0, 0, 0) := rfl
theorem k169_64 : Kc C169 64 = (.getfield 7, 9, 0, 0, 0) := rfl
theorem k169_67 : Kc C169 67 = (.iconst 0, 0, 0, 0, 0) := rfl
theorem k169_68 : Kc C169 68 = (.iload_n 1, 1, 0, 0, 0) := rfl
theorem k169_69 : Kc C169 69 = (.invokestatic 116, 153, 2, 28, 0) := rfl
theorem k169_72 : Kc C169 72 = (.iconst 0, 0, 0, 0, 0) := rfl
theorem k169_73 : Kc C169 73 = (.iadd, 0, 0, 0, 0) := rfl
theorem k169_74 : Kc C169 74 = (.dup2, 0, 0, 0, 0) := rfl
theorem k169_75 : Kc C169 75 = (.iaload, 0, 0, 0, 0) := rfl
theorem k169_76 : Kc C169 76 = (.iload_n 2, 2, 0, 0, 0) := rfl
theorem k169_77 : Kc C169 77 = (.isub, 0, 0, 0, 0) := rfl
theorem k169_78 : Kc C169 78 = (.iastore, 0, 0, 0, 0) := rfl
theorem k169_79 : Kc C169 79 = (.aload_n 0, 0, 0, 0, 0) := rfl
theorem k169_80 : Kc C169 80 = (.getfield 7, 9, 0, 0, 0) := rfl
theorem k169_83 : Kc C169 83 = (.iconst 0, 0, 0, 0, 0) := rfl
theorem k169_84 : Kc C169 84 = (.iload_n 1, 1, 0, 0, 0) := rfl
theorem k169_85 : Kc C169 85 = (.invokestatic 116, 153, 2, 28, 0) := rfl
theorem k169_88 : Kc C169 88 = (.iconst 0, 0, 0, 0, 0) := rfl
theorem k169_89 : Kc C169 89 = (.iadd, 0, 0, 0, 0) := rfl
theorem k169_90 : Kc C169 90 = (.iaload, 0, 0, 0, 0) := rfl
theorem k169_91 : Kc C169 91 = (.ireturn, 0, 0, 0, 0) := rfl
theorem ev169 (d : Nat) (x0 : Nat) (x1 : Int32) (x2 : Int32) (h : Hp) : EvM (d + 1) 169 [.ref x0, .int x1, .int x2] h = EvI (EvM d) C169 1 0 [.ref x0, .int x1, .int x2] [] h := rfl
theorem k170_0 : Kc C170 0 = (.aload_n 0, 0, 0, 0, 0) := rfl
theorem k170_1 : Kc C170 1 = (.iload_n 1, 1, 0, 0, 0) := rfl
theorem k170_2 : Kc C170 2 = (.invokevirtual 154, 151, 1, 29, 0) := rfl
theorem k170_5 : Kc C170 5 = (.ifCond .eq 16, 21, 0, 0, 0) := rfl
theorem k170_8 : Kc C170 8 = (.aload_n 0, 0, 0, 0, 0) := rfl
theorem k170_9 : Kc C170 9 = (.iload_n 2, 2, 0, 0, 0) := rfl
theorem k170_10 : Kc C170 10 = (.invokevirtual 154, 151, 1, 29, 0) := rfl
theorem k170_13 : Kc C170 13 = (.ifCond .eq 8, 21, 0, 0, 0) := rfl
theorem k170_16 : Kc C170 16 = (.iload_n 1, 1, 0, 0, 0) := rfl
theorem k170_17 : Kc C170 17 = (.iload_n 2, 2, 0, 0, 0) := rfl
theorem k170_18 : Kc C170 18 = (.if_icmp .ne 6, 24, 0, 0, 0) := rfl
theorem k170_21 : Kc C170 21 = (.ldc 55, 0, 0, 0, (-1000001)) := rfl
theorem k170_23 : Kc C170 23 = (.ireturn, 0, 0, 0, 0) := rfl
theorem k170_24 : Kc C170 24 = (.aload_n 0, 0, 0, 0, 0) := rfl
theorem k170_25 : Kc C170 25 = (.iconst 0, 0, 0, 0, 0) := rfl
theorem k170_26 : Kc C170 26 = (.iload_n 1, 1, 0, 0, 0) := rfl
theorem k170_27 : Kc C170 27 = (.invokevirtual 126, 154, 2, 28, 0) := rfl
theorem k170_30 : Kc C170 30 = (.aload_n 0, 0, 0, 0, 0) := rfl
theorem k170_31 : Kc C170 31 = (.iconst 0, 0, 0, 0, 0) := rfl
theorem k170_32 : Kc C170 32 = (.iload_n 2, 2, 0, 0, 0) := rfl
theorem k170_33 : Kc C170 33 = (.invokevirtual 126, 154, 2, 28, 0) := rfl
theorem k170_36 : Kc C170 36 = (.iadd, 0, 0, 0, 0) := rfl
theorem k170_37 : Kc C170 37 = (.sipush 9999, 0, 0, 0, 9999) := rfl
theorem k170_40 : Kc C170 40 = (.if_icmp .le 6, 46, 0, 0, 0) := rfl
theorem k170_43 : Kc C170 43 = (.ldc 72, 0, 0, 0, (-1000003)) := rfl
theorem k170_45 : Kc C170 45 = (.ireturn, 0, 0, 0, 0) := rfl
theorem k170_46 : Kc C170 46 = (.aload_n 0, 0, 0, 0, 0) := rfl
theorem k170_47 : Kc C170 47 = (.invokevirtual 159, 161, 0, 27, 0) := rfl
theorem k170_50 : Kc C170 50 = (.iconst 0, 0, 0, 0, 0) := rfl
theorem k170_51 : Kc C170 51 = (.iload_n 1, 1, 0, 0, 0) := rfl
theorem k170_52 : Kc C170 52 = (.invokestatic 116, 153, 2, 28, 0) := rfl
theorem k170_55 : Kc C170 55 = (.istore_n 3, 3, 0, 0, 0) := rfl
theorem k170_56 : Kc C170 56 = (.iconst 0, 0, 0, 0, 0) := rfl
theorem k170_57 : Kc C170 57 = (.istore 4, 4, 0, 0, 0) := rfl
theorem k170_59 : Kc C170 59 = (.iload 4, 4, 0, 0, 0) := rfl
theorem k170_61 : Kc C170 61 = (.aload_n 0, 0, 0, 0, 0) := rfl
theorem k170_62 : Kc C170 62 = (.getfield 7, 9, 0, 0, 0) := rfl
theorem k170_65 : Kc C170 65 = (.iload_n 3, 3, 0, 0, 0) := rfl
theorem k170_66 : Kc C170 66 = (.iconst 3, 0, 0, 0, 3) := rfl
theorem k170_67 : Kc C170 67 = (.iadd, 0, 0, 0, 0) := rfl
theorem k170_68 : Kc C170 68 = (.iaload, 0, 0, 0, 0) := rfl
theorem k170_69 : Kc C170 69 = (.if_icmp .ge 42, 111, 0, 0, 0) := rfl
theorem k170_72 : Kc C170 72 = (.aload_n 0, 0, 0, 0, 0) := rfl
theorem k170_73 : Kc C170 73 = (.iconst 0, 0, 0, 0, 0) := rfl
theorem k170_74 : Kc C170 74 = (.iload_n 2, 2, 0, 0, 0) := rfl
theorem k170_75 : Kc C170 75 = (.aload_n 0, 0, 0, 0, 0) := rfl
theorem k170_76 : Kc C170 76 = (.getfield 7, 9, 0, 0, 0) := rfl
theorem k170_79 : Kc C170 79 = (.iload_n 3, 3, 0, 0, 0) := rfl
theorem k170_80 : Kc C170 80 = (.iconst 4, 0, 0, 0, 4) := rfl
theorem k170_81 : Kc C170 81 = (.iadd, 0, 0, 0, 0) := rfl
theorem k170_82 : Kc C170 82 = (.iconst 2, 0, 0, 0, 2) := rfl
theorem k170_83 : Kc C170 83 = (.iload 4, 4, 0, 0, 0) := rfl
theorem k170_85 : Kc C170 85 = (.imul, 0, 0, 0, 0) := rfl
theorem k170_86 : Kc C170 86 = (.iadd, 0, 0, 0, 0) := rfl
theorem k170_87 : Kc C170 87 = (.iaload, 0, 0, 0, 0) := rfl
theorem k170_88 : Kc C170 88 = (.invokevirtual 162, 155, 3, 27, 0) := rfl
theorem k170_91 : Kc C170 91 = (.aload_n 0, 0, 0, 0, 0) := rfl
theorem k170_92 : Kc C170 92 = (.getfield 7, 9, 0, 0, 0) := rfl
theorem k170_95 : Kc C170 95 = (.iload_n 3, 3, 0, 0, 0) := rfl
theorem k170_96 : Kc C170 96 = (.iconst 4, 0, 0, 0, 4) := rfl
theorem k170_97 : Kc C170 97 = (.iadd, 0, 0, 0, 0) := rfl
theorem k170_98 : Kc C170 98 = (.iconst 2, 0, 0, 0, 2) := rfl
theorem k170_99 : Kc C170 99 = (.iload 4, 4, 0, 0, 0) := rfl
theorem k170_101 : Kc C170 101 = (.imul, 0, 0, 0, 0) := rfl
theorem k170_102 : Kc C170 102 = (.iadd, 0, 0, 0, 0) := rfl
theorem k170_103 : Kc C170 103 = (.iconst 0, 0, 0, 0, 0) := rfl
theorem k170_104 : Kc C170 104 = (.iastore, 0, 0, 0, 0) := rfl
theorem k170_105 : Kc C170 105 = (.iinc 4 1, 4, 0, 0, 1) := rfl
theorem k170_108 : Kc C170 108 = (.goto (-49), 59, 0, 0, 0) := rfl
theorem k170_111 : Kc C170 111 = (.aload_n 0, 0, 0, 0, 0) := rfl
theorem k170_112 : Kc C170 112 = (.iconst 0, 0, 0, 0, 0) := rfl
theorem k170_113 : Kc C170 113 = (.iload_n 1, 1, 0, 0, 0) := rfl
theorem k170_114 : Kc C170 114 = (.invokevirtual 122, 156, 2, 27, 0) := rfl
theorem k170_117 : Kc C170 117 = (.aload_n 0, 0, 0, 0, 0) := rfl
theorem k170_118 : Kc C170 118 = (.getfield 7, 9, 0, 0, 0) := rfl
theorem k170_121 : Kc C170 121 = (.iconst 0, 0, 0, 0, 0) := rfl
theorem k170_122 : Kc C170 122 = (.iload_n 2, 2, 0, 0, 0) := rfl
theorem k170_123 : Kc C170 123 = (.invokestatic 116, 153, 2, 28, 0) := rfl
theorem k170_126 : Kc C170 126 = (.iconst 1, 0, 0, 0, 1) := rfl
theorem k170_127 : Kc C170 127 = (.iadd, 0, 0, 0, 0) := rfl
theorem k170_128 : Kc C170 128 = (.dup2, 0, 0, 0, 0) := rfl
theorem k170_129 : Kc C170 129 = (.iaload, 0, 0, 0, 0) := rfl
theorem k170_130 : Kc C170 130 = (.aload_n 0, 0, 0, 0, 0) := rfl
theorem k170_131 : Kc C170 131 = (.getfield 7, 9, 0, 0, 0) := rfl
theorem k170_134 : Kc C170 134 = (.iload_n 3, 3, 0, 0, 0) := rfl
theorem k170_135 : Kc C170 135 = (.iconst 1, 0, 0, 0, 1) := rfl
theorem k170_136 : Kc C170 136 = (.iadd, 0, 0, 0, 0) := rfl
theorem k170_137 : Kc C170 137 = (.iaload, 0, 0, 0, 0) := rfl
theorem k170_138 : Kc C170 138 = (.iadd, 0, 0, 0, 0) := rfl
theorem k170_139 : Kc C170 139 = (.iastore, 0, 0, 0, 0) := rfl
theorem k170_140 : Kc C170 140 = (.aload_n 0, 0, 0, 0, 0) := rfl
theorem k170_141 : Kc C170 141 = (.getfield 7, 9, 0, 0, 0) := rfl
theorem k170_144 : Kc C170 144 = (.iload_n 3, 3, 0, 0, 0) := rfl
theorem k170_145 : Kc C170 145 = (.iconst 1, 0, 0, 0, 1) := rfl
theorem k170_146 : Kc C170 146 = (.iadd, 0, 0, 0, 0) := rfl
theorem k170_147 : Kc C170 147 = (.iconst 0, 0, 0, 0, 0) := rfl
theorem k170_148 : Kc C170 148 = (.iastore, 0, 0, 0, 0) := rfl
theorem k170_149 : Kc C170 149 = (.aload_n 0, 0, 0, 0, 0) := rfl
theorem k170_150 : Kc C170 150 = (.getfield 7, 9, 0, 0, 0) := rfl
theorem k170_153 : Kc C170 153 = (.iload_n 3, 3, 0, 0, 0) := rfl
theorem k170_154 : Kc C170 154 = (.iconst 0, 0, 0, 0, 0) := rfl
theorem k170_155 : Kc C170 155 = (.iadd, 0, 0, 0, 0) := rfl
theorem k170_156 : Kc C170 156 = (.iconst 0, 0, 0, 0, 0) := rfl
theorem k170_157 : Kc C170 157 = (.iastore, 0, 0, 0, 0) := rfl
theorem k170_158 : Kc C170 158 = (.aload_n 0, 0, 0, 0, 0) := rfl
theorem k170_159 : Kc C170 159 = (.iconst 0, 0, 0, 0, 0) := rfl
theorem k170_160 : Kc C170 160 = (.iload_n 2, 2, 0, 0, 0) := rfl
theorem k170_161 : Kc C170 161 = (.invokevirtual 126, 154, 2, 28, 0) := rfl
theorem k170_164 : Kc C170 164 = (.ireturn, 0, 0, 0, 0) := rfl
theorem ev170 (d : Nat) (x0 : Nat) (x1 : Int32) (x2 : Int32) (h : Hp) : EvM (d + 1) 170 [.ref x0, .int x1, .int x2] h = EvI (EvM d) C170 1 0 [.ref x0, .int x1, .int x2, jk, jk] [] h := rfl
theorem k171_0 : Kc C171 0 = (.aload_n 0, 0, 0, 0, 0) := rfl
theorem k171_1 : Kc C171 1 = (.iload_n 1, 1, 0, 0, 0) := rfl
theorem k171_2 : Kc C171 2 = (.invokevirtual 154, 151, 1, 29, 0) := rfl
theorem k171_5 : Kc C171 5 = (.ifCond .ne 6, 11, 0, 0, 0) := rfl
theorem k171_8 : Kc C171 8 = (.ldc 55, 0, 0, 0, (-1000001)) := rfl
theorem k171_10 : Kc C171 10 = (.ireturn, 0, 0, 0, 0) := rfl
theorem k171_11 : Kc C171 11 = (.aload_n 0, 0, 0, 0, 0) := rfl
theorem k171_12 : Kc C171 12 = (.invokevirtual 159, 161, 0, 27, 0) := rfl
theorem k171_15 : Kc C171 15 = (.aload_n 0, 0, 0, 0, 0) := rfl
theorem k171_16 : Kc C171 16 = (.getfield 7, 9, 0, 0, 0) := rfl
theorem k171_19 : Kc C171 19 = (.iconst 0, 0, 0, 0, 0) := rfl
theorem k171_20 : Kc C171 20 = (.iload_n 1, 1, 0, 0, 0) := rfl
theorem k171_21 : Kc C171 21 = (.invokestatic 116, 153, 2, 28, 0) := rfl
theorem k171_24 : Kc C171 24 = (.iconst 0, 0, 0, 0, 0) := rfl
theorem k171_25 : Kc C171 25 = (.iadd, 0, 0, 0, 0) := rfl
theorem k171_26 : Kc C171 26 = (.iaload, 0, 0, 0, 0) := rfl
theorem k171_27 : Kc C171 27 = (.istore_n 2, 2, 0, 0, 0) := rfl
theorem k171_28 : Kc C171 28 = (.aload_n 0, 0, 0, 0, 0) := rfl
theorem k171_29 : Kc C171 29 = (.getfield 7, 9, 0, 0, 0) := rfl
theorem k171_32 : Kc C171 32 = (.iconst 0, 0, 0, 0, 0) := rfl
theorem k171_33 : Kc C171 33 = (.iload_n 1, 1, 0, 0, 0) := rfl
theorem k171_34 : Kc C171 34 = (.invokestatic 116, 153, 2, 28, 0) := rfl
theorem k171_37 : Kc C171 37 = (.iconst 0, 0, 0, 0, 0) := rfl
theorem k171_38 : Kc C171 38 = (.iadd, 0, 0, 0, 0) := rfl
theorem k171_39 : Kc C171 39 = (.iconst 0, 0, 0, 0, 0) := rfl
theorem k171_40 : Kc C171 40 = (.iastore, 0, 0, 0, 0) := rfl
theorem k171_41 : Kc C171 41 = (.iload_n 2, 2, 0, 0, 0) := rfl
theorem k171_42 : Kc C171 42 = (.ireturn, 0, 0, 0, 0) := rfl
theorem ev171 (d : Nat) (x0 : Nat) (x1 : Int32) (h : Hp) : EvM (d + 1) 171 [.ref x0, .int x1] h = EvI (EvM d) C171 1 0 [.ref x0, .int x1, jk] [] h := rfl
theorem k172_0 : Kc C172 0 = (.iload_n 0, 0, 0, 0, 0) := rfl
theorem k172_1 : Kc C172 1 = (.i2l, 0, 0, 0, 0) := rfl
theorem k172_2 : Kc C172 2 = (.lconst 1, 0, 0, 0, 1) := rfl
theorem k172_3 : Kc C172 3 = (.ldc2_w 177, 0, 0, 0, 999999) := rfl
theorem k172_6 : Kc C172 6 = (.invokestatic 45, 131, 3, 29, 0) := rfl
theorem k172_9 : Kc C172 9 = (.ireturn, 0, 0, 0, 0) := rfl
theorem ev172 (d : Nat) (x0 : Int32) (h : Hp) : EvM (d + 1) 172 [.int x0] h = EvI (EvM d) C172 2 0 [.int x0] [] h := rfl
theorem k173_0 : Kc C173 0 = (.aload_n 0, 0, 0, 0, 0) := rfl
theorem k173_1 : Kc C173 1 = (.getfield 7, 9, 0, 0, 0) := rfl
theorem k173_4 : Kc C173 4 = (.iconst 0, 0, 0, 0, 0) := rfl
theorem k173_5 : Kc C173 5 = (.iaload, 0, 0, 0, 0) := rfl
theorem k173_6 : Kc C173 6 = (.ifCond .ne 6, 12, 0, 0, 0) := rfl
theorem k173_9 : Kc C173 9 = (.ldc 153, 0, 0, 0, (-1000002)) := rfl
theorem k173_11 : Kc C173 11 = (.ireturn, 0, 0, 0, 0) := rfl
theorem k173_12 : Kc C173 12 = (.iload_n 1, 1, 0, 0, 0) := rfl
theorem k173_13 : Kc C173 13 = (.invokestatic 179, 172, 1, 29, 0) := rfl
theorem k173_16 : Kc C173 16 = (.ifCond .ne 6, 22, 0, 0, 0) := rfl
theorem k173_19 : Kc C173 19 = (.ldc 55, 0, 0, 0, (-1000001)) := rfl
theorem k173_21 : Kc C173 21 = (.ireturn, 0, 0, 0, 0) := rfl
theorem k173_22 : Kc C173 22 = (.aload_n 0, 0, 0, 0, 0) := rfl
theorem k173_23 : Kc C173 23 = (.getfield 7, 9, 0, 0, 0) := rfl
theorem k173_26 : Kc C173 26 = (.bipush 22, 0, 0, 0, 22) := rfl
theorem k173_28 : Kc C173 28 = (.iaload, 0, 0, 0, 0) := rfl
theorem k173_29 : Kc C173 29 = (.sipush 999, 0, 0, 0, 999) := rfl
theorem k173_32 : Kc C173 32 = (.if_icmp .ne 6, 38, 0, 0, 0) := rfl
theorem k173_35 : Kc C173 35 = (.ldc 72, 0, 0, 0, (-1000003)) := rfl
theorem k173_37 : Kc C173 37 = (.ireturn, 0, 0, 0, 0) := rfl
theorem k173_38 : Kc C173 38 = (.aload_n 0, 0, 0, 0, 0) := rfl
theorem k173_39 : Kc C173 39 = (.invokevirtual 159, 161, 0, 27, 0) := rfl
theorem k173_42 : Kc C173 42 = (.aload_n 0, 0, 0, 0, 0) := rfl
theorem k173_43 : Kc C173 43 = (.iload_n 1, 1, 0, 0, 0) := rfl
theorem k173_44 : Kc C173 44 = (.i2l, 0, 0, 0, 0) := rfl
theorem k173_45 : Kc C173 45 = (.putfield 136, 9, 17, 0, 0) := rfl
theorem k173_48 : Kc C173 48 = (.aload_n 0, 0, 0, 0, 0) := rfl
theorem k173_49 : Kc C173 49 = (.iconst 0, 0, 0, 0, 0) := rfl
theorem k173_50 : Kc C173 50 = (.invokevirtual 182, 160, 1, 27, 0) := rfl
theorem k173_53 : Kc C173 53 = (.aload_n 0, 0, 0, 0, 0) := rfl
theorem k173_54 : Kc C173 54 = (.getfield 133, 9, 18, 0, 0) := rfl
theorem k173_57 : Kc C173 57 = (.ireturn, 0, 0, 0, 0) := rfl
theorem ev173 (d : Nat) (x0 : Nat) (x1 : Int32) (h : Hp) : EvM (d + 1) 173 [.ref x0, .int x1] h = EvI (EvM d) C173 1 0 [.ref x0, .int x1] [] h := rfl
theorem k174_0 : Kc C174 0 = (.aload_n 0, 0, 0, 0, 0) := rfl
theorem k174_1 : Kc C174 1 = (.iload_n 1, 1, 0, 0, 0) := rfl
theorem k174_2 : Kc C174 2 = (.invokevirtual 154, 151, 1, 29, 0) := rfl
theorem k174_5 : Kc C174 5 = (.ifCond .ne 6, 11, 0, 0, 0) := rfl
theorem k174_8 : Kc C174 8 = (.ldc 55, 0, 0, 0, (-1000001)) := rfl
theorem k174_10 : Kc C174 10 = (.ireturn, 0, 0, 0, 0) := rfl
theorem k174_11 : Kc C174 11 = (.iload_n 2, 2, 0, 0, 0) := rfl
theorem k174_12 : Kc C174 12 = (.tableswitch 94 0 6 #[44, 51, 51, 51, 66, 66, 81], 0, 0, 0, 0) := rfl
theorem k174_56 : Kc C174 56 = (.aload_n 0, 0, 0, 0, 0) := rfl
theorem k174_57 : Kc C174 57 = (.iconst 0, 0, 0, 0, 0) := rfl
theorem k174_58 : Kc C174 58 = (.iload_n 1, 1, 0, 0, 0) := rfl
theorem k174_59 : Kc C174 59 = (.invokevirtual 126, 154, 2, 28, 0) := rfl
theorem k174_62 : Kc C174 62 = (.ireturn, 0, 0, 0, 0) := rfl
theorem k174_63 : Kc C174 63 = (.aload_n 0, 0, 0, 0, 0) := rfl
theorem k174_64 : Kc C174 64 = (.getfield 7, 9, 0, 0, 0) := rfl
theorem k174_67 : Kc C174 67 = (.iconst 0, 0, 0, 0, 0) := rfl
theorem k174_68 : Kc C174 68 = (.iload_n 1, 1, 0, 0, 0) := rfl
theorem k174_69 : Kc C174 69 = (.invokestatic 116, 153, 2, 28, 0) := rfl
theorem k174_72 : Kc C174 72 = (.iload_n 2, 2, 0, 0, 0) := rfl
theorem k174_73 : Kc C174 73 = (.iadd, 0, 0, 0, 0) := rfl
theorem k174_74 : Kc C174 74 = (.iconst 1, 0, 0, 0, 1) := rfl
theorem k174_75 : Kc C174 75 = (.isub, 0, 0, 0, 0) := rfl
theorem k174_76 : Kc C174 76 = (.iaload, 0, 0, 0, 0) := rfl
theorem k174_77 : Kc C174 77 = (.ireturn, 0, 0, 0, 0) := rfl
theorem k174_78 : Kc C174 78 = (.aload_n 0, 0, 0, 0, 0) := rfl
theorem k174_79 : Kc C174 79 = (.getfield 7, 9, 0, 0, 0) := rfl
theorem k174_82 : Kc C174 82 = (.iconst 4, 0, 0, 0, 4) := rfl
theorem k174_83 : Kc C174 83 = (.iconst 3, 0, 0, 0, 3) := rfl
theorem k174_84 : Kc C174 84 = (.iload_n 1, 1, 0, 0, 0) := rfl
theorem k174_85 : Kc C174 85 = (.imul, 0, 0, 0, 0) := rfl
theorem k174_86 : Kc C174 86 = (.iadd, 0, 0, 0, 0) := rfl
theorem k174_87 : Kc C174 87 = (.iload_n 2, 2, 0, 0, 0) := rfl
theorem k174_88 : Kc C174 88 = (.iadd, 0, 0, 0, 0) := rfl
theorem k174_89 : Kc C174 89 = (.iconst 3, 0, 0, 0, 3) := rfl
theorem k174_90 : Kc C174 90 = (.isub, 0, 0, 0, 0) := rfl
theorem k174_91 : Kc C174 91 = (.iaload, 0, 0, 0, 0) := rfl
theorem k174_92 : Kc C174 92 = (.ireturn, 0, 0, 0, 0) := rfl
theorem k174_93 : Kc C174 93 = (.aload_n 0, 0, 0, 0, 0) := rfl
theorem k174_94 : Kc C174 94 = (.getfield 7, 9, 0, 0, 0) := rfl
theorem k174_97 : Kc C174 97 = (.iconst 0, 0, 0, 0, 0) := rfl
theorem k174_98 : Kc C174 98 = (.iload_n 1, 1, 0, 0, 0) := rfl
theorem k174_99 : Kc C174 99 = (.invokestatic 116, 153, 2, 28, 0) := rfl
theorem k174_102 : Kc C174 102 = (.iconst 3, 0, 0, 0, 3) := rfl
theorem k174_103 : Kc C174 103 = (.iadd, 0, 0, 0, 0) := rfl
theorem k174_104 : Kc C174 104 = (.iaload, 0, 0, 0, 0) := rfl
theorem k174_105 : Kc C174 105 = (.ireturn, 0, 0, 0, 0) := rfl
theorem k174_106 : Kc C174 106 = (.ldc 55, 0, 0, 0, (-1000001)) := rfl
theorem k174_108 : Kc C174 108 = (.ireturn, 0, 0, 0, 0) := rfl
theorem ev174 (d : Nat) (x0 : Nat) (x1 : Int32) (x2 : Int32) (h : Hp) : EvM (d + 1) 174 [.ref x0, .int x1, .int x2] h = EvI (EvM d) C174 1 0 [.ref x0, .int x1, .int x2] [] h := rfl
theorem k175_0 : Kc C175 0 = (.aload_n 0, 0, 0, 0, 0) := rfl
theorem k175_1 : Kc C175 1 = (.iload_n 1, 1, 0, 0, 0) := rfl
theorem k175_2 : Kc C175 2 = (.invokevirtual 154, 151, 1, 29, 0) := rfl
theorem k175_5 : Kc C175 5 = (.ifCond .eq 58, 63, 0, 0, 0) := rfl
theorem k175_8 : Kc C175 8 = (.iload_n 2, 2, 0, 0, 0) := rfl
theorem k175_9 : Kc C175 9 = (.i2l, 0, 0, 0, 0) := rfl
theorem k175_10 : Kc C175 10 = (.lconst 0, 0, 0, 0, 0) := rfl
theorem k175_11 : Kc C175 11 = (.aload_n 0, 0, 0, 0, 0) := rfl
theorem k175_12 : Kc C175 12 = (.getfield 7, 9, 0, 0, 0) := rfl
theorem k175_15 : Kc C175 15 = (.iconst 0, 0, 0, 0, 0) := rfl
theorem k175_16 : Kc C175 16 = (.iload_n 1, 1, 0, 0, 0) := rfl
theorem k175_17 : Kc C175 17 = (.invokestatic 116, 153, 2, 28, 0) := rfl
theorem k175_20 : Kc C175 20 = (.iconst 3, 0, 0, 0, 3) := rfl
theorem k175_21 : Kc C175 21 = (.iadd, 0, 0, 0, 0) := rfl
theorem k175_22 : Kc C175 22 = (.iaload, 0, 0, 0, 0) := rfl
theorem k175_23 : Kc C175 23 = (.iconst 1, 0, 0, 0, 1) := rfl
theorem k175_24 : Kc C175 24 = (.isub, 0, 0, 0, 0) := rfl
theorem k175_25 : Kc C175 25 = (.i2l, 0, 0, 0, 0) := rfl
theorem k175_26 : Kc C175 26 = (.invokestatic 45, 131, 3, 29, 0) := rfl
theorem k175_29 : Kc C175 29 = (.ifCond .eq 34, 63, 0, 0, 0) := rfl
theorem k175_32 : Kc C175 32 = (.iload_n 3, 3, 0, 0, 0) := rfl
theorem k175_33 : Kc C175 33 = (.i2l, 0, 0, 0, 0) := rfl
theorem k175_34 : Kc C175 34 = (.lconst 0, 0, 0, 0, 0) := rfl
theorem k175_35 : Kc C175 35 = (.lconst 1, 0, 0, 0, 1) := rfl
theorem k175_36 : Kc C175 36 = (.invokestatic 45, 131, 3, 29, 0) := rfl
theorem k175_39 : Kc C175 39 = (.ifCond .eq 24, 63, 0, 0, 0) := rfl
theorem k175_42 : Kc C175 42 = (.aload_n 0, 0, 0, 0, 0) := rfl
theorem k175_43 : Kc C175 43 = (.getfield 7, 9, 0, 0, 0) := rfl
theorem k175_46 : Kc C175 46 = (.iconst 0, 0, 0, 0, 0) := rfl
theorem k175_47 : Kc C175 47 = (.iload_n 1, 1, 0, 0, 0) := rfl
theorem k175_48 : Kc C175 48 = (.invokestatic 116, 153, 2, 28, 0) := rfl
theorem k175_51 : Kc C175 51 = (.iconst 4, 0, 0, 0, 4) := rfl
theorem k175_52 : Kc C175 52 = (.iadd, 0, 0, 0, 0) := rfl
theorem k175_53 : Kc C175 53 = (.iconst 2, 0, 0, 0, 2) := rfl
theorem k175_54 : Kc C175 54 = (.iload_n 2, 2, 0, 0, 0) := rfl
theorem k175_55 : Kc C175 55 = (.imul, 0, 0, 0, 0) := rfl
theorem k175_56 : Kc C175 56 = (.iadd, 0, 0, 0, 0) := rfl
theorem k175_57 : Kc C175 57 = (.iload_n 3, 3, 0, 0, 0) := rfl
theorem k175_58 : Kc C175 58 = (.iadd, 0, 0, 0, 0) := rfl
theorem k175_59 : Kc C175 59 = (.iaload, 0, 0, 0, 0) := rfl
theorem k175_60 : Kc C175 60 = (.goto 5, 65, 0, 0, 0) := rfl
theorem k175_63 : Kc C175 63 = (.ldc 55, 0, 0, 0, (-1000001)) := rfl
theorem k175_65 : Kc C175 65 = (.ireturn, 0, 0, 0, 0) := rfl
theorem ev175 (d : Nat) (x0 : Nat) (x1 : Int32) (x2 : Int32) (x3 : Int32) (h : Hp) : EvM (d + 1) 175 [.ref x0, .int x1, .int x2, .int x3] h = EvI (EvM d) C175 1 0 [.ref x0, .int x1, .int x2, .int x3] [] h := rfl
theorem k176_0 : Kc C176 0 = (.iconst 0, 0, 0, 0, 0) := rfl
theorem k176_1 : Kc C176 1 = (.istore_n 3, 3, 0, 0, 0) := rfl
theorem k176_2 : Kc C176 2 = (.iload_n 3, 3, 0, 0, 0) := rfl
theorem k176_3 : Kc C176 3 = (.bipush 119, 0, 0, 0, 119) := rfl
theorem k176_5 : Kc C176 5 = (.if_icmp .ge 25, 30, 0, 0, 0) := rfl
theorem k176_8 : Kc C176 8 = (.aload_n 0, 0, 0, 0, 0) := rfl
theorem k176_9 : Kc C176 9 = (.getfield 7, 9, 0, 0, 0) := rfl
theorem k176_12 : Kc C176 12 = (.iload_n 2, 2, 0, 0, 0) := rfl
theorem k176_13 : Kc C176 13 = (.iload_n 3, 3, 0, 0, 0) := rfl
theorem k176_14 : Kc C176 14 = (.iadd, 0, 0, 0, 0) := rfl
theorem k176_15 : Kc C176 15 = (.aload_n 0, 0, 0, 0, 0) := rfl
theorem k176_16 : Kc C176 16 = (.getfield 7, 9, 0, 0, 0) := rfl
theorem k176_19 : Kc C176 19 = (.iload_n 1, 1, 0, 0, 0) := rfl
theorem k176_20 : Kc C176 20 = (.iload_n 3, 3, 0, 0, 0) := rfl
theorem k176_21 : Kc C176 21 = (.iadd, 0, 0, 0, 0) := rfl
theorem k176_22 : Kc C176 22 = (.iaload, 0, 0, 0, 0) := rfl
theorem k176_23 : Kc C176 23 = (.iastore, 0, 0, 0, 0) := rfl
theorem k176_24 : Kc C176 24 = (.iinc 3 1, 3, 0, 0, 1) := rfl
theorem k176_27 : Kc C176 27 = (.goto (-25), 2, 0, 0, 0) := rfl
theorem k176_30 : Kc C176 30 = (.return_, 0, 0, 0, 0) := rfl
theorem ev176 (d : Nat) (x0 : Nat) (x1 : Int32) (x2 : Int32) (h : Hp) : EvM (d + 1) 176 [.ref x0, .int x1, .int x2] h = EvI (EvM d) C176 0 0 [.ref x0, .int x1, .int x2, jk] [] h := rfl
theorem k177_0 : Kc C177 0 = (.aload_n 0, 0, 0, 0, 0) := rfl
theorem k177_1 : Kc C177 1 = (.iload_n 1, 1, 0, 0, 0) := rfl
theorem k177_2 : Kc C177 2 = (.invokevirtual 154, 151, 1, 29, 0) := rfl
theorem k177_5 : Kc C177 5 = (.ifCond .eq 35, 40, 0, 0, 0) := rfl
theorem k177_8 : Kc C177 8 = (.iload_n 2, 2, 0, 0, 0) := rfl
theorem k177_9 : Kc C177 9 = (.i2l, 0, 0, 0, 0) := rfl
theorem k177_10 : Kc C177 10 = (.lconst 0, 0, 0, 0, 0) := rfl
theorem k177_11 : Kc C177 11 = (.ldc2_w 185, 0, 0, 0, 60) := rfl
theorem k177_14 : Kc C177 14 = (.invokestatic 45, 131, 3, 29, 0) := rfl
theorem k177_17 : Kc C177 17 = (.ifCond .eq 23, 40, 0, 0, 0) := rfl
theorem k177_20 : Kc C177 20 = (.iload_n 3, 3, 0, 0, 0) := rfl
theorem k177_21 : Kc C177 21 = (.invokestatic 179, 172, 1, 29, 0) := rfl
theorem k177_24 : Kc C177 24 = (.ifCond .eq 16, 40, 0, 0, 0) := rfl
theorem k177_27 : Kc C177 27 = (.iload 4, 4, 0, 0, 0) := rfl
theorem k177_29 : Kc C177 29 = (.i2l, 0, 0, 0, 0) := rfl
theorem k177_30 : Kc C177 30 = (.lconst 0, 0, 0, 0, 0) := rfl
theorem k177_31 : Kc C177 31 = (.ldc2_w 187, 0, 0, 0, 3) := rfl
theorem k177_34 : Kc C177 34 = (.invokestatic 45, 131, 3, 29, 0) := rfl
theorem k177_37 : Kc C177 37 = (.ifCond .ne 6, 43, 0, 0, 0) := rfl
theorem k177_40 : Kc C177 40 = (.ldc 55, 0, 0, 0, (-1000001)) := rfl
theorem k177_42 : Kc C177 42 = (.ireturn, 0, 0, 0, 0) := rfl
theorem k177_43 : Kc C177 43 = (.aload_n 0, 0, 0, 0, 0) := rfl
theorem k177_44 : Kc C177 44 = (.iconst 0, 0, 0, 0, 0) := rfl
theorem k177_45 : Kc C177 45 = (.sipush 357, 0, 0, 0, 357) := rfl
theorem k177_48 : Kc C177 48 = (.invokevirtual 189, 176, 2, 27, 0) := rfl
theorem k177_51 : Kc C177 51 = (.aload_n 0, 0, 0, 0, 0) := rfl
theorem k177_52 : Kc C177 52 = (.iload_n 3, 3, 0, 0, 0) := rfl
theorem k177_53 : Kc C177 53 = (.i2l, 0, 0, 0, 0) := rfl
theorem k177_54 : Kc C177 54 = (.putfield 136, 9, 17, 0, 0) := rfl
theorem k177_57 : Kc C177 57 = (.iconst 0, 0, 0, 0, 0) := rfl
theorem k177_58 : Kc C177 58 = (.istore 5, 5, 0, 0, 0) := rfl
theorem k177_60 : Kc C177 60 = (.iload 5, 5, 0, 0, 0) := rfl
theorem k177_62 : Kc C177 62 = (.iload_n 2, 2, 0, 0, 0) := rfl
theorem k177_63 : Kc C177 63 = (.if_icmp .ge 16, 79, 0, 0, 0) := rfl
theorem k177_66 : Kc C177 66 = (.aload_n 0, 0, 0, 0, 0) := rfl
theorem k177_67 : Kc C177 67 = (.sipush 357, 0, 0, 0, 357) := rfl
theorem k177_70 : Kc C177 70 = (.invokevirtual 182, 160, 1, 27, 0) := rfl
theorem k177_73 : Kc C177 73 = (.iinc 5 1, 5, 0, 0, 1) := rfl
theorem k177_76 : Kc C177 76 = (.goto (-16), 60, 0, 0, 0) := rfl
theorem k177_79 : Kc C177 79 = (.iload 4, 4, 0, 0, 0) := rfl
theorem k177_81 : Kc C177 81 = (.ifCond .ne 14, 95, 0, 0, 0) := rfl
theorem k177_84 : Kc C177 84 = (.aload_n 0, 0, 0, 0, 0) := rfl
theorem k177_85 : Kc C177 85 = (.sipush 357, 0, 0, 0, 357) := rfl
theorem k177_88 : Kc C177 88 = (.iload_n 1, 1, 0, 0, 0) := rfl
theorem k177_89 : Kc C177 89 = (.invokevirtual 126, 154, 2, 28, 0) := rfl
theorem k177_92 : Kc C177 92 = (.goto 20, 112, 0, 0, 0) := rfl
theorem k177_95 : Kc C177 95 = (.aload_n 0, 0, 0, 0, 0) := rfl
theorem k177_96 : Kc C177 96 = (.getfield 7, 9, 0, 0, 0) := rfl
theorem k177_99 : Kc C177 99 = (.sipush 357, 0, 0, 0, 357) := rfl
theorem k177_102 : Kc C177 102 = (.iload_n 1, 1, 0, 0, 0) := rfl
theorem k177_103 : Kc C177 103 = (.invokestatic 116, 153, 2, 28, 0) := rfl
theorem k177_106 : Kc C177 106 = (.iload 4, 4, 0, 0, 0) := rfl
theorem k177_108 : Kc C177 108 = (.iadd, 0, 0, 0, 0) := rfl
theorem k177_109 : Kc C177 109 = (.iconst 1, 0, 0, 0, 1) := rfl
theorem k177_110 : Kc C177 110 = (.isub, 0, 0, 0, 0) := rfl
theorem k177_111 : Kc C177 111 = (.iaload, 0, 0, 0, 0) := rfl
theorem k177_112 : Kc C177 112 = (.ireturn, 0, 0, 0, 0) := rfl
theorem ev177 (d : Nat) (x0 : Nat) (x1 : Int32) (x2 : Int32) (x3 : Int32) (x4 : Int32) (h : Hp) : EvM (d + 1) 177 [.ref x0, .int x1, .int x2, .int x3, .int x4] h = EvI (EvM d) C177 1 0 [.ref x0, .int x1, .int x2, .int x3, .int x4, jk] [] h := rfl
theorem k178_0 : Kc C178 0 = (.aload_n 0, 0, 0, 0, 0) := rfl
theorem k178_1 : Kc C178 1 = (.iload_n 1, 1, 0, 0, 0) := rfl
theorem k178_2 : Kc C178 2 = (.invokevirtual 154, 151, 1, 29, 0) := rfl
theorem k178_5 : Kc C178 5 = (.ifCond .eq 15, 20, 0, 0, 0) := rfl
theorem k178_8 : Kc C178 8 = (.iload_n 2, 2, 0, 0, 0) := rfl
theorem k178_9 : Kc C178 9 = (.i2l, 0, 0, 0, 0) := rfl
theorem k178_10 : Kc C178 10 = (.lconst 0, 0, 0, 0, 0) := rfl
theorem k178_11 : Kc C178 11 = (.ldc2_w 185, 0, 0, 0, 60) := rfl
theorem k178_14 : Kc C178 14 = (.invokestatic 45, 131, 3, 29, 0) := rfl
theorem k178_17 : Kc C178 17 = (.ifCond .ne 6, 23, 0, 0, 0) := rfl
theorem k178_20 : Kc C178 20 = (.ldc 55, 0, 0, 0, (-1000001)) := rfl
theorem k178_22 : Kc C178 22 = (.ireturn, 0, 0, 0, 0) := rfl
theorem k178_23 : Kc C178 23 = (.aload_n 0, 0, 0, 0, 0) := rfl
theorem k178_24 : Kc C178 24 = (.iconst 0, 0, 0, 0, 0) := rfl
theorem k178_25 : Kc C178 25 = (.sipush 357, 0, 0, 0, 357) := rfl
theorem k178_28 : Kc C178 28 = (.invokevirtual 189, 176, 2, 27, 0) := rfl
theorem k178_31 : Kc C178 31 = (.iconst 0, 0, 0, 0, 0) := rfl
theorem k178_32 : Kc C178 32 = (.istore_n 3, 3, 0, 0, 0) := rfl
theorem k178_33 : Kc C178 33 = (.iload_n 3, 3, 0, 0, 0) := rfl
theorem k178_34 : Kc C178 34 = (.iload_n 2, 2, 0, 0, 0) := rfl
theorem k178_35 : Kc C178 35 = (.if_icmp .ge 16, 51, 0, 0, 0) := rfl
theorem k178_38 : Kc C178 38 = (.aload_n 0, 0, 0, 0, 0) := rfl
theorem k178_39 : Kc C178 39 = (.sipush 357, 0, 0, 0, 357) := rfl
theorem k178_42 : Kc C178 42 = (.invokevirtual 149, 159, 1, 27, 0) := rfl
theorem k178_45 : Kc C178 45 = (.iinc 3 1, 3, 0, 0, 1) := rfl
theorem k178_48 : Kc C178 48 = (.goto (-15), 33, 0, 0, 0) := rfl
theorem k178_51 : Kc C178 51 = (.aload_n 0, 0, 0, 0, 0) := rfl
theorem k178_52 : Kc C178 52 = (.iconst 0, 0, 0, 0, 0) := rfl
theorem k178_53 : Kc C178 53 = (.iload_n 1, 1, 0, 0, 0) := rfl
theorem k178_54 : Kc C178 54 = (.invokevirtual 126, 154, 2, 28, 0) := rfl
theorem k178_57 : Kc C178 57 = (.aload_n 0, 0, 0, 0, 0) := rfl
theorem k178_58 : Kc C178 58 = (.sipush 357, 0, 0, 0, 357) := rfl
theorem k178_61 : Kc C178 61 = (.iload_n 1, 1, 0, 0, 0) := rfl
theorem k178_62 : Kc C178 62 = (.invokevirtual 126, 154, 2, 28, 0) := rfl
theorem k178_65 : Kc C178 65 = (.isub, 0, 0, 0, 0) := rfl
theorem k178_66 : Kc C178 66 = (.ireturn, 0, 0, 0, 0) := rfl
theorem ev178 (d : Nat) (x0 : Nat) (x1 : Int32) (x2 : Int32) (h : Hp) : EvM (d + 1) 178 [.ref x0, .int x1, .int x2] h = EvI (EvM d) C178 1 0 [.ref x0, .int x1, .int x2, jk] [] h := rfl
theorem k179_0 : Kc C179 0 = (.iconst 0, 0, 0, 0, 0) := rfl
theorem k179_1 : Kc C179 1 = (.istore_n 2, 2, 0, 0, 0) := rfl
theorem k179_2 : Kc C179 2 = (.iconst 0, 0, 0, 0, 0) := rfl
theorem k179_3 : Kc C179 3 = (.istore_n 3, 3, 0, 0, 0) := rfl
theorem k179_4 : Kc C179 4 = (.iload_n 3, 3, 0, 0, 0) := rfl
theorem k179_5 : Kc C179 5 = (.aload_n 0, 0, 0, 0, 0) := rfl
theorem k179_6 : Kc C179 6 = (.getfield 7, 9, 0, 0, 0) := rfl
theorem k179_9 : Kc C179 9 = (.iconst 3, 0, 0, 0, 3) := rfl
theorem k179_10 : Kc C179 10 = (.iaload, 0, 0, 0, 0) := rfl
theorem k179_11 : Kc C179 11 = (.if_icmp .ge 24, 35, 0, 0, 0) := rfl
theorem k179_14 : Kc C179 14 = (.iload_n 2, 2, 0, 0, 0) := rfl
theorem k179_15 : Kc C179 15 = (.aload_n 0, 0, 0, 0, 0) := rfl
theorem k179_16 : Kc C179 16 = (.getfield 7, 9, 0, 0, 0) := rfl
theorem k179_19 : Kc C179 19 = (.iload_n 1, 1, 0, 0, 0) := rfl
theorem k179_20 : Kc C179 20 = (.iload_n 3, 3, 0, 0, 0) := rfl
theorem k179_21 : Kc C179 21 = (.invokestatic 116, 153, 2, 28, 0) := rfl
theorem k179_24 : Kc C179 24 = (.iconst 0, 0, 0, 0, 0) := rfl
theorem k179_25 : Kc C179 25 = (.iadd, 0, 0, 0, 0) := rfl
theorem k179_26 : Kc C179 26 = (.iaload, 0, 0, 0, 0) := rfl
theorem k179_27 : Kc C179 27 = (.iadd, 0, 0, 0, 0) := rfl
theorem k179_28 : Kc C179 28 = (.istore_n 2, 2, 0, 0, 0) := rfl
theorem k179_29 : Kc C179 29 = (.iinc 3 1, 3, 0, 0, 1) := rfl
theorem k179_32 : Kc C179 32 = (.goto (-28), 4, 0, 0, 0) := rfl
theorem k179_35 : Kc C179 35 = (.iload_n 2, 2, 0, 0, 0) := rfl
theorem k179_36 : Kc C179 36 = (.ireturn, 0, 0, 0, 0) := rfl
theorem ev179 (d : Nat) (x0 : Nat) (x1 : Int32) (h : Hp) : EvM (d + 1) 179 [.ref x0, .int x1] h = EvI (EvM d) C179 1 0 [.ref x0, .int x1, jk, jk] [] h := rfl
theorem k180_0 : Kc C180 0 = (.aload_n 0, 0, 0, 0, 0) := rfl
theorem k180_1 : Kc C180 1 = (.getfield 7, 9, 0, 0, 0) := rfl
theorem k180_4 : Kc C180 4 = (.iconst 0, 0, 0, 0, 0) := rfl
theorem k180_5 : Kc C180 5 = (.iaload, 0, 0, 0, 0) := rfl
theorem k180_6 : Kc C180 6 = (.ifCond .ne 6, 12, 0, 0, 0) := rfl
theorem k180_9 : Kc C180 9 = (.ldc 153, 0, 0, 0, (-1000002)) := rfl
theorem k180_11 : Kc C180 11 = (.ireturn, 0, 0, 0, 0) := rfl
theorem k180_12 : Kc C180 12 = (.iload_n 1, 1, 0, 0, 0) := rfl
theorem k180_13 : Kc C180 13 = (.i2l, 0, 0, 0, 0) := rfl
theorem k180_14 : Kc C180 14 = (.lconst 0, 0, 0, 0, 0) := rfl
theorem k180_15 : Kc C180 15 = (.ldc2_w 185, 0, 0, 0, 60) := rfl
theorem k180_18 : Kc C180 18 = (.invokestatic 45, 131, 3, 29, 0) := rfl
theorem k180_21 : Kc C180 21 = (.ifCond .eq 20, 41, 0, 0, 0) := rfl
theorem k180_24 : Kc C180 24 = (.iload_n 2, 2, 0, 0, 0) := rfl
theorem k180_25 : Kc C180 25 = (.invokestatic 179, 172, 1, 29, 0) := rfl
theorem k180_28 : Kc C180 28 = (.ifCond .eq 13, 41, 0, 0, 0) := rfl
theorem k180_31 : Kc C180 31 = (.iload_n 3, 3, 0, 0, 0) := rfl
theorem k180_32 : Kc C180 32 = (.i2l, 0, 0, 0, 0) := rfl
theorem k180_33 : Kc C180 33 = (.lconst 0, 0, 0, 0, 0) := rfl
theorem k180_34 : Kc C180 34 = (.lconst 1, 0, 0, 0, 1) := rfl
theorem k180_35 : Kc C180 35 = (.invokestatic 45, 131, 3, 29, 0) := rfl
theorem k180_38 : Kc C180 38 = (.ifCond .ne 6, 44, 0, 0, 0) := rfl
theorem k180_41 : Kc C180 41 = (.ldc 55, 0, 0, 0, (-1000001)) := rfl
theorem k180_43 : Kc C180 43 = (.ireturn, 0, 0, 0, 0) := rfl
theorem k180_44 : Kc C180 44 = (.aload_n 0, 0, 0, 0, 0) := rfl
theorem k180_45 : Kc C180 45 = (.iconst 0, 0, 0, 0, 0) := rfl
theorem k180_46 : Kc C180 46 = (.sipush 357, 0, 0, 0, 357) := rfl
theorem k180_49 : Kc C180 49 = (.invokevirtual 189, 176, 2, 27, 0) := rfl
theorem k180_52 : Kc C180 52 = (.iconst 0, 0, 0, 0, 0) := rfl
theorem k180_53 : Kc C180 53 = (.istore 4, 4, 0, 0, 0) := rfl
theorem k180_55 : Kc C180 55 = (.iload 4, 4, 0, 0, 0) := rfl
theorem k180_57 : Kc C180 57 = (.bipush 6, 0, 0, 0, 6) := rfl
theorem k180_59 : Kc C180 59 = (.if_icmp .ge 25, 84, 0, 0, 0) := rfl
theorem k180_62 : Kc C180 62 = (.aload_n 0, 0, 0, 0, 0) := rfl
theorem k180_63 : Kc C180 63 = (.getfield 7, 9, 0, 0, 0) := rfl
theorem k180_66 : Kc C180 66 = (.sipush 357, 0, 0, 0, 357) := rfl
theorem k180_69 : Kc C180 69 = (.iload 4, 4, 0, 0, 0) := rfl
theorem k180_71 : Kc C180 71 = (.invokestatic 116, 153, 2, 28, 0) := rfl
theorem k180_74 : Kc C180 74 = (.iconst 3, 0, 0, 0, 3) := rfl
theorem k180_75 : Kc C180 75 = (.iadd, 0, 0, 0, 0) := rfl
theorem k180_76 : Kc C180 76 = (.iconst 0, 0, 0, 0, 0) := rfl
theorem k180_77 : Kc C180 77 = (.iastore, 0, 0, 0, 0) := rfl
theorem k180_78 : Kc C180 78 = (.iinc 4 1, 4, 0, 0, 1) := rfl
theorem k180_81 : Kc C180 81 = (.goto (-26), 55, 0, 0, 0) := rfl
theorem k180_84 : Kc C180 84 = (.aload_n 0, 0, 0, 0, 0) := rfl
theorem k180_85 : Kc C180 85 = (.iload_n 2, 2, 0, 0, 0) := rfl
theorem k180_86 : Kc C180 86 = (.i2l, 0, 0, 0, 0) := rfl
theorem k180_87 : Kc C180 87 = (.putfield 136, 9, 17, 0, 0) := rfl
theorem k180_90 : Kc C180 90 = (.iconst 0, 0, 0, 0, 0) := rfl
theorem k180_91 : Kc C180 91 = (.istore 4, 4, 0, 0, 0) := rfl
theorem k180_93 : Kc C180 93 = (.iconst 0, 0, 0, 0, 0) := rfl
theorem k180_94 : Kc C180 94 = (.istore 5, 5, 0, 0, 0) := rfl
theorem k180_96 : Kc C180 96 = (.iload 5, 5, 0, 0, 0) := rfl
theorem k180_98 : Kc C180 98 = (.iload_n 1, 1, 0, 0, 0) := rfl
theorem k180_99 : Kc C180 99 = (.if_icmp .ge 25, 124, 0, 0, 0) := rfl
theorem k180_102 : Kc C180 102 = (.aload_n 0, 0, 0, 0, 0) := rfl
theorem k180_103 : Kc C180 103 = (.sipush 357, 0, 0, 0, 357) := rfl
theorem k180_106 : Kc C180 106 = (.invokevirtual 182, 160, 1, 27, 0) := rfl
theorem k180_109 : Kc C180 109 = (.iload 4, 4, 0, 0, 0) := rfl
theorem k180_111 : Kc C180 111 = (.aload_n 0, 0, 0, 0, 0) := rfl
theorem k180_112 : Kc C180 112 = (.getfield 133, 9, 18, 0, 0) := rfl
theorem k180_115 : Kc C180 115 = (.iadd, 0, 0, 0, 0) := rfl
theorem k180_116 : Kc C180 116 = (.istore 4, 4, 0, 0, 0) := rfl
theorem k180_118 : Kc C180 118 = (.iinc 5 1, 5, 0, 0, 1) := rfl
theorem k180_121 : Kc C180 121 = (.goto (-25), 96, 0, 0, 0) := rfl
theorem k180_124 : Kc C180 124 = (.iload_n 3, 3, 0, 0, 0) := rfl
theorem k180_125 : Kc C180 125 = (.ifCond .ne 8, 133, 0, 0, 0) := rfl
theorem k180_128 : Kc C180 128 = (.iload 4, 4, 0, 0, 0) := rfl
theorem k180_130 : Kc C180 130 = (.goto 16, 146, 0, 0, 0) := rfl
theorem k180_133 : Kc C180 133 = (.aload_n 0, 0, 0, 0, 0) := rfl
theorem k180_134 : Kc C180 134 = (.sipush 357, 0, 0, 0, 357) := rfl
theorem k180_137 : Kc C180 137 = (.invokevirtual 192, 179, 1, 28, 0) := rfl
theorem k180_140 : Kc C180 140 = (.aload_n 0, 0, 0, 0, 0) := rfl
theorem k180_141 : Kc C180 141 = (.iconst 0, 0, 0, 0, 0) := rfl
theorem k180_142 : Kc C180 142 = (.invokevirtual 192, 179, 1, 28, 0) := rfl
theorem k180_145 : Kc C180 145 = (.isub, 0, 0, 0, 0) := rfl
theorem k180_146 : Kc C180 146 = (.ireturn, 0, 0, 0, 0) := rfl
theorem ev180 (d : Nat) (x0 : Nat) (x1 : Int32) (x2 : Int32) (x3 : Int32) (h : Hp) : EvM (d + 1) 180 [.ref x0, .int x1, .int x2, .int x3] h = EvI (EvM d) C180 1 0 [.ref x0, .int x1, .int x2, .int x3, jk, jk] [] h := rfl
theorem k181_0 : Kc C181 0 = (.iconst 1, 0, 0, 0, 1) := rfl
theorem k181_1 : Kc C181 1 = (.istore_n 3, 3, 0, 0, 0) := rfl
theorem k181_2 : Kc C181 2 = (.iconst 0, 0, 0, 0, 0) := rfl
theorem k181_3 : Kc C181 3 = (.istore 4, 4, 0, 0, 0) := rfl
theorem k181_5 : Kc C181 5 = (.iload 4, 4, 0, 0, 0) := rfl
theorem k181_7 : Kc C181 7 = (.iload_n 2, 2, 0, 0, 0) := rfl
theorem k181_8 : Kc C181 8 = (.if_icmp .ge 39, 47, 0, 0, 0) := rfl
theorem k181_11 : Kc C181 11 = (.iload_n 3, 3, 0, 0, 0) := rfl
theorem k181_12 : Kc C181 12 = (.ifCond .eq 27, 39, 0, 0, 0) := rfl
theorem k181_15 : Kc C181 15 = (.aload_n 0, 0, 0, 0, 0) := rfl
theorem k181_16 : Kc C181 16 = (.getfield 26, 9, 9, 0, 0) := rfl
theorem k181_19 : Kc C181 19 = (.iload_n 1, 1, 0, 0, 0) := rfl
theorem k181_20 : Kc C181 20 = (.iload 4, 4, 0, 0, 0) := rfl
theorem k181_22 : Kc C181 22 = (.iadd, 0, 0, 0, 0) := rfl
theorem k181_23 : Kc C181 23 = (.iaload, 0, 0, 0, 0) := rfl
theorem k181_24 : Kc C181 24 = (.i2l, 0, 0, 0, 0) := rfl
theorem k181_25 : Kc C181 25 = (.lconst 1, 0, 0, 0, 1) := rfl
theorem k181_26 : Kc C181 26 = (.ldc2_w 157, 0, 0, 0, 999) := rfl
theorem k181_29 : Kc C181 29 = (.invokestatic 45, 131, 3, 29, 0) := rfl
theorem k181_32 : Kc C181 32 = (.ifCond .eq 7, 39, 0, 0, 0) := rfl
theorem k181_35 : Kc C181 35 = (.iconst 1, 0, 0, 0, 1) := rfl
theorem k181_36 : Kc C181 36 = (.goto 4, 40, 0, 0, 0) := rfl
theorem k181_39 : Kc C181 39 = (.iconst 0, 0, 0, 0, 0) := rfl
theorem k181_40 : Kc C181 40 = (.istore_n 3, 3, 0, 0, 0) := rfl
theorem k181_41 : Kc C181 41 = (.iinc 4 1, 4, 0, 0, 1) := rfl
theorem k181_44 : Kc C181 44 = (.goto (-39), 5, 0, 0, 0) := rfl
theorem k181_47 : Kc C181 47 = (.iload_n 3, 3, 0, 0, 0) := rfl
theorem k181_48 : Kc C181 48 = (.ireturn, 0, 0, 0, 0) := rfl
theorem ev181 (d : Nat) (x0 : Nat) (x1 : Int32) (x2 : Int32) (h : Hp) : EvM (d + 1) 181 [.ref x0, .int x1, .int x2] h = EvI (EvM d) C181 2 0 [.ref x0, .int x1, .int x2, jk, jk] [] h := rfl
theorem k182_0 : Kc C182 0 = (.aload_n 0, 0, 0, 0, 0) := rfl
theorem k182_1 : Kc C182 1 = (.getfield 20, 9, 7, 0, 0) := rfl
theorem k182_4 : Kc C182 4 = (.iload_n 1, 1, 0, 0, 0) := rfl
theorem k182_5 : Kc C182 5 = (.iaload, 0, 0, 0, 0) := rfl
theorem k182_6 : Kc C182 6 = (.ldc 19, 0, 0, 0, (-1000000)) := rfl
theorem k182_8 : Kc C182 8 = (.if_icmp .ne 11, 19, 0, 0, 0) := rfl
theorem k182_11 : Kc C182 11 = (.aload_n 0, 0, 0, 0, 0) := rfl
theorem k182_12 : Kc C182 12 = (.iconst 1, 0, 0, 0, 1) := rfl
theorem k182_13 : Kc C182 13 = (.invokevirtual 56, 133, 1, 28, 0) := rfl
theorem k182_16 : Kc C182 16 = (.goto 22, 38, 0, 0, 0) := rfl
theorem k182_19 : Kc C182 19 = (.aload_n 0, 0, 0, 0, 0) := rfl
theorem k182_20 : Kc C182 20 = (.iload_n 1, 1, 0, 0, 0) := rfl
theorem k182_21 : Kc C182 21 = (.iload_n 2, 2, 0, 0, 0) := rfl
theorem k182_22 : Kc C182 22 = (.iload_n 3, 3, 0, 0, 0) := rfl
theorem k182_23 : Kc C182 23 = (.invokevirtual 63, 138, 3, 29, 0) := rfl
theorem k182_26 : Kc C182 26 = (.ifCond .eq 7, 33, 0, 0, 0) := rfl
theorem k182_29 : Kc C182 29 = (.iconst 0, 0, 0, 0, 0) := rfl
theorem k182_30 : Kc C182 30 = (.goto 8, 38, 0, 0, 0) := rfl
theorem k182_33 : Kc C182 33 = (.aload_n 0, 0, 0, 0, 0) := rfl
theorem k182_34 : Kc C182 34 = (.iconst 2, 0, 0, 0, 2) := rfl
theorem k182_35 : Kc C182 35 = (.invokevirtual 56, 133, 1, 28, 0) := rfl
theorem k182_38 : Kc C182 38 = (.ireturn, 0, 0, 0, 0) := rfl
theorem ev182 (d : Nat) (x0 : Nat) (x1 : Int32) (x2 : Int32) (x3 : Int32) (h : Hp) : EvM (d + 1) 182 [.ref x0, .int x1, .int x2, .int x3] h = EvI (EvM d) C182 1 0 [.ref x0, .int x1, .int x2, .int x3] [] h := rfl
theorem k183_0 : Kc C183 0 = (.aload_n 0, 0, 0, 0, 0) := rfl
theorem k183_1 : Kc C183 1 = (.iload_n 1, 1, 0, 0, 0) := rfl
theorem k183_2 : Kc C183 2 = (.iload_n 2, 2, 0, 0, 0) := rfl
theorem k183_3 : Kc C183 3 = (.iload_n 3, 3, 0, 0, 0) := rfl
theorem k183_4 : Kc C183 4 = (.invokevirtual 195, 182, 3, 28, 0) := rfl
theorem k183_7 : Kc C183 7 = (.istore 4, 4, 0, 0, 0) := rfl
theorem k183_9 : Kc C183 9 = (.iload 4, 4, 0, 0, 0) := rfl
theorem k183_11 : Kc C183 11 = (.ifCond .eq 8, 19, 0, 0, 0) := rfl
theorem k183_14 : Kc C183 14 = (.iload 4, 4, 0, 0, 0) := rfl
theorem k183_16 : Kc C183 16 = (.goto 23, 39, 0, 0, 0) := rfl
theorem k183_19 : Kc C183 19 = (.aload_n 0, 0, 0, 0, 0) := rfl
theorem k183_20 : Kc C183 20 = (.bipush 40, 0, 0, 0, 40) := rfl
theorem k183_22 : Kc C183 22 = (.iload_n 1, 1, 0, 0, 0) := rfl
theorem k183_23 : Kc C183 23 = (.imul, 0, 0, 0, 0) := rfl
theorem k183_24 : Kc C183 24 = (.iload_n 2, 2, 0, 0, 0) := rfl
theorem k183_25 : Kc C183 25 = (.iadd, 0, 0, 0, 0) := rfl
theorem k183_26 : Kc C183 26 = (.iload_n 3, 3, 0, 0, 0) := rfl
theorem k183_27 : Kc C183 27 = (.invokevirtual 199, 181, 2, 29, 0) := rfl
theorem k183_30 : Kc C183 30 = (.ifCond .eq 7, 37, 0, 0, 0) := rfl
theorem k183_33 : Kc C183 33 = (.iconst 0, 0, 0, 0, 0) := rfl
theorem k183_34 : Kc C183 34 = (.goto 5, 39, 0, 0, 0) := rfl
theorem k183_37 : Kc C183 37 = (.ldc 55, 0, 0, 0, (-1000001)) := rfl
theorem k183_39 : Kc C183 39 = (.ireturn, 0, 0, 0, 0) := rfl
theorem ev183 (d : Nat) (x0 : Nat) (x1 : Int32) (x2 : Int32) (x3 : Int32) (h : Hp) : EvM (d + 1) 183 [.ref x0, .int x1, .int x2, .int x3] h = EvI (EvM d) C183 1 0 [.ref x0, .int x1, .int x2, .int x3, jk] [] h := rfl
theorem k184_0 : Kc C184 0 = (.aload_n 0, 0, 0, 0, 0) := rfl
theorem k184_1 : Kc C184 1 = (.iconst 0, 0, 0, 0, 0) := rfl
theorem k184_2 : Kc C184 2 = (.sipush 357, 0, 0, 0, 357) := rfl
theorem k184_5 : Kc C184 5 = (.invokevirtual 189, 176, 2, 27, 0) := rfl
theorem k184_8 : Kc C184 8 = (.iload 4, 4, 0, 0, 0) := rfl
theorem k184_10 : Kc C184 10 = (.ifCond .le 13, 23, 0, 0, 0) := rfl
theorem k184_13 : Kc C184 13 = (.aload_n 0, 0, 0, 0, 0) := rfl
theorem k184_14 : Kc C184 14 = (.sipush 357, 0, 0, 0, 357) := rfl
theorem k184_17 : Kc C184 17 = (.iload_n 1, 1, 0, 0, 0) := rfl
theorem k184_18 : Kc C184 18 = (.iload 4, 4, 0, 0, 0) := rfl
theorem k184_20 : Kc C184 20 = (.invokevirtual 162, 155, 3, 27, 0) := rfl
theorem k184_23 : Kc C184 23 = (.iconst 0, 0, 0, 0, 0) := rfl
theorem k184_24 : Kc C184 24 = (.istore 5, 5, 0, 0, 0) := rfl
theorem k184_26 : Kc C184 26 = (.iload 5, 5, 0, 0, 0) := rfl
theorem k184_28 : Kc C184 28 = (.iload_n 3, 3, 0, 0, 0) := rfl
theorem k184_29 : Kc C184 29 = (.if_icmp .ge 38, 67, 0, 0, 0) := rfl
theorem k184_32 : Kc C184 32 = (.aload_n 0, 0, 0, 0, 0) := rfl
theorem k184_33 : Kc C184 33 = (.sipush 357, 0, 0, 0, 357) := rfl
theorem k184_36 : Kc C184 36 = (.iload_n 1, 1, 0, 0, 0) := rfl
theorem k184_37 : Kc C184 37 = (.aload_n 0, 0, 0, 0, 0) := rfl
theorem k184_38 : Kc C184 38 = (.getfield 26, 9, 9, 0, 0) := rfl
theorem k184_41 : Kc C184 41 = (.iload_n 2, 2, 0, 0, 0) := rfl
theorem k184_42 : Kc C184 42 = (.aload_n 0, 0, 0, 0, 0) := rfl
theorem k184_43 : Kc C184 43 = (.getfield 35, 9, 19, 0, 0) := rfl
theorem k184_46 : Kc C184 46 = (.iload 5, 5, 0, 0, 0) := rfl
theorem k184_48 : Kc C184 48 = (.iaload, 0, 0, 0, 0) := rfl
theorem k184_49 : Kc C184 49 = (.iadd, 0, 0, 0, 0) := rfl
theorem k184_50 : Kc C184 50 = (.iaload, 0, 0, 0, 0) := rfl
theorem k184_51 : Kc C184 51 = (.invokevirtual 146, 158, 3, 27, 0) := rfl
theorem k184_54 : Kc C184 54 = (.aload_n 0, 0, 0, 0, 0) := rfl
theorem k184_55 : Kc C184 55 = (.sipush 357, 0, 0, 0, 357) := rfl
theorem k184_58 : Kc C184 58 = (.invokevirtual 149, 159, 1, 27, 0) := rfl
theorem k184_61 : Kc C184 61 = (.iinc 5 1, 5, 0, 0, 1) := rfl
theorem k184_64 : Kc C184 64 = (.goto (-38), 26, 0, 0, 0) := rfl
theorem k184_67 : Kc C184 67 = (.aload_n 0, 0, 0, 0, 0) := rfl
theorem k184_68 : Kc C184 68 = (.getfield 7, 9, 0, 0, 0) := rfl
theorem k184_71 : Kc C184 71 = (.sipush 357, 0, 0, 0, 357) := rfl
theorem k184_74 : Kc C184 74 = (.iload_n 1, 1, 0, 0, 0) := rfl
theorem k184_75 : Kc C184 75 = (.invokestatic 116, 153, 2, 28, 0) := rfl
theorem k184_78 : Kc C184 78 = (.iconst 0, 0, 0, 0, 0) := rfl
theorem k184_79 : Kc C184 79 = (.iadd, 0, 0, 0, 0) := rfl
theorem k184_80 : Kc C184 80 = (.iaload, 0, 0, 0, 0) := rfl
theorem k184_81 : Kc C184 81 = (.ireturn, 0, 0, 0, 0) := rfl
theorem ev184 (d : Nat) (x0 : Nat) (x1 : Int32) (x2 : Int32) (x3 : Int32) (x4 : Int32) (h : Hp) : EvM (d + 1) 184 [.ref x0, .int x1, .int x2, .int x3, .int x4] h = EvI (EvM d) C184 1 0 [.ref x0, .int x1, .int x2, .int x3, .int x4, jk] [] h := rfl
theorem k185_0 : Kc C185 0 = (.iconst 0, 0, 0, 0, 0) := rfl
theorem k185_1 : Kc C185 1 = (.istore_n 1, 1, 0, 0, 0) := rfl
theorem k185_2 : Kc C185 2 = (.iload_n 1, 1, 0, 0, 0) := rfl
theorem k185_3 : Kc C185 3 = (.bipush 12, 0, 0, 0, 12) := rfl
theorem k185_5 : Kc C185 5 = (.if_icmp .ge 16, 21, 0, 0, 0) := rfl
theorem k185_8 : Kc C185 8 = (.aload_n 0, 0, 0, 0, 0) := rfl
theorem k185_9 : Kc C185 9 = (.getfield 35, 9, 19, 0, 0) := rfl
theorem k185_12 : Kc C185 12 = (.iload_n 1, 1, 0, 0, 0) := rfl
theorem k185_13 : Kc C185 13 = (.iload_n 1, 1, 0, 0, 0) := rfl
theorem k185_14 : Kc C185 14 = (.iastore, 0, 0, 0, 0) := rfl
theorem k185_15 : Kc C185 15 = (.iinc 1 1, 1, 0, 0, 1) := rfl
theorem k185_18 : Kc C185 18 = (.goto (-16), 2, 0, 0, 0) := rfl
theorem k185_21 : Kc C185 21 = (.return_, 0, 0, 0, 0) := rfl
theorem ev185 (d : Nat) (x0 : Nat) (h : Hp) : EvM (d + 1) 185 [.ref x0] h = EvI (EvM d) C185 0 0 [.ref x0, jk] [] h := rfl
theorem k186_0 : Kc C186 0 = (.aload_n 0, 0, 0, 0, 0) := rfl
theorem k186_1 : Kc C186 1 = (.iload_n 1, 1, 0, 0, 0) := rfl
theorem k186_2 : Kc C186 2 = (.invokevirtual 154, 151, 1, 29, 0) := rfl
theorem k186_5 : Kc C186 5 = (.ifCond .eq 23, 28, 0, 0, 0) := rfl
theorem k186_8 : Kc C186 8 = (.iload_n 2, 2, 0, 0, 0) := rfl
theorem k186_9 : Kc C186 9 = (.invokestatic 49, 135, 1, 29, 0) := rfl
theorem k186_12 : Kc C186 12 = (.ifCond .eq 16, 28, 0, 0, 0) := rfl
theorem k186_15 : Kc C186 15 = (.iload 4, 4, 0, 0, 0) := rfl
theorem k186_17 : Kc C186 17 = (.i2l, 0, 0, 0, 0) := rfl
theorem k186_18 : Kc C186 18 = (.lconst 1, 0, 0, 0, 1) := rfl
theorem k186_19 : Kc C186 19 = (.ldc2_w 203, 0, 0, 0, 12) := rfl
theorem k186_22 : Kc C186 22 = (.invokestatic 45, 131, 3, 29, 0) := rfl
theorem k186_25 : Kc C186 25 = (.ifCond .ne 6, 31, 0, 0, 0) := rfl
theorem k186_28 : Kc C186 28 = (.ldc 55, 0, 0, 0, (-1000001)) := rfl
theorem k186_30 : Kc C186 30 = (.ireturn, 0, 0, 0, 0) := rfl
theorem k186_31 : Kc C186 31 = (.aload_n 0, 0, 0, 0, 0) := rfl
theorem k186_32 : Kc C186 32 = (.iload_n 2, 2, 0, 0, 0) := rfl
theorem k186_33 : Kc C186 33 = (.iload_n 3, 3, 0, 0, 0) := rfl
theorem k186_34 : Kc C186 34 = (.iload 4, 4, 0, 0, 0) := rfl
theorem k186_36 : Kc C186 36 = (.invokevirtual 205, 183, 3, 28, 0) := rfl
theorem k186_39 : Kc C186 39 = (.istore 5, 5, 0, 0, 0) := rfl
theorem k186_41 : Kc C186 41 = (.iload 5, 5, 0, 0, 0) := rfl
theorem k186_43 : Kc C186 43 = (.ifCond .eq 6, 49, 0, 0, 0) := rfl
theorem k186_46 : Kc C186 46 = (.iload 5, 5, 0, 0, 0) := rfl
theorem k186_48 : Kc C186 48 = (.ireturn, 0, 0, 0, 0) := rfl
theorem k186_49 : Kc C186 49 = (.aload_n 0, 0, 0, 0, 0) := rfl
theorem k186_50 : Kc C186 50 = (.invokevirtual 208, 185, 0, 27, 0) := rfl
theorem k186_53 : Kc C186 53 = (.iconst 0, 0, 0, 0, 0) := rfl
theorem k186_54 : Kc C186 54 = (.istore 6, 6, 0, 0, 0) := rfl
theorem k186_56 : Kc C186 56 = (.iload 6, 6, 0, 0, 0) := rfl
theorem k186_58 : Kc C186 58 = (.sipush 1000, 0, 0, 0, 1000) := rfl
theorem k186_61 : Kc C186 61 = (.if_icmp .ge 46, 107, 0, 0, 0) := rfl
theorem k186_64 : Kc C186 64 = (.aload_n 0, 0, 0, 0, 0) := rfl
theorem k186_65 : Kc C186 65 = (.iload_n 1, 1, 0, 0, 0) := rfl
theorem k186_66 : Kc C186 66 = (.bipush 40, 0, 0, 0, 40) := rfl
theorem k186_68 : Kc C186 68 = (.iload_n 2, 2, 0, 0, 0) := rfl
theorem k186_69 : Kc C186 69 = (.imul, 0, 0, 0, 0) := rfl
theorem k186_70 : Kc C186 70 = (.iload_n 3, 3, 0, 0, 0) := rfl
theorem k186_71 : Kc C186 71 = (.iadd, 0, 0, 0, 0) := rfl
theorem k186_72 : Kc C186 72 = (.iload 4, 4, 0, 0, 0) := rfl
theorem k186_74 : Kc C186 74 = (.iload 6, 6, 0, 0, 0) := rfl
theorem k186_76 : Kc C186 76 = (.invokevirtual 211, 184, 4, 28, 0) := rfl
theorem k186_79 : Kc C186 79 = (.aload_n 0, 0, 0, 0, 0) := rfl
theorem k186_80 : Kc C186 80 = (.getfield 7, 9, 0, 0, 0) := rfl
theorem k186_83 : Kc C186 83 = (.iconst 0, 0, 0, 0, 0) := rfl
theorem k186_84 : Kc C186 84 = (.iload_n 1, 1, 0, 0, 0) := rfl
theorem k186_85 : Kc C186 85 = (.invokestatic 116, 153, 2, 28, 0) := rfl
theorem k186_88 : Kc C186 88 = (.iconst 0, 0, 0, 0, 0) := rfl
theorem k186_89 : Kc C186 89 = (.iadd, 0, 0, 0, 0) := rfl
theorem k186_90 : Kc C186 90 = (.iaload, 0, 0, 0, 0) := rfl
theorem k186_91 : Kc C186 91 = (.if_icmp .gt 10, 101, 0, 0, 0) := rfl
theorem k186_94 : Kc C186 94 = (.aload_n 0, 0, 0, 0, 0) := rfl
theorem k186_95 : Kc C186 95 = (.iload 6, 6, 0, 0, 0) := rfl
theorem k186_97 : Kc C186 97 = (.invokevirtual 60, 134, 1, 28, 0) := rfl
theorem k186_100 : Kc C186 100 = (.ireturn, 0, 0, 0, 0) := rfl
theorem k186_101 : Kc C186 101 = (.iinc 6 1, 6, 0, 0, 1) := rfl
theorem k186_104 : Kc C186 104 = (.goto (-48), 56, 0, 0, 0) := rfl
theorem k186_107 : Kc C186 107 = (.aload_n 0, 0, 0, 0, 0) := rfl
theorem k186_108 : Kc C186 108 = (.ldc 19, 0, 0, 0, (-1000000)) := rfl
theorem k186_110 : Kc C186 110 = (.invokevirtual 60, 134, 1, 28, 0) := rfl
theorem k186_113 : Kc C186 113 = (.ireturn, 0, 0, 0, 0) := rfl
theorem ev186 (d : Nat) (x0 : Nat) (x1 : Int32) (x2 : Int32) (x3 : Int32) (x4 : Int32) (h : Hp) : EvM (d + 1) 186 [.ref x0, .int x1, .int x2, .int x3, .int x4] h = EvI (EvM d) C186 1 0 [.ref x0, .int x1, .int x2, .int x3, .int x4, jk, jk] [] h := rfl
theorem k187_0 : Kc C187 0 = (.iconst 1, 0, 0, 0, 1) := rfl
theorem k187_1 : Kc C187 1 = (.istore_n 1, 1, 0, 0, 0) := rfl
theorem k187_2 : Kc C187 2 = (.iconst 2, 0, 0, 0, 2) := rfl
theorem k187_3 : Kc C187 3 = (.istore_n 2, 2, 0, 0, 0) := rfl
theorem k187_4 : Kc C187 4 = (.iload_n 2, 2, 0, 0, 0) := rfl
theorem k187_5 : Kc C187 5 = (.iload_n 0, 0, 0, 0, 0) := rfl
theorem k187_6 : Kc C187 6 = (.if_icmp .gt 13, 19, 0, 0, 0) := rfl
theorem k187_9 : Kc C187 9 = (.iload_n 1, 1, 0, 0, 0) := rfl
theorem k187_10 : Kc C187 10 = (.iload_n 2, 2, 0, 0, 0) := rfl
theorem k187_11 : Kc C187 11 = (.imul, 0, 0, 0, 0) := rfl
theorem k187_12 : Kc C187 12 = (.istore_n 1, 1, 0, 0, 0) := rfl
theorem k187_13 : Kc C187 13 = (.iinc 2 1, 2, 0, 0, 1) := rfl
theorem k187_16 : Kc C187 16 = (.goto (-12), 4, 0, 0, 0) := rfl
theorem k187_19 : Kc C187 19 = (.iload_n 1, 1, 0, 0, 0) := rfl
theorem k187_20 : Kc C187 20 = (.ireturn, 0, 0, 0, 0) := rfl
theorem ev187 (d : Nat) (x0 : Int32) (h : Hp) : EvM (d + 1) 187 [.int x0] h = EvI (EvM d) C187 1 0 [.int x0, jk, jk] [] h := rfl
theorem k188_0 : Kc C188 0 = (.iload_n 2, 2, 0, 0, 0) := rfl
theorem k188_1 : Kc C188 1 = (.invokestatic 214, 187, 1, 28, 0) := rfl
theorem k188_4 : Kc C188 4 = (.istore_n 3, 3, 0, 0, 0) := rfl
theorem k188_5 : Kc C188 5 = (.iload_n 1, 1, 0, 0, 0) := rfl
theorem k188_6 : Kc C188 6 = (.istore 4, 4, 0, 0, 0) := rfl
theorem k188_8 : Kc C188 8 = (.iconst 1, 0, 0, 0, 1) := rfl
theorem k188_9 : Kc C188 9 = (.iload_n 2, 2, 0, 0, 0) := rfl
theorem k188_10 : Kc C188 10 = (.ishl, 0, 0, 0, 0) := rfl
theorem k188_11 : Kc C188 11 = (.iconst 1, 0, 0, 0, 1) := rfl
theorem k188_12 : Kc C188 12 = (.isub, 0, 0, 0, 0) := rfl
theorem k188_13 : Kc C188 13 = (.istore 5, 5, 0, 0, 0) := rfl
theorem k188_15 : Kc C188 15 = (.iconst 0, 0, 0, 0, 0) := rfl
theorem k188_16 : Kc C188 16 = (.istore 6, 6, 0, 0, 0) := rfl
theorem k188_18 : Kc C188 18 = (.iload 6, 6, 0, 0, 0) := rfl
theorem k188_20 : Kc C188 20 = (.iload_n 2, 2, 0, 0, 0) := rfl
theorem k188_21 : Kc C188 21 = (.if_icmp .ge 84, 105, 0, 0, 0) := rfl
theorem k188_24 : Kc C188 24 = (.iload_n 3, 3, 0, 0, 0) := rfl
theorem k188_25 : Kc C188 25 = (.iload_n 2, 2, 0, 0, 0) := rfl
theorem k188_26 : Kc C188 26 = (.iload 6, 6, 0, 0, 0) := rfl
theorem k188_28 : Kc C188 28 = (.isub, 0, 0, 0, 0) := rfl
theorem k188_29 : Kc C188 29 = (.idiv, 0, 0, 0, 0) := rfl
theorem k188_30 : Kc C188 30 = (.istore_n 3, 3, 0, 0, 0) := rfl
theorem k188_31 : Kc C188 31 = (.iload 4, 4, 0, 0, 0) := rfl
theorem k188_33 : Kc C188 33 = (.iload_n 3, 3, 0, 0, 0) := rfl
theorem k188_34 : Kc C188 34 = (.idiv, 0, 0, 0, 0) := rfl
theorem k188_35 : Kc C188 35 = (.istore 7, 7, 0, 0, 0) := rfl
theorem k188_37 : Kc C188 37 = (.iload 4, 4, 0, 0, 0) := rfl
theorem k188_39 : Kc C188 39 = (.iload_n 3, 3, 0, 0, 0) := rfl
theorem k188_40 : Kc C188 40 = (.irem, 0, 0, 0, 0) := rfl
theorem k188_41 : Kc C188 41 = (.istore 4, 4, 0, 0, 0) := rfl
theorem k188_43 : Kc C188 43 = (.iconst 0, 0, 0, 0, 0) := rfl
theorem k188_44 : Kc C188 44 = (.istore 8, 8, 0, 0, 0) := rfl
theorem k188_46 : Kc C188 46 = (.iload 5, 5, 0, 0, 0) := rfl
theorem k188_48 : Kc C188 48 = (.iload 8, 8, 0, 0, 0) := rfl
theorem k188_50 : Kc C188 50 = (.invokestatic 217, 132, 2, 29, 0) := rfl
theorem k188_53 : Kc C188 53 = (.ifCond .eq 8, 61, 0, 0, 0) := rfl
theorem k188_56 : Kc C188 56 = (.iload 7, 7, 0, 0, 0) := rfl
theorem k188_58 : Kc C188 58 = (.ifCond .le 21, 79, 0, 0, 0) := rfl
theorem k188_61 : Kc C188 61 = (.iload 7, 7, 0, 0, 0) := rfl
theorem k188_63 : Kc C188 63 = (.iload 5, 5, 0, 0, 0) := rfl
theorem k188_65 : Kc C188 65 = (.iload 8, 8, 0, 0, 0) := rfl
theorem k188_67 : Kc C188 67 = (.ishr, 0, 0, 0, 0) := rfl
theorem k188_68 : Kc C188 68 = (.iconst 1, 0, 0, 0, 1) := rfl
theorem k188_69 : Kc C188 69 = (.iand, 0, 0, 0, 0) := rfl
theorem k188_70 : Kc C188 70 = (.isub, 0, 0, 0, 0) := rfl
theorem k188_71 : Kc C188 71 = (.istore 7, 7, 0, 0, 0) := rfl
theorem k188_73 : Kc C188 73 = (.iinc 8 1, 8, 0, 0, 1) := rfl
theorem k188_76 : Kc C188 76 = (.goto (-30), 46, 0, 0, 0) := rfl
theorem k188_79 : Kc C188 79 = (.aload_n 0, 0, 0, 0, 0) := rfl
theorem k188_80 : Kc C188 80 = (.getfield 35, 9, 19, 0, 0) := rfl
theorem k188_83 : Kc C188 83 = (.iload 6, 6, 0, 0, 0) := rfl
theorem k188_85 : Kc C188 85 = (.iload 8, 8, 0, 0, 0) := rfl
theorem k188_87 : Kc C188 87 = (.iastore, 0, 0, 0, 0) := rfl
theorem k188_88 : Kc C188 88 = (.iload 5, 5, 0, 0, 0) := rfl
theorem k188_90 : Kc C188 90 = (.iconst 1, 0, 0, 0, 1) := rfl
theorem k188_91 : Kc C188 91 = (.iload 8, 8, 0, 0, 0) := rfl
theorem k188_93 : Kc C188 93 = (.ishl, 0, 0, 0, 0) := rfl
theorem k188_94 : Kc C188 94 = (.iconst (-1), 0, 0, 0, (-1)) := rfl
theorem k188_95 : Kc C188 95 = (.ixor, 0, 0, 0, 0) := rfl
theorem k188_96 : Kc C188 96 = (.iand, 0, 0, 0, 0) := rfl
theorem k188_97 : Kc C188 97 = (.istore 5, 5, 0, 0, 0) := rfl
theorem k188_99 : Kc C188 99 = (.iinc 6 1, 6, 0, 0, 1) := rfl
theorem k188_102 : Kc C188 102 = (.goto (-84), 18, 0, 0, 0) := rfl
theorem k188_105 : Kc C188 105 = (.return_, 0, 0, 0, 0) := rfl
theorem ev188 (d : Nat) (x0 : Nat) (x1 : Int32) (x2 : Int32) (h : Hp) : EvM (d + 1) 188 [.ref x0, .int x1, .int x2] h = EvI (EvM d) C188 0 0 [.ref x0, .int x1, .int x2, jk, jk, jk, jk, jk, jk] [] h := rfl
theorem k189_0 : Kc C189 0 = (.aload_n 0, 0, 0, 0, 0) := rfl
theorem k189_1 : Kc C189 1 = (.iload_n 1, 1, 0, 0, 0) := rfl
theorem k189_2 : Kc C189 2 = (.invokevirtual 154, 151, 1, 29, 0) := rfl
theorem k189_5 : Kc C189 5 = (.ifCond .eq 40, 45, 0, 0, 0) := rfl
theorem k189_8 : Kc C189 8 = (.iload_n 2, 2, 0, 0, 0) := rfl
theorem k189_9 : Kc C189 9 = (.invokestatic 49, 135, 1, 29, 0) := rfl
theorem k189_12 : Kc C189 12 = (.ifCond .eq 33, 45, 0, 0, 0) := rfl
theorem k189_15 : Kc C189 15 = (.iload 4, 4, 0, 0, 0) := rfl
theorem k189_17 : Kc C189 17 = (.i2l, 0, 0, 0, 0) := rfl
theorem k189_18 : Kc C189 18 = (.lconst 1, 0, 0, 0, 1) := rfl
theorem k189_19 : Kc C189 19 = (.ldc2_w 220, 0, 0, 0, 6) := rfl
theorem k189_22 : Kc C189 22 = (.invokestatic 45, 131, 3, 29, 0) := rfl
theorem k189_25 : Kc C189 25 = (.ifCond .eq 20, 45, 0, 0, 0) := rfl
theorem k189_28 : Kc C189 28 = (.iload 5, 5, 0, 0, 0) := rfl
theorem k189_30 : Kc C189 30 = (.i2l, 0, 0, 0, 0) := rfl
theorem k189_31 : Kc C189 31 = (.ldc2_w 222, 0, 0, 0, (-1)) := rfl
theorem k189_34 : Kc C189 34 = (.iload 4, 4, 0, 0, 0) := rfl
theorem k189_36 : Kc C189 36 = (.iconst 1, 0, 0, 0, 1) := rfl
theorem k189_37 : Kc C189 37 = (.isub, 0, 0, 0, 0) := rfl
theorem k189_38 : Kc C189 38 = (.i2l, 0, 0, 0, 0) := rfl
theorem k189_39 : Kc C189 39 = (.invokestatic 45, 131, 3, 29, 0) := rfl
theorem k189_42 : Kc C189 42 = (.ifCond .ne 6, 48, 0, 0, 0) := rfl
theorem k189_45 : Kc C189 45 = (.ldc 55, 0, 0, 0, (-1000001)) := rfl
theorem k189_47 : Kc C189 47 = (.ireturn, 0, 0, 0, 0) := rfl
theorem k189_48 : Kc C189 48 = (.aload_n 0, 0, 0, 0, 0) := rfl
theorem k189_49 : Kc C189 49 = (.iload_n 2, 2, 0, 0, 0) := rfl
theorem k189_50 : Kc C189 50 = (.iload_n 3, 3, 0, 0, 0) := rfl
theorem k189_51 : Kc C189 51 = (.iload 4, 4, 0, 0, 0) := rfl
theorem k189_53 : Kc C189 53 = (.invokevirtual 205, 183, 3, 28, 0) := rfl
theorem k189_56 : Kc C189 56 = (.istore 6, 6, 0, 0, 0) := rfl
theorem k189_58 : Kc C189 58 = (.iload 6, 6, 0, 0, 0) := rfl
theorem k189_60 : Kc C189 60 = (.ifCond .eq 6, 66, 0, 0, 0) := rfl
theorem k189_63 : Kc C189 63 = (.iload 6, 6, 0, 0, 0) := rfl
theorem k189_65 : Kc C189 65 = (.ireturn, 0, 0, 0, 0) := rfl
theorem k189_66 : Kc C189 66 = (.iconst 0, 0, 0, 0, 0) := rfl
theorem k189_67 : Kc C189 67 = (.istore 7, 7, 0, 0, 0) := rfl
theorem k189_69 : Kc C189 69 = (.sipush 10000, 0, 0, 0, 10000) := rfl
theorem k189_72 : Kc C189 72 = (.istore 8, 8, 0, 0, 0) := rfl
theorem k189_74 : Kc C189 74 = (.iconst 0, 0, 0, 0, 0) := rfl
theorem k189_75 : Kc C189 75 = (.istore 9, 9, 0, 0, 0) := rfl
theorem k189_77 : Kc C189 77 = (.iload 9, 9, 0, 0, 0) := rfl
theorem k189_79 : Kc C189 79 = (.iload 4, 4, 0, 0, 0) := rfl
theorem k189_81 : Kc C189 81 = (.invokestatic 214, 187, 1, 28, 0) := rfl
theorem k189_84 : Kc C189 84 = (.if_icmp .ge 65, 149, 0, 0, 0) := rfl
theorem k189_87 : Kc C189 87 = (.aload_n 0, 0, 0, 0, 0) := rfl
theorem k189_88 : Kc C189 88 = (.iload 9, 9, 0, 0, 0) := rfl
theorem k189_90 : Kc C189 90 = (.iload 4, 4, 0, 0, 0) := rfl
theorem k189_92 : Kc C189 92 = (.invokevirtual 224, 188, 2, 27, 0) := rfl
theorem k189_95 : Kc C189 95 = (.aload_n 0, 0, 0, 0, 0) := rfl
theorem k189_96 : Kc C189 96 = (.iload_n 1, 1, 0, 0, 0) := rfl
theorem k189_97 : Kc C189 97 = (.bipush 40, 0, 0, 0, 40) := rfl
theorem k189_99 : Kc C189 99 = (.iload_n 2, 2, 0, 0, 0) := rfl
theorem k189_100 : Kc C189 100 = (.imul, 0, 0, 0, 0) := rfl
theorem k189_101 : Kc C189 101 = (.iload_n 3, 3, 0, 0, 0) := rfl
theorem k189_102 : Kc C189 102 = (.iadd, 0, 0, 0, 0) := rfl
theorem k189_103 : Kc C189 103 = (.iload 4, 4, 0, 0, 0) := rfl
theorem k189_105 : Kc C189 105 = (.iconst 0, 0, 0, 0, 0) := rfl
theorem k189_106 : Kc C189 106 = (.invokevirtual 211, 184, 4, 28, 0) := rfl
theorem k189_109 : Kc C189 109 = (.istore 10, 10, 0, 0, 0) := rfl
theorem k189_111 : Kc C189 111 = (.iload 10, 10, 0, 0, 0) := rfl
theorem k189_113 : Kc C189 113 = (.iload 8, 8, 0, 0, 0) := rfl
theorem k189_115 : Kc C189 115 = (.if_icmp .ge 8, 123, 0, 0, 0) := rfl
theorem k189_118 : Kc C189 118 = (.iload 9, 9, 0, 0, 0) := rfl
theorem k189_120 : Kc C189 120 = (.goto 5, 125, 0, 0, 0) := rfl
theorem k189_123 : Kc C189 123 = (.iload 7, 7, 0, 0, 0) := rfl
theorem k189_125 : Kc C189 125 = (.istore 7, 7, 0, 0, 0) := rfl
theorem k189_127 : Kc C189 127 = (.iload 10, 10, 0, 0, 0) := rfl
theorem k189_129 : Kc C189 129 = (.iload 8, 8, 0, 0, 0) := rfl
theorem k189_131 : Kc C189 131 = (.if_icmp .ge 8, 139, 0, 0, 0) := rfl
theorem k189_134 : Kc C189 134 = (.iload 10, 10, 0, 0, 0) := rfl
theorem k189_136 : Kc C189 136 = (.goto 5, 141, 0, 0, 0) := rfl
theorem k189_139 : Kc C189 139 = (.iload 8, 8, 0, 0, 0) := rfl
theorem k189_141 : Kc C189 141 = (.istore 8, 8, 0, 0, 0) := rfl
theorem k189_143 : Kc C189 143 = (.iinc 9 1, 9, 0, 0, 1) := rfl
theorem k189_146 : Kc C189 146 = (.goto (-69), 77, 0, 0, 0) := rfl
theorem k189_149 : Kc C189 149 = (.aload_n 0, 0, 0, 0, 0) := rfl
theorem k189_150 : Kc C189 150 = (.iload 7, 7, 0, 0, 0) := rfl
theorem k189_152 : Kc C189 152 = (.iload 4, 4, 0, 0, 0) := rfl
theorem k189_154 : Kc C189 154 = (.invokevirtual 224, 188, 2, 27, 0) := rfl
theorem k189_157 : Kc C189 157 = (.aload_n 0, 0, 0, 0, 0) := rfl
theorem k189_158 : Kc C189 158 = (.iload 5, 5, 0, 0, 0) := rfl
theorem k189_160 : Kc C189 160 = (.iconst (-1), 0, 0, 0, (-1)) := rfl
theorem k189_161 : Kc C189 161 = (.if_icmp .ne 8, 169, 0, 0, 0) := rfl
theorem k189_164 : Kc C189 164 = (.iload 8, 8, 0, 0, 0) := rfl
theorem k189_166 : Kc C189 166 = (.goto 10, 176, 0, 0, 0) := rfl
theorem k189_169 : Kc C189 169 = (.aload_n 0, 0, 0, 0, 0) := rfl
theorem k189_170 : Kc C189 170 = (.getfield 35, 9, 19, 0, 0) := rfl
theorem k189_173 : Kc C189 173 = (.iload 5, 5, 0, 0, 0) := rfl
theorem k189_175 : Kc C189 175 = (.iaload, 0, 0, 0, 0) := rfl
theorem k189_176 : Kc C189 176 = (.invokevirtual 60, 134, 1, 28, 0) := rfl
theorem k189_179 : Kc C189 179 = (.ireturn, 0, 0, 0, 0) := rfl
theorem ev189 (d : Nat) (x0 : Nat) (x1 : Int32) (x2 : Int32) (x3 : Int32) (x4 : Int32) (x5 : Int32) (h : Hp) : EvM (d + 1) 189 [.ref x0, .int x1, .int x2, .int x3, .int x4, .int x5] h = EvI (EvM d) C189 1 0 [.ref x0, .int x1, .int x2, .int x3, .int x4, .int x5, jk, jk, jk, jk, jk] [] h := rfl
theorem k190_0 : Kc C190 0 = (.aload_n 0, 0, 0, 0, 0) := rfl
theorem k190_1 : Kc C190 1 = (.getfield 7, 9, 0, 0, 0) := rfl
theorem k190_4 : Kc C190 4 = (.iconst 4, 0, 0, 0, 4) := rfl
theorem k190_5 : Kc C190 5 = (.iconst 3, 0, 0, 0, 3) := rfl
theorem k190_6 : Kc C190 6 = (.iload_n 1, 1, 0, 0, 0) := rfl
theorem k190_7 : Kc C190 7 = (.imul, 0, 0, 0, 0) := rfl
theorem k190_8 : Kc C190 8 = (.iadd, 0, 0, 0, 0) := rfl
theorem k190_9 : Kc C190 9 = (.iconst 2, 0, 0, 0, 2) := rfl
theorem k190_10 : Kc C190 10 = (.iadd, 0, 0, 0, 0) := rfl
theorem k190_11 : Kc C190 11 = (.iaload, 0, 0, 0, 0) := rfl
theorem k190_12 : Kc C190 12 = (.iload_n 2, 2, 0, 0, 0) := rfl
theorem k190_13 : Kc C190 13 = (.if_icmp .gt 31, 44, 0, 0, 0) := rfl
theorem k190_16 : Kc C190 16 = (.aload_n 0, 0, 0, 0, 0) := rfl
theorem k190_17 : Kc C190 17 = (.getfield 7, 9, 0, 0, 0) := rfl
theorem k190_20 : Kc C190 20 = (.iconst 0, 0, 0, 0, 0) := rfl
theorem k190_21 : Kc C190 21 = (.iload_n 1, 1, 0, 0, 0) := rfl
theorem k190_22 : Kc C190 22 = (.invokestatic 116, 153, 2, 28, 0) := rfl
theorem k190_25 : Kc C190 25 = (.iconst 0, 0, 0, 0, 0) := rfl
theorem k190_26 : Kc C190 26 = (.iadd, 0, 0, 0, 0) := rfl
theorem k190_27 : Kc C190 27 = (.iaload, 0, 0, 0, 0) := rfl
theorem k190_28 : Kc C190 28 = (.ifCond .ne 16, 44, 0, 0, 0) := rfl
theorem k190_31 : Kc C190 31 = (.aload_n 0, 0, 0, 0, 0) := rfl
theorem k190_32 : Kc C190 32 = (.iconst 0, 0, 0, 0, 0) := rfl
theorem k190_33 : Kc C190 33 = (.iload_n 1, 1, 0, 0, 0) := rfl
theorem k190_34 : Kc C190 34 = (.invokevirtual 126, 154, 2, 28, 0) := rfl
theorem k190_37 : Kc C190 37 = (.ifCond .le 7, 44, 0, 0, 0) := rfl
theorem k190_40 : Kc C190 40 = (.iconst 1, 0, 0, 0, 1) := rfl
theorem k190_41 : Kc C190 41 = (.goto 4, 45, 0, 0, 0) := rfl
theorem k190_44 : Kc C190 44 = (.iconst 0, 0, 0, 0, 0) := rfl
theorem k190_45 : Kc C190 45 = (.ireturn, 0, 0, 0, 0) := rfl
theorem ev190 (d : Nat) (x0 : Nat) (x1 : Int32) (x2 : Int32) (h : Hp) : EvM (d + 1) 190 [.ref x0, .int x1, .int x2] h = EvI (EvM d) C190 2 0 [.ref x0, .int x1, .int x2] [] h := rfl
theorem k191_0 : Kc C191 0 = (.aload_n 0, 0, 0, 0, 0) := rfl
theorem k191_1 : Kc C191 1 = (.getfield 7, 9, 0, 0, 0) := rfl
theorem k191_4 : Kc C191 4 = (.iconst 4, 0, 0, 0, 4) := rfl
theorem k191_5 : Kc C191 5 = (.iconst 3, 0, 0, 0, 3) := rfl
theorem k191_6 : Kc C191 6 = (.iload_n 1, 1, 0, 0, 0) := rfl
theorem k191_7 : Kc C191 7 = (.imul, 0, 0, 0, 0) := rfl
theorem k191_8 : Kc C191 8 = (.iadd, 0, 0, 0, 0) := rfl
theorem k191_9 : Kc C191 9 = (.iconst 2, 0, 0, 0, 2) := rfl
theorem k191_10 : Kc C191 10 = (.iadd, 0, 0, 0, 0) := rfl
theorem k191_11 : Kc C191 11 = (.iaload, 0, 0, 0, 0) := rfl
theorem k191_12 : Kc C191 12 = (.iload_n 2, 2, 0, 0, 0) := rfl
theorem k191_13 : Kc C191 13 = (.if_icmp .lt 22, 35, 0, 0, 0) := rfl
theorem k191_16 : Kc C191 16 = (.aload_n 0, 0, 0, 0, 0) := rfl
theorem k191_17 : Kc C191 17 = (.getfield 7, 9, 0, 0, 0) := rfl
theorem k191_20 : Kc C191 20 = (.iconst 0, 0, 0, 0, 0) := rfl
theorem k191_21 : Kc C191 21 = (.iload_n 1, 1, 0, 0, 0) := rfl
theorem k191_22 : Kc C191 22 = (.invokestatic 116, 153, 2, 28, 0) := rfl
theorem k191_25 : Kc C191 25 = (.iconst 0, 0, 0, 0, 0) := rfl
theorem k191_26 : Kc C191 26 = (.iadd, 0, 0, 0, 0) := rfl
theorem k191_27 : Kc C191 27 = (.iaload, 0, 0, 0, 0) := rfl
theorem k191_28 : Kc C191 28 = (.ifCond .le 7, 35, 0, 0, 0) := rfl
theorem k191_31 : Kc C191 31 = (.iconst 1, 0, 0, 0, 1) := rfl
theorem k191_32 : Kc C191 32 = (.goto 4, 36, 0, 0, 0) := rfl
theorem k191_35 : Kc C191 35 = (.iconst 0, 0, 0, 0, 0) := rfl
theorem k191_36 : Kc C191 36 = (.ireturn, 0, 0, 0, 0) := rfl
theorem ev191 (d : Nat) (x0 : Nat) (x1 : Int32) (x2 : Int32) (h : Hp) : EvM (d + 1) 191 [.ref x0, .int x1, .int x2] h = EvI (EvM d) C191 2 0 [.ref x0, .int x1, .int x2] [] h := rfl
theorem k192_0 : Kc C192 0 = (.iconst 0, 0, 0, 0, 0) := rfl
theorem k192_1 : Kc C192 1 = (.istore_n 2, 2, 0, 0, 0) := rfl
theorem k192_2 : Kc C192 2 = (.iconst 0, 0, 0, 0, 0) := rfl
theorem k192_3 : Kc C192 3 = (.istore_n 3, 3, 0, 0, 0) := rfl
theorem k192_4 : Kc C192 4 = (.iload_n 3, 3, 0, 0, 0) := rfl
theorem k192_5 : Kc C192 5 = (.aload_n 0, 0, 0, 0, 0) := rfl
theorem k192_6 : Kc C192 6 = (.getfield 7, 9, 0, 0, 0) := rfl
theorem k192_9 : Kc C192 9 = (.iconst 3, 0, 0, 0, 3) := rfl
theorem k192_10 : Kc C192 10 = (.iaload, 0, 0, 0, 0) := rfl
theorem k192_11 : Kc C192 11 = (.if_icmp .ge 31, 42, 0, 0, 0) := rfl
theorem k192_14 : Kc C192 14 = (.iload_n 2, 2, 0, 0, 0) := rfl
theorem k192_15 : Kc C192 15 = (.aload_n 0, 0, 0, 0, 0) := rfl
theorem k192_16 : Kc C192 16 = (.iload_n 3, 3, 0, 0, 0) := rfl
theorem k192_17 : Kc C192 17 = (.iload_n 1, 1, 0, 0, 0) := rfl
theorem k192_18 : Kc C192 18 = (.invokevirtual 227, 190, 2, 29, 0) := rfl
theorem k192_21 : Kc C192 21 = (.ifCond .eq 12, 33, 0, 0, 0) := rfl
theorem k192_24 : Kc C192 24 = (.aload_n 0, 0, 0, 0, 0) := rfl
theorem k192_25 : Kc C192 25 = (.iconst 0, 0, 0, 0, 0) := rfl
theorem k192_26 : Kc C192 26 = (.iload_n 3, 3, 0, 0, 0) := rfl
theorem k192_27 : Kc C192 27 = (.invokevirtual 126, 154, 2, 28, 0) := rfl
theorem k192_30 : Kc C192 30 = (.goto 4, 34, 0, 0, 0) := rfl
theorem k192_33 : Kc C192 33 = (.iconst 0, 0, 0, 0, 0) := rfl
theorem k192_34 : Kc C192 34 = (.iadd, 0, 0, 0, 0) := rfl
theorem k192_35 : Kc C192 35 = (.istore_n 2, 2, 0, 0, 0) := rfl
theorem k192_36 : Kc C192 36 = (.iinc 3 1, 3, 0, 0, 1) := rfl
theorem k192_39 : Kc C192 39 = (.goto (-35), 4, 0, 0, 0) := rfl
theorem k192_42 : Kc C192 42 = (.iload_n 2, 2, 0, 0, 0) := rfl
theorem k192_43 : Kc C192 43 = (.ireturn, 0, 0, 0, 0) := rfl
theorem ev192 (d : Nat) (x0 : Nat) (x1 : Int32) (h : Hp) : EvM (d + 1) 192 [.ref x0, .int x1] h = EvI (EvM d) C192 1 0 [.ref x0, .int x1, jk, jk] [] h := rfl
theorem k193_0 : Kc C193 0 = (.iconst 0, 0, 0, 0, 0) := rfl
theorem k193_1 : Kc C193 1 = (.istore_n 2, 2, 0, 0, 0) := rfl
theorem k193_2 : Kc C193 2 = (.iconst 0, 0, 0, 0, 0) := rfl
theorem k193_3 : Kc C193 3 = (.istore_n 3, 3, 0, 0, 0) := rfl
theorem k193_4 : Kc C193 4 = (.iload_n 3, 3, 0, 0, 0) := rfl
theorem k193_5 : Kc C193 5 = (.aload_n 0, 0, 0, 0, 0) := rfl
theorem k193_6 : Kc C193 6 = (.getfield 7, 9, 0, 0, 0) := rfl
theorem k193_9 : Kc C193 9 = (.iconst 3, 0, 0, 0, 3) := rfl
theorem k193_10 : Kc C193 10 = (.iaload, 0, 0, 0, 0) := rfl
theorem k193_11 : Kc C193 11 = (.if_icmp .ge 37, 48, 0, 0, 0) := rfl
theorem k193_14 : Kc C193 14 = (.iload_n 2, 2, 0, 0, 0) := rfl
theorem k193_15 : Kc C193 15 = (.aload_n 0, 0, 0, 0, 0) := rfl
theorem k193_16 : Kc C193 16 = (.iload_n 3, 3, 0, 0, 0) := rfl
theorem k193_17 : Kc C193 17 = (.iload_n 1, 1, 0, 0, 0) := rfl
theorem k193_18 : Kc C193 18 = (.invokevirtual 230, 191, 2, 29, 0) := rfl
theorem k193_21 : Kc C193 21 = (.ifCond .eq 18, 39, 0, 0, 0) := rfl
theorem k193_24 : Kc C193 24 = (.aload_n 0, 0, 0, 0, 0) := rfl
theorem k193_25 : Kc C193 25 = (.getfield 7, 9, 0, 0, 0) := rfl
theorem k193_28 : Kc C193 28 = (.iconst 0, 0, 0, 0, 0) := rfl
theorem k193_29 : Kc C193 29 = (.iload_n 3, 3, 0, 0, 0) := rfl
theorem k193_30 : Kc C193 30 = (.invokestatic 116, 153, 2, 28, 0) := rfl
theorem k193_33 : Kc C193 33 = (.iconst 0, 0, 0, 0, 0) := rfl
theorem k193_34 : Kc C193 34 = (.iadd, 0, 0, 0, 0) := rfl
theorem k193_35 : Kc C193 35 = (.iaload, 0, 0, 0, 0) := rfl
theorem k193_36 : Kc C193 36 = (.goto 4, 40, 0, 0, 0) := rfl
theorem k193_39 : Kc C193 39 = (.iconst 0, 0, 0, 0, 0) := rfl
theorem k193_40 : Kc C193 40 = (.iadd, 0, 0, 0, 0) := rfl
theorem k193_41 : Kc C193 41 = (.istore_n 2, 2, 0, 0, 0) := rfl
theorem k193_42 : Kc C193 42 = (.iinc 3 1, 3, 0, 0, 1) := rfl
theorem k193_45 : Kc C193 45 = (.goto (-41), 4, 0, 0, 0) := rfl
theorem k193_48 : Kc C193 48 = (.iload_n 2, 2, 0, 0, 0) := rfl
theorem k193_49 : Kc C193 49 = (.ireturn, 0, 0, 0, 0) := rfl
theorem ev193 (d : Nat) (x0 : Nat) (x1 : Int32) (h : Hp) : EvM (d + 1) 193 [.ref x0, .int x1] h = EvI (EvM d) C193 1 0 [.ref x0, .int x1, jk, jk] [] h := rfl
theorem k194_0 : Kc C194 0 = (.aload_n 0, 0, 0, 0, 0) := rfl
theorem k194_1 : Kc C194 1 = (.getfield 7, 9, 0, 0, 0) := rfl
theorem k194_4 : Kc C194 4 = (.iconst 0, 0, 0, 0, 0) := rfl
theorem k194_5 : Kc C194 5 = (.iaload, 0, 0, 0, 0) := rfl
theorem k194_6 : Kc C194 6 = (.ifCond .ne 6, 12, 0, 0, 0) := rfl
theorem k194_9 : Kc C194 9 = (.ldc 153, 0, 0, 0, (-1000002)) := rfl
theorem k194_11 : Kc C194 11 = (.ireturn, 0, 0, 0, 0) := rfl
theorem k194_12 : Kc C194 12 = (.iload_n 1, 1, 0, 0, 0) := rfl
theorem k194_13 : Kc C194 13 = (.i2l, 0, 0, 0, 0) := rfl
theorem k194_14 : Kc C194 14 = (.lconst 0, 0, 0, 0, 0) := rfl
theorem k194_15 : Kc C194 15 = (.ldc2_w 233, 0, 0, 0, 99) := rfl
theorem k194_18 : Kc C194 18 = (.invokestatic 45, 131, 3, 29, 0) := rfl
theorem k194_21 : Kc C194 21 = (.ifCond .eq 13, 34, 0, 0, 0) := rfl
theorem k194_24 : Kc C194 24 = (.iload_n 2, 2, 0, 0, 0) := rfl
theorem k194_25 : Kc C194 25 = (.i2l, 0, 0, 0, 0) := rfl
theorem k194_26 : Kc C194 26 = (.lconst 0, 0, 0, 0, 0) := rfl
theorem k194_27 : Kc C194 27 = (.lconst 1, 0, 0, 0, 1) := rfl
theorem k194_28 : Kc C194 28 = (.invokestatic 45, 131, 3, 29, 0) := rfl
theorem k194_31 : Kc C194 31 = (.ifCond .ne 6, 37, 0, 0, 0) := rfl
theorem k194_34 : Kc C194 34 = (.ldc 55, 0, 0, 0, (-1000001)) := rfl
theorem k194_36 : Kc C194 36 = (.ireturn, 0, 0, 0, 0) := rfl
theorem k194_37 : Kc C194 37 = (.iload_n 2, 2, 0, 0, 0) := rfl
theorem k194_38 : Kc C194 38 = (.ifCond .ne 11, 49, 0, 0, 0) := rfl
theorem k194_41 : Kc C194 41 = (.aload_n 0, 0, 0, 0, 0) := rfl
theorem k194_42 : Kc C194 42 = (.iload_n 1, 1, 0, 0, 0) := rfl
theorem k194_43 : Kc C194 43 = (.invokevirtual 235, 192, 1, 28, 0) := rfl
theorem k194_46 : Kc C194 46 = (.goto 8, 54, 0, 0, 0) := rfl
theorem k194_49 : Kc C194 49 = (.aload_n 0, 0, 0, 0, 0) := rfl
theorem k194_50 : Kc C194 50 = (.iload_n 1, 1, 0, 0, 0) := rfl
theorem k194_51 : Kc C194 51 = (.invokevirtual 238, 193, 1, 28, 0) := rfl
theorem k194_54 : Kc C194 54 = (.ireturn, 0, 0, 0, 0) := rfl
theorem ev194 (d : Nat) (x0 : Nat) (x1 : Int32) (x2 : Int32) (h : Hp) : EvM (d + 1) 194 [.ref x0, .int x1, .int x2] h = EvI (EvM d) C194 1 0 [.ref x0, .int x1, .int x2] [] h := rfl
theorem k195_0 : Kc C195 0 = (.aload_n 0, 0, 0, 0, 0) := rfl
theorem k195_1 : Kc C195 1 = (.getfield 7, 9, 0, 0, 0) := rfl
theorem k195_4 : Kc C195 4 = (.iconst 0, 0, 0, 0, 0) := rfl
theorem k195_5 : Kc C195 5 = (.iaload, 0, 0, 0, 0) := rfl
theorem k195_6 : Kc C195 6 = (.ifCond .ne 6, 12, 0, 0, 0) := rfl
theorem k195_9 : Kc C195 9 = (.ldc 153, 0, 0, 0, (-1000002)) := rfl
theorem k195_11 : Kc C195 11 = (.ireturn, 0, 0, 0, 0) := rfl
theorem k195_12 : Kc C195 12 = (.iload_n 1, 1, 0, 0, 0) := rfl
theorem k195_13 : Kc C195 13 = (.i2l, 0, 0, 0, 0) := rfl
theorem k195_14 : Kc C195 14 = (.lconst 0, 0, 0, 0, 0) := rfl
theorem k195_15 : Kc C195 15 = (.ldc2_w 53, 0, 0, 0, 2) := rfl
theorem k195_18 : Kc C195 18 = (.invokestatic 45, 131, 3, 29, 0) := rfl
theorem k195_21 : Kc C195 21 = (.ifCond .ne 6, 27, 0, 0, 0) := rfl
theorem k195_24 : Kc C195 24 = (.ldc 55, 0, 0, 0, (-1000001)) := rfl
theorem k195_26 : Kc C195 26 = (.ireturn, 0, 0, 0, 0) := rfl
theorem k195_27 : Kc C195 27 = (.iconst 0, 0, 0, 0, 0) := rfl
theorem k195_28 : Kc C195 28 = (.istore_n 2, 2, 0, 0, 0) := rfl
theorem k195_29 : Kc C195 29 = (.iload_n 2, 2, 0, 0, 0) := rfl
theorem k195_30 : Kc C195 30 = (.bipush 100, 0, 0, 0, 100) := rfl
theorem k195_32 : Kc C195 32 = (.if_icmp .ge 22, 54, 0, 0, 0) := rfl
theorem k195_35 : Kc C195 35 = (.aload_n 0, 0, 0, 0, 0) := rfl
theorem k195_36 : Kc C195 36 = (.iload_n 2, 2, 0, 0, 0) := rfl
theorem k195_37 : Kc C195 37 = (.invokevirtual 238, 193, 1, 28, 0) := rfl
theorem k195_40 : Kc C195 40 = (.aload_n 0, 0, 0, 0, 0) := rfl
theorem k195_41 : Kc C195 41 = (.iload_n 2, 2, 0, 0, 0) := rfl
theorem k195_42 : Kc C195 42 = (.invokevirtual 235, 192, 1, 28, 0) := rfl
theorem k195_45 : Kc C195 45 = (.if_icmp .le 9, 54, 0, 0, 0) := rfl
theorem k195_48 : Kc C195 48 = (.iinc 2 1, 2, 0, 0, 1) := rfl
theorem k195_51 : Kc C195 51 = (.goto (-22), 29, 0, 0, 0) := rfl
theorem k195_54 : Kc C195 54 = (.iload_n 2, 2, 0, 0, 0) := rfl
theorem k195_55 : Kc C195 55 = (.bipush 100, 0, 0, 0, 100) := rfl
theorem k195_57 : Kc C195 57 = (.if_icmp .ne 6, 63, 0, 0, 0) := rfl
theorem k195_60 : Kc C195 60 = (.ldc 19, 0, 0, 0, (-1000000)) := rfl
theorem k195_62 : Kc C195 62 = (.ireturn, 0, 0, 0, 0) := rfl
theorem k195_63 : Kc C195 63 = (.iconst 0, 0, 0, 0, 0) := rfl
theorem k195_64 : Kc C195 64 = (.istore_n 3, 3, 0, 0, 0) := rfl
theorem k195_65 : Kc C195 65 = (.iconst 0, 0, 0, 0, 0) := rfl
theorem k195_66 : Kc C195 66 = (.istore 4, 4, 0, 0, 0) := rfl
theorem k195_68 : Kc C195 68 = (.iload 4, 4, 0, 0, 0) := rfl
theorem k195_70 : Kc C195 70 = (.aload_n 0, 0, 0, 0, 0) := rfl
theorem k195_71 : Kc C195 71 = (.getfield 7, 9, 0, 0, 0) := rfl
theorem k195_74 : Kc C195 74 = (.iconst 3, 0, 0, 0, 3) := rfl
theorem k195_75 : Kc C195 75 = (.iaload, 0, 0, 0, 0) := rfl
theorem k195_76 : Kc C195 76 = (.if_icmp .ge 49, 125, 0, 0, 0) := rfl
theorem k195_79 : Kc C195 79 = (.iload_n 1, 1, 0, 0, 0) := rfl
theorem k195_80 : Kc C195 80 = (.iconst 1, 0, 0, 0, 1) := rfl
theorem k195_81 : Kc C195 81 = (.if_icmp .ne 13, 94, 0, 0, 0) := rfl
theorem k195_84 : Kc C195 84 = (.aload_n 0, 0, 0, 0, 0) := rfl
theorem k195_85 : Kc C195 85 = (.iload 4, 4, 0, 0, 0) := rfl
theorem k195_87 : Kc C195 87 = (.iload_n 2, 2, 0, 0, 0) := rfl
theorem k195_88 : Kc C195 88 = (.invokevirtual 227, 190, 2, 29, 0) := rfl
theorem k195_91 : Kc C195 91 = (.goto 10, 101, 0, 0, 0) := rfl
theorem k195_94 : Kc C195 94 = (.aload_n 0, 0, 0, 0, 0) := rfl
theorem k195_95 : Kc C195 95 = (.iload 4, 4, 0, 0, 0) := rfl
theorem k195_97 : Kc C195 97 = (.iload_n 2, 2, 0, 0, 0) := rfl
theorem k195_98 : Kc C195 98 = (.invokevirtual 230, 191, 2, 29, 0) := rfl
theorem k195_101 : Kc C195 101 = (.istore 5, 5, 0, 0, 0) := rfl
theorem k195_103 : Kc C195 103 = (.iload_n 3, 3, 0, 0, 0) := rfl
theorem k195_104 : Kc C195 104 = (.iload 5, 5, 0, 0, 0) := rfl
theorem k195_106 : Kc C195 106 = (.ifCond .eq 10, 116, 0, 0, 0) := rfl
theorem k195_109 : Kc C195 109 = (.iconst 1, 0, 0, 0, 1) := rfl
theorem k195_110 : Kc C195 110 = (.iload 4, 4, 0, 0, 0) := rfl
theorem k195_112 : Kc C195 112 = (.ishl, 0, 0, 0, 0) := rfl
theorem k195_113 : Kc C195 113 = (.goto 4, 117, 0, 0, 0) := rfl
theorem k195_116 : Kc C195 116 = (.iconst 0, 0, 0, 0, 0) := rfl
theorem k195_117 : Kc C195 117 = (.ior, 0, 0, 0, 0) := rfl
theorem k195_118 : Kc C195 118 = (.istore_n 3, 3, 0, 0, 0) := rfl
theorem k195_119 : Kc C195 119 = (.iinc 4 1, 4, 0, 0, 1) := rfl
theorem k195_122 : Kc C195 122 = (.goto (-54), 68, 0, 0, 0) := rfl
theorem k195_125 : Kc C195 125 = (.iload_n 1, 1, 0, 0, 0) := rfl
theorem k195_126 : Kc C195 126 = (.ifCond .ne 7, 133, 0, 0, 0) := rfl
theorem k195_129 : Kc C195 129 = (.iload_n 2, 2, 0, 0, 0) := rfl
theorem k195_130 : Kc C195 130 = (.goto 4, 134, 0, 0, 0) := rfl
theorem k195_133 : Kc C195 133 = (.iload_n 3, 3, 0, 0, 0) := rfl
theorem k195_134 : Kc C195 134 = (.ireturn, 0, 0, 0, 0) := rfl
theorem ev195 (d : Nat) (x0 : Nat) (x1 : Int32) (h : Hp) : EvM (d + 1) 195 [.ref x0, .int x1] h = EvI (EvM d) C195 1 0 [.ref x0, .int x1, jk, jk, jk, jk] [] h := rfl
theorem k196_0 : Kc C196 0 = (.aload_n 0, 0, 0, 0, 0) := rfl
theorem k196_1 : Kc C196 1 = (.getfield 7, 9, 0, 0, 0) := rfl
theorem k196_4 : Kc C196 4 = (.iconst 4, 0, 0, 0, 4) := rfl
theorem k196_5 : Kc C196 5 = (.iconst 3, 0, 0, 0, 3) := rfl
theorem k196_6 : Kc C196 6 = (.iload_n 2, 2, 0, 0, 0) := rfl
theorem k196_7 : Kc C196 7 = (.imul, 0, 0, 0, 0) := rfl
theorem k196_8 : Kc C196 8 = (.iadd, 0, 0, 0, 0) := rfl
theorem k196_9 : Kc C196 9 = (.iconst 2, 0, 0, 0, 2) := rfl
theorem k196_10 : Kc C196 10 = (.iadd, 0, 0, 0, 0) := rfl
theorem k196_11 : Kc C196 11 = (.iaload, 0, 0, 0, 0) := rfl
theorem k196_12 : Kc C196 12 = (.aload_n 0, 0, 0, 0, 0) := rfl
theorem k196_13 : Kc C196 13 = (.iload_n 1, 1, 0, 0, 0) := rfl
theorem k196_14 : Kc C196 14 = (.iload_n 2, 2, 0, 0, 0) := rfl
theorem k196_15 : Kc C196 15 = (.invokevirtual 126, 154, 2, 28, 0) := rfl
theorem k196_18 : Kc C196 18 = (.imul, 0, 0, 0, 0) := rfl
theorem k196_19 : Kc C196 19 = (.aload_n 0, 0, 0, 0, 0) := rfl
theorem k196_20 : Kc C196 20 = (.getfield 7, 9, 0, 0, 0) := rfl
theorem k196_23 : Kc C196 23 = (.iload_n 1, 1, 0, 0, 0) := rfl
theorem k196_24 : Kc C196 24 = (.iload_n 2, 2, 0, 0, 0) := rfl
theorem k196_25 : Kc C196 25 = (.invokestatic 116, 153, 2, 28, 0) := rfl
theorem k196_28 : Kc C196 28 = (.iconst 1, 0, 0, 0, 1) := rfl
theorem k196_29 : Kc C196 29 = (.iadd, 0, 0, 0, 0) := rfl
theorem k196_30 : Kc C196 30 = (.iaload, 0, 0, 0, 0) := rfl
theorem k196_31 : Kc C196 31 = (.iadd, 0, 0, 0, 0) := rfl
theorem k196_32 : Kc C196 32 = (.ireturn, 0, 0, 0, 0) := rfl
theorem ev196 (d : Nat) (x0 : Nat) (x1 : Int32) (x2 : Int32) (h : Hp) : EvM (d + 1) 196 [.ref x0, .int x1, .int x2] h = EvI (EvM d) C196 1 0 [.ref x0, .int x1, .int x2] [] h := rfl
theorem k197_0 : Kc C197 0 = (.iconst 1, 0, 0, 0, 1) := rfl
theorem k197_1 : Kc C197 1 = (.istore_n 3, 3, 0, 0, 0) := rfl
theorem k197_2 : Kc C197 2 = (.iload_n 1, 1, 0, 0, 0) := rfl
theorem k197_3 : Kc C197 3 = (.istore 4, 4, 0, 0, 0) := rfl
theorem k197_5 : Kc C197 5 = (.iload 4, 4, 0, 0, 0) := rfl
theorem k197_7 : Kc C197 7 = (.iload_n 1, 1, 0, 0, 0) := rfl
theorem k197_8 : Kc C197 8 = (.iconst 4, 0, 0, 0, 4) := rfl
theorem k197_9 : Kc C197 9 = (.iload_n 2, 2, 0, 0, 0) := rfl
theorem k197_10 : Kc C197 10 = (.imul, 0, 0, 0, 0) := rfl
theorem k197_11 : Kc C197 11 = (.iadd, 0, 0, 0, 0) := rfl
theorem k197_12 : Kc C197 12 = (.if_icmp .ge 60, 72, 0, 0, 0) := rfl
theorem k197_15 : Kc C197 15 = (.iload_n 3, 3, 0, 0, 0) := rfl
theorem k197_16 : Kc C197 16 = (.ifCond .eq 48, 64, 0, 0, 0) := rfl
theorem k197_19 : Kc C197 19 = (.aload_n 0, 0, 0, 0, 0) := rfl
theorem k197_20 : Kc C197 20 = (.aload_n 0, 0, 0, 0, 0) := rfl
theorem k197_21 : Kc C197 21 = (.getfield 26, 9, 9, 0, 0) := rfl
theorem k197_24 : Kc C197 24 = (.iload 4, 4, 0, 0, 0) := rfl
theorem k197_26 : Kc C197 26 = (.iaload, 0, 0, 0, 0) := rfl
theorem k197_27 : Kc C197 27 = (.aload_n 0, 0, 0, 0, 0) := rfl
theorem k197_28 : Kc C197 28 = (.getfield 26, 9, 9, 0, 0) := rfl
theorem k197_31 : Kc C197 31 = (.iload 4, 4, 0, 0, 0) := rfl
theorem k197_33 : Kc C197 33 = (.iconst 1, 0, 0, 0, 1) := rfl
theorem k197_34 : Kc C197 34 = (.iadd, 0, 0, 0, 0) := rfl
theorem k197_35 : Kc C197 35 = (.iaload, 0, 0, 0, 0) := rfl
theorem k197_36 : Kc C197 36 = (.aload_n 0, 0, 0, 0, 0) := rfl
theorem k197_37 : Kc C197 37 = (.getfield 26, 9, 9, 0, 0) := rfl
theorem k197_40 : Kc C197 40 = (.iload 4, 4, 0, 0, 0) := rfl
theorem k197_42 : Kc C197 42 = (.iconst 2, 0, 0, 0, 2) := rfl
theorem k197_43 : Kc C197 43 = (.iadd, 0, 0, 0, 0) := rfl
theorem k197_44 : Kc C197 44 = (.iaload, 0, 0, 0, 0) := rfl
theorem k197_45 : Kc C197 45 = (.aload_n 0, 0, 0, 0, 0) := rfl
theorem k197_46 : Kc C197 46 = (.getfield 26, 9, 9, 0, 0) := rfl
theorem k197_49 : Kc C197 49 = (.iload 4, 4, 0, 0, 0) := rfl
theorem k197_51 : Kc C197 51 = (.iconst 3, 0, 0, 0, 3) := rfl
theorem k197_52 : Kc C197 52 = (.iadd, 0, 0, 0, 0) := rfl
theorem k197_53 : Kc C197 53 = (.iaload, 0, 0, 0, 0) := rfl
theorem k197_54 : Kc C197 54 = (.invokevirtual 165, 165, 4, 29, 0) := rfl
theorem k197_57 : Kc C197 57 = (.ifCond .eq 7, 64, 0, 0, 0) := rfl
theorem k197_60 : Kc C197 60 = (.iconst 1, 0, 0, 0, 1) := rfl
theorem k197_61 : Kc C197 61 = (.goto 4, 65, 0, 0, 0) := rfl
theorem k197_64 : Kc C197 64 = (.iconst 0, 0, 0, 0, 0) := rfl
theorem k197_65 : Kc C197 65 = (.istore_n 3, 3, 0, 0, 0) := rfl
theorem k197_66 : Kc C197 66 = (.iinc 4 4, 4, 0, 0, 4) := rfl
theorem k197_69 : Kc C197 69 = (.goto (-64), 5, 0, 0, 0) := rfl
theorem k197_72 : Kc C197 72 = (.iload_n 3, 3, 0, 0, 0) := rfl
theorem k197_73 : Kc C197 73 = (.ireturn, 0, 0, 0, 0) := rfl
theorem ev197 (d : Nat) (x0 : Nat) (x1 : Int32) (x2 : Int32) (h : Hp) : EvM (d + 1) 197 [.ref x0, .int x1, .int x2] h = EvI (EvM d) C197 2 0 [.ref x0, .int x1, .int x2, jk, jk] [] h := rfl
theorem k198_0 : Kc C198 0 = (.aload_n 0, 0, 0, 0, 0) := rfl
theorem k198_1 : Kc C198 1 = (.getfield 7, 9, 0, 0, 0) := rfl
theorem k198_4 : Kc C198 4 = (.iconst 0, 0, 0, 0, 0) := rfl
theorem k198_5 : Kc C198 5 = (.iaload, 0, 0, 0, 0) := rfl
theorem k198_6 : Kc C198 6 = (.ifCond .ne 6, 12, 0, 0, 0) := rfl
theorem k198_9 : Kc C198 9 = (.ldc 153, 0, 0, 0, (-1000002)) := rfl
theorem k198_11 : Kc C198 11 = (.ireturn, 0, 0, 0, 0) := rfl
theorem k198_12 : Kc C198 12 = (.iload_n 1, 1, 0, 0, 0) := rfl
theorem k198_13 : Kc C198 13 = (.invokestatic 49, 135, 1, 29, 0) := rfl
theorem k198_16 : Kc C198 16 = (.ifCond .eq 26, 42, 0, 0, 0) := rfl
theorem k198_19 : Kc C198 19 = (.iload_n 3, 3, 0, 0, 0) := rfl
theorem k198_20 : Kc C198 20 = (.i2l, 0, 0, 0, 0) := rfl
theorem k198_21 : Kc C198 21 = (.lconst 1, 0, 0, 0, 1) := rfl
theorem k198_22 : Kc C198 22 = (.ldc2_w 241, 0, 0, 0, 9) := rfl
theorem k198_25 : Kc C198 25 = (.invokestatic 45, 131, 3, 29, 0) := rfl
theorem k198_28 : Kc C198 28 = (.ifCond .eq 14, 42, 0, 0, 0) := rfl
theorem k198_31 : Kc C198 31 = (.iload 4, 4, 0, 0, 0) := rfl
theorem k198_33 : Kc C198 33 = (.i2l, 0, 0, 0, 0) := rfl
theorem k198_34 : Kc C198 34 = (.lconst 0, 0, 0, 0, 0) := rfl
theorem k198_35 : Kc C198 35 = (.lconst 1, 0, 0, 0, 1) := rfl
theorem k198_36 : Kc C198 36 = (.invokestatic 45, 131, 3, 29, 0) := rfl
theorem k198_39 : Kc C198 39 = (.ifCond .ne 6, 45, 0, 0, 0) := rfl
theorem k198_42 : Kc C198 42 = (.ldc 55, 0, 0, 0, (-1000001)) := rfl
theorem k198_44 : Kc C198 44 = (.ireturn, 0, 0, 0, 0) := rfl
theorem k198_45 : Kc C198 45 = (.aload_n 0, 0, 0, 0, 0) := rfl
theorem k198_46 : Kc C198 46 = (.iload_n 1, 1, 0, 0, 0) := rfl
theorem k198_47 : Kc C198 47 = (.iload_n 2, 2, 0, 0, 0) := rfl
theorem k198_48 : Kc C198 48 = (.iconst 4, 0, 0, 0, 4) := rfl
theorem k198_49 : Kc C198 49 = (.iload_n 3, 3, 0, 0, 0) := rfl
theorem k198_50 : Kc C198 50 = (.imul, 0, 0, 0, 0) := rfl
theorem k198_51 : Kc C198 51 = (.invokevirtual 195, 182, 3, 28, 0) := rfl
theorem k198_54 : Kc C198 54 = (.istore 5, 5, 0, 0, 0) := rfl
theorem k198_56 : Kc C198 56 = (.iload 5, 5, 0, 0, 0) := rfl
theorem k198_58 : Kc C198 58 = (.ifCond .eq 6, 64, 0, 0, 0) := rfl
theorem k198_61 : Kc C198 61 = (.iload 5, 5, 0, 0, 0) := rfl
theorem k198_63 : Kc C198 63 = (.ireturn, 0, 0, 0, 0) := rfl
theorem k198_64 : Kc C198 64 = (.bipush 40, 0, 0, 0, 40) := rfl
theorem k198_66 : Kc C198 66 = (.iload_n 1, 1, 0, 0, 0) := rfl
theorem k198_67 : Kc C198 67 = (.imul, 0, 0, 0, 0) := rfl
theorem k198_68 : Kc C198 68 = (.iload_n 2, 2, 0, 0, 0) := rfl
theorem k198_69 : Kc C198 69 = (.iadd, 0, 0, 0, 0) := rfl
theorem k198_70 : Kc C198 70 = (.istore 6, 6, 0, 0, 0) := rfl
theorem k198_72 : Kc C198 72 = (.aload_n 0, 0, 0, 0, 0) := rfl
theorem k198_73 : Kc C198 73 = (.iload 6, 6, 0, 0, 0) := rfl
theorem k198_75 : Kc C198 75 = (.iload_n 3, 3, 0, 0, 0) := rfl
theorem k198_76 : Kc C198 76 = (.invokevirtual 243, 197, 2, 29, 0) := rfl
theorem k198_79 : Kc C198 79 = (.ifCond .ne 6, 85, 0, 0, 0) := rfl
theorem k198_82 : Kc C198 82 = (.ldc 55, 0, 0, 0, (-1000001)) := rfl
theorem k198_84 : Kc C198 84 = (.ireturn, 0, 0, 0, 0) := rfl
theorem k198_85 : Kc C198 85 = (.aload_n 0, 0, 0, 0, 0) := rfl
theorem k198_86 : Kc C198 86 = (.iconst 0, 0, 0, 0, 0) := rfl
theorem k198_87 : Kc C198 87 = (.sipush 357, 0, 0, 0, 357) := rfl
theorem k198_90 : Kc C198 90 = (.invokevirtual 189, 176, 2, 27, 0) := rfl
theorem k198_93 : Kc C198 93 = (.iconst 0, 0, 0, 0, 0) := rfl
theorem k198_94 : Kc C198 94 = (.istore 7, 7, 0, 0, 0) := rfl
theorem k198_96 : Kc C198 96 = (.iload 7, 7, 0, 0, 0) := rfl
theorem k198_98 : Kc C198 98 = (.iload_n 3, 3, 0, 0, 0) := rfl
theorem k198_99 : Kc C198 99 = (.if_icmp .ge 109, 208, 0, 0, 0) := rfl
theorem k198_102 : Kc C198 102 = (.aload_n 0, 0, 0, 0, 0) := rfl
theorem k198_103 : Kc C198 103 = (.sipush 357, 0, 0, 0, 357) := rfl
theorem k198_106 : Kc C198 106 = (.aload_n 0, 0, 0, 0, 0) := rfl
theorem k198_107 : Kc C198 107 = (.getfield 26, 9, 9, 0, 0) := rfl
theorem k198_110 : Kc C198 110 = (.iload 6, 6, 0, 0, 0) := rfl
theorem k198_112 : Kc C198 112 = (.iconst 4, 0, 0, 0, 4) := rfl
theorem k198_113 : Kc C198 113 = (.iload 7, 7, 0, 0, 0) := rfl
theorem k198_115 : Kc C198 115 = (.imul, 0, 0, 0, 0) := rfl
theorem k198_116 : Kc C198 116 = (.iadd, 0, 0, 0, 0) := rfl
theorem k198_117 : Kc C198 117 = (.iaload, 0, 0, 0, 0) := rfl
theorem k198_118 : Kc C198 118 = (.aload_n 0, 0, 0, 0, 0) := rfl
theorem k198_119 : Kc C198 119 = (.getfield 26, 9, 9, 0, 0) := rfl
theorem k198_122 : Kc C198 122 = (.iload 6, 6, 0, 0, 0) := rfl
theorem k198_124 : Kc C198 124 = (.iconst 4, 0, 0, 0, 4) := rfl
theorem k198_125 : Kc C198 125 = (.iload 7, 7, 0, 0, 0) := rfl
theorem k198_127 : Kc C198 127 = (.imul, 0, 0, 0, 0) := rfl
theorem k198_128 : Kc C198 128 = (.iadd, 0, 0, 0, 0) := rfl
theorem k198_129 : Kc C198 129 = (.iconst 1, 0, 0, 0, 1) := rfl
theorem k198_130 : Kc C198 130 = (.iadd, 0, 0, 0, 0) := rfl
theorem k198_131 : Kc C198 131 = (.iaload, 0, 0, 0, 0) := rfl
theorem k198_132 : Kc C198 132 = (.aload_n 0, 0, 0, 0, 0) := rfl
theorem k198_133 : Kc C198 133 = (.getfield 26, 9, 9, 0, 0) := rfl
theorem k198_136 : Kc C198 136 = (.iload 6, 6, 0, 0, 0) := rfl
theorem k198_138 : Kc C198 138 = (.iconst 4, 0, 0, 0, 4) := rfl
theorem k198_139 : Kc C198 139 = (.iload 7, 7, 0, 0, 0) := rfl
theorem k198_141 : Kc C198 141 = (.imul, 0, 0, 0, 0) := rfl
theorem k198_142 : Kc C198 142 = (.iadd, 0, 0, 0, 0) := rfl
theorem k198_143 : Kc C198 143 = (.iconst 2, 0, 0, 0, 2) := rfl
theorem k198_144 : Kc C198 144 = (.iadd, 0, 0, 0, 0) := rfl
theorem k198_145 : Kc C198 145 = (.iaload, 0, 0, 0, 0) := rfl
theorem k198_146 : Kc C198 146 = (.invokevirtual 169, 166, 4, 28, 0) := rfl
theorem k198_149 : Kc C198 149 = (.ifCond .ne 59, 208, 0, 0, 0) := rfl
theorem k198_152 : Kc C198 152 = (.iload 6, 6, 0, 0, 0) := rfl
theorem k198_154 : Kc C198 154 = (.iconst 4, 0, 0, 0, 4) := rfl
theorem k198_155 : Kc C198 155 = (.iload 7, 7, 0, 0, 0) := rfl
theorem k198_157 : Kc C198 157 = (.imul, 0, 0, 0, 0) := rfl
theorem k198_158 : Kc C198 158 = (.iadd, 0, 0, 0, 0) := rfl
theorem k198_159 : Kc C198 159 = (.istore 8, 8, 0, 0, 0) := rfl
theorem k198_161 : Kc C198 161 = (.aload_n 0, 0, 0, 0, 0) := rfl
theorem k198_162 : Kc C198 162 = (.sipush 357, 0, 0, 0, 357) := rfl
theorem k198_165 : Kc C198 165 = (.aload_n 0, 0, 0, 0, 0) := rfl
theorem k198_166 : Kc C198 166 = (.getfield 26, 9, 9, 0, 0) := rfl
theorem k198_169 : Kc C198 169 = (.iload 8, 8, 0, 0, 0) := rfl
theorem k198_171 : Kc C198 171 = (.iaload, 0, 0, 0, 0) := rfl
theorem k198_172 : Kc C198 172 = (.aload_n 0, 0, 0, 0, 0) := rfl
theorem k198_173 : Kc C198 173 = (.getfield 26, 9, 9, 0, 0) := rfl
theorem k198_176 : Kc C198 176 = (.iload 8, 8, 0, 0, 0) := rfl
theorem k198_178 : Kc C198 178 = (.iconst 1, 0, 0, 0, 1) := rfl
theorem k198_179 : Kc C198 179 = (.iadd, 0, 0, 0, 0) := rfl
theorem k198_180 : Kc C198 180 = (.iaload, 0, 0, 0, 0) := rfl
theorem k198_181 : Kc C198 181 = (.aload_n 0, 0, 0, 0, 0) := rfl
theorem k198_182 : Kc C198 182 = (.getfield 26, 9, 9, 0, 0) := rfl
theorem k198_185 : Kc C198 185 = (.iload 8, 8, 0, 0, 0) := rfl
theorem k198_187 : Kc C198 187 = (.iconst 2, 0, 0, 0, 2) := rfl
theorem k198_188 : Kc C198 188 = (.iadd, 0, 0, 0, 0) := rfl
theorem k198_189 : Kc C198 189 = (.iaload, 0, 0, 0, 0) := rfl
theorem k198_190 : Kc C198 190 = (.aload_n 0, 0, 0, 0, 0) := rfl
theorem k198_191 : Kc C198 191 = (.getfield 26, 9, 9, 0, 0) := rfl
theorem k198_194 : Kc C198 194 = (.iload 8, 8, 0, 0, 0) := rfl
theorem k198_196 : Kc C198 196 = (.iconst 3, 0, 0, 0, 3) := rfl
theorem k198_197 : Kc C198 197 = (.iadd, 0, 0, 0, 0) := rfl
theorem k198_198 : Kc C198 198 = (.iaload, 0, 0, 0, 0) := rfl
theorem k198_199 : Kc C198 199 = (.invokevirtual 173, 167, 5, 27, 0) := rfl
theorem k198_202 : Kc C198 202 = (.iinc 7 1, 7, 0, 0, 1) := rfl
theorem k198_205 : Kc C198 205 = (.goto (-109), 96, 0, 0, 0) := rfl
theorem k198_208 : Kc C198 208 = (.iconst 0, 0, 0, 0, 0) := rfl
theorem k198_209 : Kc C198 209 = (.istore 8, 8, 0, 0, 0) := rfl
theorem k198_211 : Kc C198 211 = (.iconst 0, 0, 0, 0, 0) := rfl
theorem k198_212 : Kc C198 212 = (.istore 9, 9, 0, 0, 0) := rfl
theorem k198_214 : Kc C198 214 = (.iload 9, 9, 0, 0, 0) := rfl
theorem k198_216 : Kc C198 216 = (.aload_n 0, 0, 0, 0, 0) := rfl
theorem k198_217 : Kc C198 217 = (.getfield 7, 9, 0, 0, 0) := rfl
theorem k198_220 : Kc C198 220 = (.iconst 3, 0, 0, 0, 3) := rfl
theorem k198_221 : Kc C198 221 = (.iaload, 0, 0, 0, 0) := rfl
theorem k198_222 : Kc C198 222 = (.if_icmp .ge 41, 263, 0, 0, 0) := rfl
theorem k198_225 : Kc C198 225 = (.iload 8, 8, 0, 0, 0) := rfl
theorem k198_227 : Kc C198 227 = (.aload_n 0, 0, 0, 0, 0) := rfl
theorem k198_228 : Kc C198 228 = (.sipush 357, 0, 0, 0, 357) := rfl
theorem k198_231 : Kc C198 231 = (.iload 9, 9, 0, 0, 0) := rfl
theorem k198_233 : Kc C198 233 = (.invokevirtual 246, 196, 2, 28, 0) := rfl
theorem k198_236 : Kc C198 236 = (.aload_n 0, 0, 0, 0, 0) := rfl
theorem k198_237 : Kc C198 237 = (.iconst 0, 0, 0, 0, 0) := rfl
theorem k198_238 : Kc C198 238 = (.iload 9, 9, 0, 0, 0) := rfl
theorem k198_240 : Kc C198 240 = (.invokevirtual 246, 196, 2, 28, 0) := rfl
theorem k198_243 : Kc C198 243 = (.if_icmp .ge 10, 253, 0, 0, 0) := rfl
theorem k198_246 : Kc C198 246 = (.iconst 1, 0, 0, 0, 1) := rfl
theorem k198_247 : Kc C198 247 = (.iload 9, 9, 0, 0, 0) := rfl
theorem k198_249 : Kc C198 249 = (.ishl, 0, 0, 0, 0) := rfl
theorem k198_250 : Kc C198 250 = (.goto 4, 254, 0, 0, 0) := rfl
theorem k198_253 : Kc C198 253 = (.iconst 0, 0, 0, 0, 0) := rfl
theorem k198_254 : Kc C198 254 = (.ior, 0, 0, 0, 0) := rfl
theorem k198_255 : Kc C198 255 = (.istore 8, 8, 0, 0, 0) := rfl
theorem k198_257 : Kc C198 257 = (.iinc 9 1, 9, 0, 0, 1) := rfl
theorem k198_260 : Kc C198 260 = (.goto (-46), 214, 0, 0, 0) := rfl
theorem k198_263 : Kc C198 263 = (.aload_n 0, 0, 0, 0, 0) := rfl
theorem k198_264 : Kc C198 264 = (.iload 4, 4, 0, 0, 0) := rfl
theorem k198_266 : Kc C198 266 = (.ifCond .ne 8, 274, 0, 0, 0) := rfl
theorem k198_269 : Kc C198 269 = (.iload 7, 7, 0, 0, 0) := rfl
theorem k198_271 : Kc C198 271 = (.goto 5, 276, 0, 0, 0) := rfl
theorem k198_274 : Kc C198 274 = (.iload 8, 8, 0, 0, 0) := rfl
theorem k198_276 : Kc C198 276 = (.invokevirtual 60, 134, 1, 28, 0) := rfl
theorem k198_279 : Kc C198 279 = (.ireturn, 0, 0, 0, 0) := rfl
theorem ev198 (d : Nat) (x0 : Nat) (x1 : Int32) (x2 : Int32) (x3 : Int32) (x4 : Int32) (h : Hp) : EvM (d + 1) 198 [.ref x0, .int x1, .int x2, .int x3, .int x4] h = EvI (EvM d) C198 1 0 [.ref x0, .int x1, .int x2, .int x3, .int x4, jk, jk, jk, jk, jk] [] h := rfl
theorem k199_0 : Kc C199 0 = (.iconst 1, 0, 0, 0, 1) := rfl
theorem k199_1 : Kc C199 1 = (.istore_n 2, 2, 0, 0, 0) := rfl
theorem k199_2 : Kc C199 2 = (.iconst 0, 0, 0, 0, 0) := rfl
theorem k199_3 : Kc C199 3 = (.istore_n 3, 3, 0, 0, 0) := rfl
theorem k199_4 : Kc C199 4 = (.iload_n 3, 3, 0, 0, 0) := rfl
theorem k199_5 : Kc C199 5 = (.aload_n 0, 0, 0, 0, 0) := rfl
theorem k199_6 : Kc C199 6 = (.getfield 7, 9, 0, 0, 0) := rfl
theorem k199_9 : Kc C199 9 = (.iconst 3, 0, 0, 0, 3) := rfl
theorem k199_10 : Kc C199 10 = (.iaload, 0, 0, 0, 0) := rfl
theorem k199_11 : Kc C199 11 = (.if_icmp .ge 38, 49, 0, 0, 0) := rfl
theorem k199_14 : Kc C199 14 = (.iload_n 2, 2, 0, 0, 0) := rfl
theorem k199_15 : Kc C199 15 = (.ifCond .eq 26, 41, 0, 0, 0) := rfl
theorem k199_18 : Kc C199 18 = (.aload_n 0, 0, 0, 0, 0) := rfl
theorem k199_19 : Kc C199 19 = (.getfield 26, 9, 9, 0, 0) := rfl
theorem k199_22 : Kc C199 22 = (.iload_n 1, 1, 0, 0, 0) := rfl
theorem k199_23 : Kc C199 23 = (.iload_n 3, 3, 0, 0, 0) := rfl
theorem k199_24 : Kc C199 24 = (.iadd, 0, 0, 0, 0) := rfl
theorem k199_25 : Kc C199 25 = (.iaload, 0, 0, 0, 0) := rfl
theorem k199_26 : Kc C199 26 = (.i2l, 0, 0, 0, 0) := rfl
theorem k199_27 : Kc C199 27 = (.lconst 0, 0, 0, 0, 0) := rfl
theorem k199_28 : Kc C199 28 = (.ldc2_w 249, 0, 0, 0, 9999) := rfl
theorem k199_31 : Kc C199 31 = (.invokestatic 45, 131, 3, 29, 0) := rfl
theorem k199_34 : Kc C199 34 = (.ifCond .eq 7, 41, 0, 0, 0) := rfl
theorem k199_37 : Kc C199 37 = (.iconst 1, 0, 0, 0, 1) := rfl
theorem k199_38 : Kc C199 38 = (.goto 4, 42, 0, 0, 0) := rfl
theorem k199_41 : Kc C199 41 = (.iconst 0, 0, 0, 0, 0) := rfl
theorem k199_42 : Kc C199 42 = (.istore_n 2, 2, 0, 0, 0) := rfl
theorem k199_43 : Kc C199 43 = (.iinc 3 1, 3, 0, 0, 1) := rfl
theorem k199_46 : Kc C199 46 = (.goto (-42), 4, 0, 0, 0) := rfl
theorem k199_49 : Kc C199 49 = (.iload_n 2, 2, 0, 0, 0) := rfl
theorem k199_50 : Kc C199 50 = (.ireturn, 0, 0, 0, 0) := rfl
theorem ev199 (d : Nat) (x0 : Nat) (x1 : Int32) (h : Hp) : EvM (d + 1) 199 [.ref x0, .int x1] h = EvI (EvM d) C199 2 0 [.ref x0, .int x1, jk, jk] [] h := rfl
theorem k200_0 : Kc C200 0 = (.aload_n 0, 0, 0, 0, 0) := rfl
theorem k200_1 : Kc C200 1 = (.getfield 7, 9, 0, 0, 0) := rfl
theorem k200_4 : Kc C200 4 = (.iconst 0, 0, 0, 0, 0) := rfl
theorem k200_5 : Kc C200 5 = (.iaload, 0, 0, 0, 0) := rfl
theorem k200_6 : Kc C200 6 = (.ifCond .ne 6, 12, 0, 0, 0) := rfl
theorem k200_9 : Kc C200 9 = (.ldc 153, 0, 0, 0, (-1000002)) := rfl
theorem k200_11 : Kc C200 11 = (.ireturn, 0, 0, 0, 0) := rfl
theorem k200_12 : Kc C200 12 = (.iload_n 1, 1, 0, 0, 0) := rfl
theorem k200_13 : Kc C200 13 = (.invokestatic 49, 135, 1, 29, 0) := rfl
theorem k200_16 : Kc C200 16 = (.ifCond .eq 16, 32, 0, 0, 0) := rfl
theorem k200_19 : Kc C200 19 = (.iload_n 3, 3, 0, 0, 0) := rfl
theorem k200_20 : Kc C200 20 = (.iconst (-1), 0, 0, 0, (-1)) := rfl
theorem k200_21 : Kc C200 21 = (.if_icmp .eq 14, 35, 0, 0, 0) := rfl
theorem k200_24 : Kc C200 24 = (.aload_n 0, 0, 0, 0, 0) := rfl
theorem k200_25 : Kc C200 25 = (.iload_n 3, 3, 0, 0, 0) := rfl
theorem k200_26 : Kc C200 26 = (.invokevirtual 154, 151, 1, 29, 0) := rfl
theorem k200_29 : Kc C200 29 = (.ifCond .ne 6, 35, 0, 0, 0) := rfl
theorem k200_32 : Kc C200 32 = (.ldc 55, 0, 0, 0, (-1000001)) := rfl
theorem k200_34 : Kc C200 34 = (.ireturn, 0, 0, 0, 0) := rfl
theorem k200_35 : Kc C200 35 = (.aload_n 0, 0, 0, 0, 0) := rfl
theorem k200_36 : Kc C200 36 = (.iload_n 1, 1, 0, 0, 0) := rfl
theorem k200_37 : Kc C200 37 = (.iload_n 2, 2, 0, 0, 0) := rfl
theorem k200_38 : Kc C200 38 = (.aload_n 0, 0, 0, 0, 0) := rfl
theorem k200_39 : Kc C200 39 = (.getfield 7, 9, 0, 0, 0) := rfl
theorem k200_42 : Kc C200 42 = (.iconst 3, 0, 0, 0, 3) := rfl
theorem k200_43 : Kc C200 43 = (.iaload, 0, 0, 0, 0) := rfl
theorem k200_44 : Kc C200 44 = (.invokevirtual 195, 182, 3, 28, 0) := rfl
theorem k200_47 : Kc C200 47 = (.istore 4, 4, 0, 0, 0) := rfl
theorem k200_49 : Kc C200 49 = (.iload 4, 4, 0, 0, 0) := rfl
theorem k200_51 : Kc C200 51 = (.ifCond .eq 6, 57, 0, 0, 0) := rfl
theorem k200_54 : Kc C200 54 = (.iload 4, 4, 0, 0, 0) := rfl
theorem k200_56 : Kc C200 56 = (.ireturn, 0, 0, 0, 0) := rfl
theorem k200_57 : Kc C200 57 = (.bipush 40, 0, 0, 0, 40) := rfl
theorem k200_59 : Kc C200 59 = (.iload_n 1, 1, 0, 0, 0) := rfl
theorem k200_60 : Kc C200 60 = (.imul, 0, 0, 0, 0) := rfl
theorem k200_61 : Kc C200 61 = (.iload_n 2, 2, 0, 0, 0) := rfl
theorem k200_62 : Kc C200 62 = (.iadd, 0, 0, 0, 0) := rfl
theorem k200_63 : Kc C200 63 = (.istore 5, 5, 0, 0, 0) := rfl
theorem k200_65 : Kc C200 65 = (.aload_n 0, 0, 0, 0, 0) := rfl
theorem k200_66 : Kc C200 66 = (.iload 5, 5, 0, 0, 0) := rfl
theorem k200_68 : Kc C200 68 = (.invokevirtual 251, 199, 1, 29, 0) := rfl
theorem k200_71 : Kc C200 71 = (.ifCond .ne 6, 77, 0, 0, 0) := rfl
theorem k200_74 : Kc C200 74 = (.ldc 55, 0, 0, 0, (-1000001)) := rfl
theorem k200_76 : Kc C200 76 = (.ireturn, 0, 0, 0, 0) := rfl
theorem k200_77 : Kc C200 77 = (.iconst 0, 0, 0, 0, 0) := rfl
theorem k200_78 : Kc C200 78 = (.istore 6, 6, 0, 0, 0) := rfl
theorem k200_80 : Kc C200 80 = (.iconst 0, 0, 0, 0, 0) := rfl
theorem k200_81 : Kc C200 81 = (.istore 7, 7, 0, 0, 0) := rfl
theorem k200_83 : Kc C200 83 = (.iload 7, 7, 0, 0, 0) := rfl
theorem k200_85 : Kc C200 85 = (.aload_n 0, 0, 0, 0, 0) := rfl
theorem k200_86 : Kc C200 86 = (.getfield 7, 9, 0, 0, 0) := rfl
theorem k200_89 : Kc C200 89 = (.iconst 3, 0, 0, 0, 3) := rfl
theorem k200_90 : Kc C200 90 = (.iaload, 0, 0, 0, 0) := rfl
theorem k200_91 : Kc C200 91 = (.if_icmp .ge 42, 133, 0, 0, 0) := rfl
theorem k200_94 : Kc C200 94 = (.iload 6, 6, 0, 0, 0) := rfl
theorem k200_96 : Kc C200 96 = (.aload_n 0, 0, 0, 0, 0) := rfl
theorem k200_97 : Kc C200 97 = (.getfield 26, 9, 9, 0, 0) := rfl
theorem k200_100 : Kc C200 100 = (.iload 5, 5, 0, 0, 0) := rfl
theorem k200_102 : Kc C200 102 = (.iload 7, 7, 0, 0, 0) := rfl
theorem k200_104 : Kc C200 104 = (.iadd, 0, 0, 0, 0) := rfl
theorem k200_105 : Kc C200 105 = (.iaload, 0, 0, 0, 0) := rfl
theorem k200_106 : Kc C200 106 = (.aload_n 0, 0, 0, 0, 0) := rfl
theorem k200_107 : Kc C200 107 = (.iconst 0, 0, 0, 0, 0) := rfl
theorem k200_108 : Kc C200 108 = (.iload 7, 7, 0, 0, 0) := rfl
theorem k200_110 : Kc C200 110 = (.invokevirtual 126, 154, 2, 28, 0) := rfl
theorem k200_113 : Kc C200 113 = (.if_icmp .ne 7, 120, 0, 0, 0) := rfl
theorem k200_116 : Kc C200 116 = (.iconst 0, 0, 0, 0, 0) := rfl
theorem k200_117 : Kc C200 117 = (.goto 7, 124, 0, 0, 0) := rfl
theorem k200_120 : Kc C200 120 = (.iconst 1, 0, 0, 0, 1) := rfl
theorem k200_121 : Kc C200 121 = (.iload 7, 7, 0, 0, 0) := rfl
theorem k200_123 : Kc C200 123 = (.ishl, 0, 0, 0, 0) := rfl
theorem k200_124 : Kc C200 124 = (.ior, 0, 0, 0, 0) := rfl
theorem k200_125 : Kc C200 125 = (.istore 6, 6, 0, 0, 0) := rfl
theorem k200_127 : Kc C200 127 = (.iinc 7 1, 7, 0, 0, 1) := rfl
theorem k200_130 : Kc C200 130 = (.goto (-47), 83, 0, 0, 0) := rfl
theorem k200_133 : Kc C200 133 = (.iload_n 3, 3, 0, 0, 0) := rfl
theorem k200_134 : Kc C200 134 = (.iconst (-1), 0, 0, 0, (-1)) := rfl
theorem k200_135 : Kc C200 135 = (.if_icmp .ne 10, 145, 0, 0, 0) := rfl
theorem k200_138 : Kc C200 138 = (.aload_n 0, 0, 0, 0, 0) := rfl
theorem k200_139 : Kc C200 139 = (.iload 6, 6, 0, 0, 0) := rfl
theorem k200_141 : Kc C200 141 = (.invokevirtual 60, 134, 1, 28, 0) := rfl
theorem k200_144 : Kc C200 144 = (.ireturn, 0, 0, 0, 0) := rfl
theorem k200_145 : Kc C200 145 = (.aload_n 0, 0, 0, 0, 0) := rfl
theorem k200_146 : Kc C200 146 = (.iconst 0, 0, 0, 0, 0) := rfl
theorem k200_147 : Kc C200 147 = (.iload_n 3, 3, 0, 0, 0) := rfl
theorem k200_148 : Kc C200 148 = (.invokevirtual 126, 154, 2, 28, 0) := rfl
theorem k200_151 : Kc C200 151 = (.aload_n 0, 0, 0, 0, 0) := rfl
theorem k200_152 : Kc C200 152 = (.getfield 26, 9, 9, 0, 0) := rfl
theorem k200_155 : Kc C200 155 = (.iload 5, 5, 0, 0, 0) := rfl
theorem k200_157 : Kc C200 157 = (.iload_n 3, 3, 0, 0, 0) := rfl
theorem k200_158 : Kc C200 158 = (.iadd, 0, 0, 0, 0) := rfl
theorem k200_159 : Kc C200 159 = (.iaload, 0, 0, 0, 0) := rfl
theorem k200_160 : Kc C200 160 = (.isub, 0, 0, 0, 0) := rfl
theorem k200_161 : Kc C200 161 = (.istore 7, 7, 0, 0, 0) := rfl
theorem k200_163 : Kc C200 163 = (.aload_n 0, 0, 0, 0, 0) := rfl
theorem k200_164 : Kc C200 164 = (.iload 7, 7, 0, 0, 0) := rfl
theorem k200_166 : Kc C200 166 = (.ifCond .ge 8, 174, 0, 0, 0) := rfl
theorem k200_169 : Kc C200 169 = (.ldc 19, 0, 0, 0, (-1000000)) := rfl
theorem k200_171 : Kc C200 171 = (.goto 21, 192, 0, 0, 0) := rfl
theorem k200_174 : Kc C200 174 = (.iload 7, 7, 0, 0, 0) := rfl
theorem k200_176 : Kc C200 176 = (.aload_n 0, 0, 0, 0, 0) := rfl
theorem k200_177 : Kc C200 177 = (.getfield 7, 9, 0, 0, 0) := rfl
theorem k200_180 : Kc C200 180 = (.iconst 2, 0, 0, 0, 2) := rfl
theorem k200_181 : Kc C200 181 = (.iaload, 0, 0, 0, 0) := rfl
theorem k200_182 : Kc C200 182 = (.iadd, 0, 0, 0, 0) := rfl
theorem k200_183 : Kc C200 183 = (.iconst 1, 0, 0, 0, 1) := rfl
theorem k200_184 : Kc C200 184 = (.isub, 0, 0, 0, 0) := rfl
theorem k200_185 : Kc C200 185 = (.aload_n 0, 0, 0, 0, 0) := rfl
theorem k200_186 : Kc C200 186 = (.getfield 7, 9, 0, 0, 0) := rfl
theorem k200_189 : Kc C200 189 = (.iconst 2, 0, 0, 0, 2) := rfl
theorem k200_190 : Kc C200 190 = (.iaload, 0, 0, 0, 0) := rfl
theorem k200_191 : Kc C200 191 = (.idiv, 0, 0, 0, 0) := rfl
theorem k200_192 : Kc C200 192 = (.invokevirtual 60, 134, 1, 28, 0) := rfl
theorem k200_195 : Kc C200 195 = (.ireturn, 0, 0, 0, 0) := rfl
theorem ev200 (d : Nat) (x0 : Nat) (x1 : Int32) (x2 : Int32) (x3 : Int32) (h : Hp) : EvM (d + 1) 200 [.ref x0, .int x1, .int x2, .int x3] h = EvI (EvM d) C200 1 0 [.ref x0, .int x1, .int x2, .int x3, jk, jk, jk, jk] [] h := rfl
theorem k201_0 : Kc C201 0 = (.iload_n 1, 1, 0, 0, 0) := rfl
theorem k201_1 : Kc C201 1 = (.invokestatic 49, 135, 1, 29, 0) := rfl
theorem k201_4 : Kc C201 4 = (.ifCond .eq 39, 43, 0, 0, 0) := rfl
theorem k201_7 : Kc C201 7 = (.iload_n 3, 3, 0, 0, 0) := rfl
theorem k201_8 : Kc C201 8 = (.i2l, 0, 0, 0, 0) := rfl
theorem k201_9 : Kc C201 9 = (.lconst 0, 0, 0, 0, 0) := rfl
theorem k201_10 : Kc C201 10 = (.ldc2_w 254, 0, 0, 0, 16) := rfl
theorem k201_13 : Kc C201 13 = (.invokestatic 45, 131, 3, 29, 0) := rfl
theorem k201_16 : Kc C201 16 = (.ifCond .eq 27, 43, 0, 0, 0) := rfl
theorem k201_19 : Kc C201 19 = (.iload 4, 4, 0, 0, 0) := rfl
theorem k201_21 : Kc C201 21 = (.i2l, 0, 0, 0, 0) := rfl
theorem k201_22 : Kc C201 22 = (.lconst 0, 0, 0, 0, 0) := rfl
theorem k201_23 : Kc C201 23 = (.ldc2_w 249, 0, 0, 0, 9999) := rfl
theorem k201_26 : Kc C201 26 = (.invokestatic 45, 131, 3, 29, 0) := rfl
theorem k201_29 : Kc C201 29 = (.ifCond .eq 14, 43, 0, 0, 0) := rfl
theorem k201_32 : Kc C201 32 = (.iload 5, 5, 0, 0, 0) := rfl
theorem k201_34 : Kc C201 34 = (.i2l, 0, 0, 0, 0) := rfl
theorem k201_35 : Kc C201 35 = (.lconst 0, 0, 0, 0, 0) := rfl
theorem k201_36 : Kc C201 36 = (.lconst 1, 0, 0, 0, 1) := rfl
theorem k201_37 : Kc C201 37 = (.invokestatic 45, 131, 3, 29, 0) := rfl
theorem k201_40 : Kc C201 40 = (.ifCond .ne 6, 46, 0, 0, 0) := rfl
theorem k201_43 : Kc C201 43 = (.ldc 55, 0, 0, 0, (-1000001)) := rfl
theorem k201_45 : Kc C201 45 = (.ireturn, 0, 0, 0, 0) := rfl
theorem k201_46 : Kc C201 46 = (.aload_n 0, 0, 0, 0, 0) := rfl
theorem k201_47 : Kc C201 47 = (.iload_n 1, 1, 0, 0, 0) := rfl
theorem k201_48 : Kc C201 48 = (.iload_n 2, 2, 0, 0, 0) := rfl
theorem k201_49 : Kc C201 49 = (.iload_n 3, 3, 0, 0, 0) := rfl
theorem k201_50 : Kc C201 50 = (.invokevirtual 205, 183, 3, 28, 0) := rfl
theorem k201_53 : Kc C201 53 = (.istore 6, 6, 0, 0, 0) := rfl
theorem k201_55 : Kc C201 55 = (.iload 6, 6, 0, 0, 0) := rfl
theorem k201_57 : Kc C201 57 = (.ifCond .eq 6, 63, 0, 0, 0) := rfl
theorem k201_60 : Kc C201 60 = (.iload 6, 6, 0, 0, 0) := rfl
theorem k201_62 : Kc C201 62 = (.ireturn, 0, 0, 0, 0) := rfl
theorem k201_63 : Kc C201 63 = (.iconst 0, 0, 0, 0, 0) := rfl
theorem k201_64 : Kc C201 64 = (.istore 7, 7, 0, 0, 0) := rfl
theorem k201_66 : Kc C201 66 = (.ldc 19, 0, 0, 0, (-1000000)) := rfl
theorem k201_68 : Kc C201 68 = (.istore 8, 8, 0, 0, 0) := rfl
theorem k201_70 : Kc C201 70 = (.iconst 0, 0, 0, 0, 0) := rfl
theorem k201_71 : Kc C201 71 = (.istore 9, 9, 0, 0, 0) := rfl
theorem k201_73 : Kc C201 73 = (.iload 9, 9, 0, 0, 0) := rfl
theorem k201_75 : Kc C201 75 = (.iconst 1, 0, 0, 0, 1) := rfl
theorem k201_76 : Kc C201 76 = (.iload_n 3, 3, 0, 0, 0) := rfl
theorem k201_77 : Kc C201 77 = (.ishl, 0, 0, 0, 0) := rfl
theorem k201_78 : Kc C201 78 = (.if_icmp .ge 98, 176, 0, 0, 0) := rfl
theorem k201_81 : Kc C201 81 = (.iconst 0, 0, 0, 0, 0) := rfl
theorem k201_82 : Kc C201 82 = (.istore 10, 10, 0, 0, 0) := rfl
theorem k201_84 : Kc C201 84 = (.iconst 0, 0, 0, 0, 0) := rfl
theorem k201_85 : Kc C201 85 = (.istore 11, 11, 0, 0, 0) := rfl
theorem k201_87 : Kc C201 87 = (.iload 11, 11, 0, 0, 0) := rfl
theorem k201_89 : Kc C201 89 = (.iload_n 3, 3, 0, 0, 0) := rfl
theorem k201_90 : Kc C201 90 = (.if_icmp .ge 42, 132, 0, 0, 0) := rfl
theorem k201_93 : Kc C201 93 = (.iload 10, 10, 0, 0, 0) := rfl
theorem k201_95 : Kc C201 95 = (.iload 9, 9, 0, 0, 0) := rfl
theorem k201_97 : Kc C201 97 = (.iload 11, 11, 0, 0, 0) := rfl
theorem k201_99 : Kc C201 99 = (.invokestatic 217, 132, 2, 29, 0) := rfl
theorem k201_102 : Kc C201 102 = (.ifCond .eq 20, 122, 0, 0, 0) := rfl
theorem k201_105 : Kc C201 105 = (.aload_n 0, 0, 0, 0, 0) := rfl
theorem k201_106 : Kc C201 106 = (.getfield 26, 9, 9, 0, 0) := rfl
theorem k201_109 : Kc C201 109 = (.bipush 40, 0, 0, 0, 40) := rfl
theorem k201_111 : Kc C201 111 = (.iload_n 1, 1, 0, 0, 0) := rfl
theorem k201_112 : Kc C201 112 = (.imul, 0, 0, 0, 0) := rfl
theorem k201_113 : Kc C201 113 = (.iload_n 2, 2, 0, 0, 0) := rfl
theorem k201_114 : Kc C201 114 = (.iadd, 0, 0, 0, 0) := rfl
theorem k201_115 : Kc C201 115 = (.iload 11, 11, 0, 0, 0) := rfl
theorem k201_117 : Kc C201 117 = (.iadd, 0, 0, 0, 0) := rfl
theorem k201_118 : Kc C201 118 = (.iaload, 0, 0, 0, 0) := rfl
theorem k201_119 : Kc C201 119 = (.goto 4, 123, 0, 0, 0) := rfl
theorem k201_122 : Kc C201 122 = (.iconst 0, 0, 0, 0, 0) := rfl
theorem k201_123 : Kc C201 123 = (.iadd, 0, 0, 0, 0) := rfl
theorem k201_124 : Kc C201 124 = (.istore 10, 10, 0, 0, 0) := rfl
theorem k201_126 : Kc C201 126 = (.iinc 11 1, 11, 0, 0, 1) := rfl
theorem k201_129 : Kc C201 129 = (.goto (-42), 87, 0, 0, 0) := rfl
theorem k201_132 : Kc C201 132 = (.iload 10, 10, 0, 0, 0) := rfl
theorem k201_134 : Kc C201 134 = (.iload 4, 4, 0, 0, 0) := rfl
theorem k201_136 : Kc C201 136 = (.if_icmp .ne 13, 149, 0, 0, 0) := rfl
theorem k201_139 : Kc C201 139 = (.iload 7, 7, 0, 0, 0) := rfl
theorem k201_141 : Kc C201 141 = (.ifCond .ne 8, 149, 0, 0, 0) := rfl
theorem k201_144 : Kc C201 144 = (.iload 9, 9, 0, 0, 0) := rfl
theorem k201_146 : Kc C201 146 = (.goto 5, 151, 0, 0, 0) := rfl
theorem k201_149 : Kc C201 149 = (.iload 8, 8, 0, 0, 0) := rfl
theorem k201_151 : Kc C201 151 = (.istore 8, 8, 0, 0, 0) := rfl
theorem k201_153 : Kc C201 153 = (.iload 7, 7, 0, 0, 0) := rfl
theorem k201_155 : Kc C201 155 = (.iload 10, 10, 0, 0, 0) := rfl
theorem k201_157 : Kc C201 157 = (.iload 4, 4, 0, 0, 0) := rfl
theorem k201_159 : Kc C201 159 = (.if_icmp .ne 7, 166, 0, 0, 0) := rfl
theorem k201_162 : Kc C201 162 = (.iconst 1, 0, 0, 0, 1) := rfl
theorem k201_163 : Kc C201 163 = (.goto 4, 167, 0, 0, 0) := rfl
theorem k201_166 : Kc C201 166 = (.iconst 0, 0, 0, 0, 0) := rfl
theorem k201_167 : Kc C201 167 = (.iadd, 0, 0, 0, 0) := rfl
theorem k201_168 : Kc C201 168 = (.istore 7, 7, 0, 0, 0) := rfl
theorem k201_170 : Kc C201 170 = (.iinc 9 1, 9, 0, 0, 1) := rfl
theorem k201_173 : Kc C201 173 = (.goto (-100), 73, 0, 0, 0) := rfl
theorem k201_176 : Kc C201 176 = (.aload_n 0, 0, 0, 0, 0) := rfl
theorem k201_177 : Kc C201 177 = (.iload 5, 5, 0, 0, 0) := rfl
theorem k201_179 : Kc C201 179 = (.ifCond .ne 8, 187, 0, 0, 0) := rfl
theorem k201_182 : Kc C201 182 = (.iload 7, 7, 0, 0, 0) := rfl
theorem k201_184 : Kc C201 184 = (.goto 5, 189, 0, 0, 0) := rfl
theorem k201_187 : Kc C201 187 = (.iload 8, 8, 0, 0, 0) := rfl
theorem k201_189 : Kc C201 189 = (.invokevirtual 60, 134, 1, 28, 0) := rfl
theorem k201_192 : Kc C201 192 = (.ireturn, 0, 0, 0, 0) := rfl
theorem ev201 (d : Nat) (x0 : Nat) (x1 : Int32) (x2 : Int32) (x3 : Int32) (x4 : Int32) (x5 : Int32) (h : Hp) : EvM (d + 1) 201 [.ref x0, .int x1, .int x2, .int x3, .int x4, .int x5] h = EvI (EvM d) C201 1 0 [.ref x0, .int x1, .int x2, .int x3, .int x4, .int x5, jk, jk, jk, jk, jk, jk] [] h := rfl
theorem k202_0 : Kc C202 0 = (.iload_n 1, 1, 0, 0, 0) := rfl
theorem k202_1 : Kc C202 1 = (.i2l, 0, 0, 0, 0) := rfl
theorem k202_2 : Kc C202 2 = (.lconst 0, 0, 0, 0, 0) := rfl
theorem k202_3 : Kc C202 3 = (.lconst 1, 0, 0, 0, 1) := rfl
theorem k202_4 : Kc C202 4 = (.invokestatic 45, 131, 3, 29, 0) := rfl
theorem k202_7 : Kc C202 7 = (.ifCond .ne 6, 13, 0, 0, 0) := rfl
theorem k202_10 : Kc C202 10 = (.ldc 55, 0, 0, 0, (-1000001)) := rfl
theorem k202_12 : Kc C202 12 = (.ireturn, 0, 0, 0, 0) := rfl
theorem k202_13 : Kc C202 13 = (.aload_n 0, 0, 0, 0, 0) := rfl
theorem k202_14 : Kc C202 14 = (.getfield 7, 9, 0, 0, 0) := rfl
theorem k202_17 : Kc C202 17 = (.iconst 0, 0, 0, 0, 0) := rfl
theorem k202_18 : Kc C202 18 = (.iaload, 0, 0, 0, 0) := rfl
theorem k202_19 : Kc C202 19 = (.ifCond .ne 6, 25, 0, 0, 0) := rfl
theorem k202_22 : Kc C202 22 = (.ldc 153, 0, 0, 0, (-1000002)) := rfl
theorem k202_24 : Kc C202 24 = (.ireturn, 0, 0, 0, 0) := rfl
theorem k202_25 : Kc C202 25 = (.aload_n 0, 0, 0, 0, 0) := rfl
theorem k202_26 : Kc C202 26 = (.iconst 0, 0, 0, 0, 0) := rfl
theorem k202_27 : Kc C202 27 = (.bipush 119, 0, 0, 0, 119) := rfl
theorem k202_29 : Kc C202 29 = (.iconst 1, 0, 0, 0, 1) := rfl
theorem k202_30 : Kc C202 30 = (.iload_n 1, 1, 0, 0, 0) := rfl
theorem k202_31 : Kc C202 31 = (.iadd, 0, 0, 0, 0) := rfl
theorem k202_32 : Kc C202 32 = (.imul, 0, 0, 0, 0) := rfl
theorem k202_33 : Kc C202 33 = (.invokevirtual 189, 176, 2, 27, 0) := rfl
theorem k202_36 : Kc C202 36 = (.iconst 1, 0, 0, 0, 1) := rfl
theorem k202_37 : Kc C202 37 = (.ireturn, 0, 0, 0, 0) := rfl
theorem ev202 (d : Nat) (x0 : Nat) (x1 : Int32) (h : Hp) : EvM (d + 1) 202 [.ref x0, .int x1] h = EvI (EvM d) C202 1 0 [.ref x0, .int x1] [] h := rfl
theorem k203_0 : Kc C203 0 = (.iload_n 1, 1, 0, 0, 0) := rfl
theorem k203_1 : Kc C203 1 = (.i2l, 0, 0, 0, 0) := rfl
theorem k203_2 : Kc C203 2 = (.lconst 0, 0, 0, 0, 0) := rfl
theorem k203_3 : Kc C203 3 = (.lconst 1, 0, 0, 0, 1) := rfl
theorem k203_4 : Kc C203 4 = (.invokestatic 45, 131, 3, 29, 0) := rfl
theorem k203_7 : Kc C203 7 = (.ifCond .ne 6, 13, 0, 0, 0) := rfl
theorem k203_10 : Kc C203 10 = (.ldc 55, 0, 0, 0, (-1000001)) := rfl
theorem k203_12 : Kc C203 12 = (.ireturn, 0, 0, 0, 0) := rfl
theorem k203_13 : Kc C203 13 = (.aload_n 0, 0, 0, 0, 0) := rfl
theorem k203_14 : Kc C203 14 = (.getfield 7, 9, 0, 0, 0) := rfl
theorem k203_17 : Kc C203 17 = (.bipush 119, 0, 0, 0, 119) := rfl
theorem k203_19 : Kc C203 19 = (.iconst 1, 0, 0, 0, 1) := rfl
theorem k203_20 : Kc C203 20 = (.iload_n 1, 1, 0, 0, 0) := rfl
theorem k203_21 : Kc C203 21 = (.iadd, 0, 0, 0, 0) := rfl
theorem k203_22 : Kc C203 22 = (.imul, 0, 0, 0, 0) := rfl
theorem k203_23 : Kc C203 23 = (.iconst 0, 0, 0, 0, 0) := rfl
theorem k203_24 : Kc C203 24 = (.iadd, 0, 0, 0, 0) := rfl
theorem k203_25 : Kc C203 25 = (.iaload, 0, 0, 0, 0) := rfl
theorem k203_26 : Kc C203 26 = (.ifCond .ne 6, 32, 0, 0, 0) := rfl
theorem k203_29 : Kc C203 29 = (.ldc 153, 0, 0, 0, (-1000002)) := rfl
theorem k203_31 : Kc C203 31 = (.ireturn, 0, 0, 0, 0) := rfl
theorem k203_32 : Kc C203 32 = (.aload_n 0, 0, 0, 0, 0) := rfl
theorem k203_33 : Kc C203 33 = (.bipush 119, 0, 0, 0, 119) := rfl
theorem k203_35 : Kc C203 35 = (.iconst 1, 0, 0, 0, 1) := rfl
theorem k203_36 : Kc C203 36 = (.iload_n 1, 1, 0, 0, 0) := rfl
theorem k203_37 : Kc C203 37 = (.iadd, 0, 0, 0, 0) := rfl
theorem k203_38 : Kc C203 38 = (.imul, 0, 0, 0, 0) := rfl
theorem k203_39 : Kc C203 39 = (.iconst 0, 0, 0, 0, 0) := rfl
theorem k203_40 : Kc C203 40 = (.invokevirtual 189, 176, 2, 27, 0) := rfl
theorem k203_43 : Kc C203 43 = (.aload_n 0, 0, 0, 0, 0) := rfl
theorem k203_44 : Kc C203 44 = (.iconst 0, 0, 0, 0, 0) := rfl
theorem k203_45 : Kc C203 45 = (.putfield 113, 9, 2, 0, 0) := rfl
theorem k203_48 : Kc C203 48 = (.iconst 1, 0, 0, 0, 1) := rfl
theorem k203_49 : Kc C203 49 = (.ireturn, 0, 0, 0, 0) := rfl
theorem ev203 (d : Nat) (x0 : Nat) (x1 : Int32) (h : Hp) : EvM (d + 1) 203 [.ref x0, .int x1] h = EvI (EvM d) C203 1 0 [.ref x0, .int x1] [] h := rfl
theorem k204_0 : Kc C204 0 = (.aload_n 0, 0, 0, 0, 0) := rfl
theorem k204_1 : Kc C204 1 = (.iload_n 1, 1, 0, 0, 0) := rfl
theorem k204_2 : Kc C204 2 = (.invokevirtual 154, 151, 1, 29, 0) := rfl
theorem k204_5 : Kc C204 5 = (.ifCond .eq 11, 16, 0, 0, 0) := rfl
theorem k204_8 : Kc C204 8 = (.aload_n 0, 0, 0, 0, 0) := rfl
theorem k204_9 : Kc C204 9 = (.iload_n 1, 1, 0, 0, 0) := rfl
theorem k204_10 : Kc C204 10 = (.invokevirtual 119, 152, 1, 28, 0) := rfl
theorem k204_13 : Kc C204 13 = (.goto 5, 18, 0, 0, 0) := rfl
theorem k204_16 : Kc C204 16 = (.ldc 55, 0, 0, 0, (-1000001)) := rfl
theorem k204_18 : Kc C204 18 = (.ireturn, 0, 0, 0, 0) := rfl
theorem ev204 (d : Nat) (x0 : Nat) (x1 : Int32) (h : Hp) : EvM (d + 1) 204 [.ref x0, .int x1] h = EvI (EvM d) C204 1 0 [.ref x0, .int x1] [] h := rfl
theorem k205_0 : Kc C205 0 = (.iload_n 1, 1, 0, 0, 0) := rfl
theorem k205_1 : Kc C205 1 = (.ifCond .eq 28, 29, 0, 0, 0) := rfl
theorem k205_4 : Kc C205 4 = (.iload_n 1, 1, 0, 0, 0) := rfl
theorem k205_5 : Kc C205 5 = (.iload_n 0, 0, 0, 0, 0) := rfl
theorem k205_6 : Kc C205 6 = (.if_icmp .eq 23, 29, 0, 0, 0) := rfl
theorem k205_9 : Kc C205 9 = (.iload_n 1, 1, 0, 0, 0) := rfl
theorem k205_10 : Kc C205 10 = (.iconst 1, 0, 0, 0, 1) := rfl
theorem k205_11 : Kc C205 11 = (.if_icmp .ne 8, 19, 0, 0, 0) := rfl
theorem k205_14 : Kc C205 14 = (.iload_n 0, 0, 0, 0, 0) := rfl
theorem k205_15 : Kc C205 15 = (.iconst 4, 0, 0, 0, 4) := rfl
theorem k205_16 : Kc C205 16 = (.if_icmp .lt 13, 29, 0, 0, 0) := rfl
theorem k205_19 : Kc C205 19 = (.iload_n 1, 1, 0, 0, 0) := rfl
theorem k205_20 : Kc C205 20 = (.iconst 4, 0, 0, 0, 4) := rfl
theorem k205_21 : Kc C205 21 = (.if_icmp .ne 12, 33, 0, 0, 0) := rfl
theorem k205_24 : Kc C205 24 = (.iload_n 0, 0, 0, 0, 0) := rfl
theorem k205_25 : Kc C205 25 = (.iconst 5, 0, 0, 0, 5) := rfl
theorem k205_26 : Kc C205 26 = (.if_icmp .ne 7, 33, 0, 0, 0) := rfl
theorem k205_29 : Kc C205 29 = (.iconst 1, 0, 0, 0, 1) := rfl
theorem k205_30 : Kc C205 30 = (.goto 4, 34, 0, 0, 0) := rfl
theorem k205_33 : Kc C205 33 = (.iconst 0, 0, 0, 0, 0) := rfl
theorem k205_34 : Kc C205 34 = (.ireturn, 0, 0, 0, 0) := rfl
theorem ev205 (d : Nat) (x0 : Int32) (x1 : Int32) (h : Hp) : EvM (d + 1) 205 [.int x0, .int x1] h = EvI (EvM d) C205 2 0 [.int x0, .int x1] [] h := rfl
theorem k206_0 : Kc C206 0 = (.aload_n 0, 0, 0, 0, 0) := rfl
theorem k206_1 : Kc C206 1 = (.iload_n 1, 1, 0, 0, 0) := rfl
theorem k206_2 : Kc C206 2 = (.invokevirtual 154, 151, 1, 29, 0) := rfl
theorem k206_5 : Kc C206 5 = (.ifCond .eq 15, 20, 0, 0, 0) := rfl
theorem k206_8 : Kc C206 8 = (.iload_n 2, 2, 0, 0, 0) := rfl
theorem k206_9 : Kc C206 9 = (.i2l, 0, 0, 0, 0) := rfl
theorem k206_10 : Kc C206 10 = (.lconst 0, 0, 0, 0, 0) := rfl
theorem k206_11 : Kc C206 11 = (.ldc2_w 256, 0, 0, 0, 5) := rfl
theorem k206_14 : Kc C206 14 = (.invokestatic 45, 131, 3, 29, 0) := rfl
theorem k206_17 : Kc C206 17 = (.ifCond .ne 6, 23, 0, 0, 0) := rfl
theorem k206_20 : Kc C206 20 = (.ldc 55, 0, 0, 0, (-1000001)) := rfl
theorem k206_22 : Kc C206 22 = (.ireturn, 0, 0, 0, 0) := rfl
theorem k206_23 : Kc C206 23 = (.aload_n 0, 0, 0, 0, 0) := rfl
theorem k206_24 : Kc C206 24 = (.iload_n 1, 1, 0, 0, 0) := rfl
theorem k206_25 : Kc C206 25 = (.invokevirtual 119, 152, 1, 28, 0) := rfl
theorem k206_28 : Kc C206 28 = (.iload_n 2, 2, 0, 0, 0) := rfl
theorem k206_29 : Kc C206 29 = (.invokestatic 258, 205, 2, 29, 0) := rfl
theorem k206_32 : Kc C206 32 = (.ifCond .eq 11, 43, 0, 0, 0) := rfl
theorem k206_35 : Kc C206 35 = (.aload_n 0, 0, 0, 0, 0) := rfl
theorem k206_36 : Kc C206 36 = (.iload_n 1, 1, 0, 0, 0) := rfl
theorem k206_37 : Kc C206 37 = (.invokevirtual 60, 134, 1, 28, 0) := rfl
theorem k206_40 : Kc C206 40 = (.goto 8, 48, 0, 0, 0) := rfl
theorem k206_43 : Kc C206 43 = (.aload_n 0, 0, 0, 0, 0) := rfl
theorem k206_44 : Kc C206 44 = (.iconst 3, 0, 0, 0, 3) := rfl
theorem k206_45 : Kc C206 45 = (.invokevirtual 56, 133, 1, 28, 0) := rfl
theorem k206_48 : Kc C206 48 = (.ireturn, 0, 0, 0, 0) := rfl
theorem ev206 (d : Nat) (x0 : Nat) (x1 : Int32) (x2 : Int32) (h : Hp) : EvM (d + 1) 206 [.ref x0, .int x1, .int x2] h = EvI (EvM d) C206 1 0 [.ref x0, .int x1, .int x2] [] h := rfl
theorem k207_0 : Kc C207 0 = (.aload_n 0, 0, 0, 0, 0) := rfl
theorem k207_1 : Kc C207 1 = (.getfield 261, 9, 11, 0, 0) := rfl
theorem k207_4 : Kc C207 4 = (.bipush 16, 0, 0, 0, 16) := rfl
theorem k207_6 : Kc C207 6 = (.if_icmp .ge 23, 29, 0, 0, 0) := rfl
theorem k207_9 : Kc C207 9 = (.aload_n 0, 0, 0, 0, 0) := rfl
theorem k207_10 : Kc C207 10 = (.getfield 29, 9, 10, 0, 0) := rfl
theorem k207_13 : Kc C207 13 = (.aload_n 0, 0, 0, 0, 0) := rfl
theorem k207_14 : Kc C207 14 = (.getfield 261, 9, 11, 0, 0) := rfl
theorem k207_17 : Kc C207 17 = (.iload_n 1, 1, 0, 0, 0) := rfl
theorem k207_18 : Kc C207 18 = (.iastore, 0, 0, 0, 0) := rfl
theorem k207_19 : Kc C207 19 = (.aload_n 0, 0, 0, 0, 0) := rfl
theorem k207_20 : Kc C207 20 = (.dup, 0, 0, 0, 0) := rfl
theorem k207_21 : Kc C207 21 = (.getfield 261, 9, 11, 0, 0) := rfl
theorem k207_24 : Kc C207 24 = (.iconst 1, 0, 0, 0, 1) := rfl
theorem k207_25 : Kc C207 25 = (.iadd, 0, 0, 0, 0) := rfl
theorem k207_26 : Kc C207 26 = (.putfield 261, 9, 11, 0, 0) := rfl
theorem k207_29 : Kc C207 29 = (.return_, 0, 0, 0, 0) := rfl
theorem ev207 (d : Nat) (x0 : Nat) (x1 : Int32) (h : Hp) : EvM (d + 1) 207 [.ref x0, .int x1] h = EvI (EvM d) C207 0 0 [.ref x0, .int x1] [] h := rfl
theorem k208_0 : Kc C208 0 = (.aload_n 0, 0, 0, 0, 0) := rfl
theorem k208_1 : Kc C208 1 = (.bipush 10, 0, 0, 0, 10) := rfl
theorem k208_3 : Kc C208 3 = (.invokevirtual 264, 207, 1, 27, 0) := rfl
theorem k208_6 : Kc C208 6 = (.aload_n 0, 0, 0, 0, 0) := rfl
theorem k208_7 : Kc C208 7 = (.iconst 0, 0, 0, 0, 0) := rfl
theorem k208_8 : Kc C208 8 = (.iload_n 1, 1, 0, 0, 0) := rfl
theorem k208_9 : Kc C208 9 = (.invokevirtual 126, 154, 2, 28, 0) := rfl
theorem k208_12 : Kc C208 12 = (.ireturn, 0, 0, 0, 0) := rfl
theorem ev208 (d : Nat) (x0 : Nat) (x1 : Int32) (h : Hp) : EvM (d + 1) 208 [.ref x0, .int x1] h = EvI (EvM d) C208 1 0 [.ref x0, .int x1] [] h := rfl
theorem k209_0 : Kc C209 0 = (.aload_n 0, 0, 0, 0, 0) := rfl
theorem k209_1 : Kc C209 1 = (.bipush 20, 0, 0, 0, 20) := rfl
theorem k209_3 : Kc C209 3 = (.invokevirtual 264, 207, 1, 27, 0) := rfl
theorem k209_6 : Kc C209 6 = (.iload_n 1, 1, 0, 0, 0) := rfl
theorem k209_7 : Kc C209 7 = (.ireturn, 0, 0, 0, 0) := rfl
theorem ev209 (d : Nat) (x0 : Nat) (x1 : Int32) (h : Hp) : EvM (d + 1) 209 [.ref x0, .int x1] h = EvI (EvM d) C209 1 0 [.ref x0, .int x1] [] h := rfl
theorem k210_0 : Kc C210 0 = (.aload_n 0, 0, 0, 0, 0) := rfl
theorem k210_1 : Kc C210 1 = (.bipush 21, 0, 0, 0, 21) := rfl
theorem k210_3 : Kc C210 3 = (.invokevirtual 264, 207, 1, 27, 0) := rfl
theorem k210_6 : Kc C210 6 = (.aload_n 0, 0, 0, 0, 0) := rfl
theorem k210_7 : Kc C210 7 = (.iload_n 1, 1, 0, 0, 0) := rfl
theorem k210_8 : Kc C210 8 = (.invokevirtual 267, 209, 1, 28, 0) := rfl
theorem k210_11 : Kc C210 11 = (.istore_n 2, 2, 0, 0, 0) := rfl
theorem k210_12 : Kc C210 12 = (.iload_n 2, 2, 0, 0, 0) := rfl
theorem k210_13 : Kc C210 13 = (.aload_n 0, 0, 0, 0, 0) := rfl
theorem k210_14 : Kc C210 14 = (.getfield 7, 9, 0, 0, 0) := rfl
theorem k210_17 : Kc C210 17 = (.iconst 0, 0, 0, 0, 0) := rfl
theorem k210_18 : Kc C210 18 = (.iload_n 1, 1, 0, 0, 0) := rfl
theorem k210_19 : Kc C210 19 = (.invokestatic 116, 153, 2, 28, 0) := rfl
theorem k210_22 : Kc C210 22 = (.iconst 3, 0, 0, 0, 3) := rfl
theorem k210_23 : Kc C210 23 = (.iadd, 0, 0, 0, 0) := rfl
theorem k210_24 : Kc C210 24 = (.iaload, 0, 0, 0, 0) := rfl
theorem k210_25 : Kc C210 25 = (.iadd, 0, 0, 0, 0) := rfl
theorem k210_26 : Kc C210 26 = (.ireturn, 0, 0, 0, 0) := rfl
theorem ev210 (d : Nat) (x0 : Nat) (x1 : Int32) (h : Hp) : EvM (d + 1) 210 [.ref x0, .int x1] h = EvI (EvM d) C210 1 0 [.ref x0, .int x1, jk] [] h := rfl
theorem k211_0 : Kc C211 0 = (.aload_n 0, 0, 0, 0, 0) := rfl
theorem k211_1 : Kc C211 1 = (.iload_n 1, 1, 0, 0, 0) := rfl
theorem k211_2 : Kc C211 2 = (.invokevirtual 119, 152, 1, 28, 0) := rfl
theorem k211_5 : Kc C211 5 = (.istore_n 2, 2, 0, 0, 0) := rfl
theorem k211_6 : Kc C211 6 = (.iload_n 2, 2, 0, 0, 0) := rfl
theorem k211_7 : Kc C211 7 = (.iconst 1, 0, 0, 0, 1) := rfl
theorem k211_8 : Kc C211 8 = (.if_icmp .ne 9, 17, 0, 0, 0) := rfl
theorem k211_11 : Kc C211 11 = (.aload_n 0, 0, 0, 0, 0) := rfl
theorem k211_12 : Kc C211 12 = (.iload_n 1, 1, 0, 0, 0) := rfl
theorem k211_13 : Kc C211 13 = (.invokevirtual 270, 210, 1, 28, 0) := rfl
theorem k211_16 : Kc C211 16 = (.ireturn, 0, 0, 0, 0) := rfl
theorem k211_17 : Kc C211 17 = (.aload_n 0, 0, 0, 0, 0) := rfl
theorem k211_18 : Kc C211 18 = (.iload_n 2, 2, 0, 0, 0) := rfl
theorem k211_19 : Kc C211 19 = (.iconst 3, 0, 0, 0, 3) := rfl
theorem k211_20 : Kc C211 20 = (.if_icmp .ne 8, 28, 0, 0, 0) := rfl
theorem k211_23 : Kc C211 23 = (.bipush 22, 0, 0, 0, 22) := rfl
theorem k211_25 : Kc C211 25 = (.goto 5, 30, 0, 0, 0) := rfl
theorem k211_28 : Kc C211 28 = (.bipush 24, 0, 0, 0, 24) := rfl
theorem k211_30 : Kc C211 30 = (.invokevirtual 264, 207, 1, 27, 0) := rfl
theorem k211_33 : Kc C211 33 = (.aload_n 0, 0, 0, 0, 0) := rfl
theorem k211_34 : Kc C211 34 = (.iload_n 1, 1, 0, 0, 0) := rfl
theorem k211_35 : Kc C211 35 = (.invokevirtual 270, 210, 1, 28, 0) := rfl
theorem k211_38 : Kc C211 38 = (.istore_n 3, 3, 0, 0, 0) := rfl
theorem k211_39 : Kc C211 39 = (.iload_n 2, 2, 0, 0, 0) := rfl
theorem k211_40 : Kc C211 40 = (.iconst 3, 0, 0, 0, 3) := rfl
theorem k211_41 : Kc C211 41 = (.if_icmp .ne 11, 52, 0, 0, 0) := rfl
theorem k211_44 : Kc C211 44 = (.iload_n 3, 3, 0, 0, 0) := rfl
theorem k211_45 : Kc C211 45 = (.sipush 1000, 0, 0, 0, 1000) := rfl
theorem k211_48 : Kc C211 48 = (.isub, 0, 0, 0, 0) := rfl
theorem k211_49 : Kc C211 49 = (.goto 6, 55, 0, 0, 0) := rfl
theorem k211_52 : Kc C211 52 = (.iconst 2, 0, 0, 0, 2) := rfl
theorem k211_53 : Kc C211 53 = (.iload_n 3, 3, 0, 0, 0) := rfl
theorem k211_54 : Kc C211 54 = (.imul, 0, 0, 0, 0) := rfl
theorem k211_55 : Kc C211 55 = (.ireturn, 0, 0, 0, 0) := rfl
theorem ev211 (d : Nat) (x0 : Nat) (x1 : Int32) (h : Hp) : EvM (d + 1) 211 [.ref x0, .int x1] h = EvI (EvM d) C211 1 0 [.ref x0, .int x1, jk, jk] [] h := rfl
theorem k212_0 : Kc C212 0 = (.aload_n 0, 0, 0, 0, 0) := rfl
theorem k212_1 : Kc C212 1 = (.bipush 11, 0, 0, 0, 11) := rfl
theorem k212_3 : Kc C212 3 = (.invokevirtual 264, 207, 1, 27, 0) := rfl
theorem k212_6 : Kc C212 6 = (.aload_n 0, 0, 0, 0, 0) := rfl
theorem k212_7 : Kc C212 7 = (.iload_n 1, 1, 0, 0, 0) := rfl
theorem k212_8 : Kc C212 8 = (.invokevirtual 273, 208, 1, 28, 0) := rfl
theorem k212_11 : Kc C212 11 = (.istore_n 2, 2, 0, 0, 0) := rfl
theorem k212_12 : Kc C212 12 = (.iload_n 2, 2, 0, 0, 0) := rfl
theorem k212_13 : Kc C212 13 = (.aload_n 0, 0, 0, 0, 0) := rfl
theorem k212_14 : Kc C212 14 = (.iload_n 1, 1, 0, 0, 0) := rfl
theorem k212_15 : Kc C212 15 = (.invokevirtual 276, 211, 1, 28, 0) := rfl
theorem k212_18 : Kc C212 18 = (.iadd, 0, 0, 0, 0) := rfl
theorem k212_19 : Kc C212 19 = (.ireturn, 0, 0, 0, 0) := rfl
theorem ev212 (d : Nat) (x0 : Nat) (x1 : Int32) (h : Hp) : EvM (d + 1) 212 [.ref x0, .int x1] h = EvI (EvM d) C212 1 0 [.ref x0, .int x1, jk] [] h := rfl
theorem k213_0 : Kc C213 0 = (.aload_n 0, 0, 0, 0, 0) := rfl
theorem k213_1 : Kc C213 1 = (.bipush 13, 0, 0, 0, 13) := rfl
theorem k213_3 : Kc C213 3 = (.invokevirtual 264, 207, 1, 27, 0) := rfl
theorem k213_6 : Kc C213 6 = (.aload_n 0, 0, 0, 0, 0) := rfl
theorem k213_7 : Kc C213 7 = (.iload_n 1, 1, 0, 0, 0) := rfl
theorem k213_8 : Kc C213 8 = (.invokevirtual 273, 208, 1, 28, 0) := rfl
theorem k213_11 : Kc C213 11 = (.bipush 100, 0, 0, 0, 100) := rfl
theorem k213_13 : Kc C213 13 = (.isub, 0, 0, 0, 0) := rfl
theorem k213_14 : Kc C213 14 = (.ireturn, 0, 0, 0, 0) := rfl
theorem ev213 (d : Nat) (x0 : Nat) (x1 : Int32) (h : Hp) : EvM (d + 1) 213 [.ref x0, .int x1] h = EvI (EvM d) C213 1 0 [.ref x0, .int x1] [] h := rfl
theorem k214_0 : Kc C214 0 = (.aload_n 0, 0, 0, 0, 0) := rfl
theorem k214_1 : Kc C214 1 = (.iload_n 1, 1, 0, 0, 0) := rfl
theorem k214_2 : Kc C214 2 = (.invokevirtual 119, 152, 1, 28, 0) := rfl
theorem k214_5 : Kc C214 5 = (.iconst 4, 0, 0, 0, 4) := rfl
theorem k214_6 : Kc C214 6 = (.if_icmp .ne 9, 15, 0, 0, 0) := rfl
theorem k214_9 : Kc C214 9 = (.aload_n 0, 0, 0, 0, 0) := rfl
theorem k214_10 : Kc C214 10 = (.iload_n 1, 1, 0, 0, 0) := rfl
theorem k214_11 : Kc C214 11 = (.invokevirtual 279, 213, 1, 28, 0) := rfl
theorem k214_14 : Kc C214 14 = (.ireturn, 0, 0, 0, 0) := rfl
theorem k214_15 : Kc C214 15 = (.aload_n 0, 0, 0, 0, 0) := rfl
theorem k214_16 : Kc C214 16 = (.bipush 14, 0, 0, 0, 14) := rfl
theorem k214_18 : Kc C214 18 = (.invokevirtual 264, 207, 1, 27, 0) := rfl
theorem k214_21 : Kc C214 21 = (.iconst 2, 0, 0, 0, 2) := rfl
theorem k214_22 : Kc C214 22 = (.aload_n 0, 0, 0, 0, 0) := rfl
theorem k214_23 : Kc C214 23 = (.iload_n 1, 1, 0, 0, 0) := rfl
theorem k214_24 : Kc C214 24 = (.invokevirtual 279, 213, 1, 28, 0) := rfl
theorem k214_27 : Kc C214 27 = (.imul, 0, 0, 0, 0) := rfl
theorem k214_28 : Kc C214 28 = (.ireturn, 0, 0, 0, 0) := rfl
theorem ev214 (d : Nat) (x0 : Nat) (x1 : Int32) (h : Hp) : EvM (d + 1) 214 [.ref x0, .int x1] h = EvI (EvM d) C214 1 0 [.ref x0, .int x1] [] h := rfl
theorem k215_0 : Kc C215 0 = (.aload_n 0, 0, 0, 0, 0) := rfl
theorem k215_1 : Kc C215 1 = (.iload_n 1, 1, 0, 0, 0) := rfl
theorem k215_2 : Kc C215 2 = (.invokevirtual 119, 152, 1, 28, 0) := rfl
theorem k215_5 : Kc C215 5 = (.iconst 2, 0, 0, 0, 2) := rfl
theorem k215_6 : Kc C215 6 = (.if_icmp .eq 9, 15, 0, 0, 0) := rfl
theorem k215_9 : Kc C215 9 = (.aload_n 0, 0, 0, 0, 0) := rfl
theorem k215_10 : Kc C215 10 = (.iload_n 1, 1, 0, 0, 0) := rfl
theorem k215_11 : Kc C215 11 = (.invokevirtual 282, 212, 1, 28, 0) := rfl
theorem k215_14 : Kc C215 14 = (.ireturn, 0, 0, 0, 0) := rfl
theorem k215_15 : Kc C215 15 = (.aload_n 0, 0, 0, 0, 0) := rfl
theorem k215_16 : Kc C215 16 = (.bipush 12, 0, 0, 0, 12) := rfl
theorem k215_18 : Kc C215 18 = (.invokevirtual 264, 207, 1, 27, 0) := rfl
theorem k215_21 : Kc C215 21 = (.aload_n 0, 0, 0, 0, 0) := rfl
theorem k215_22 : Kc C215 22 = (.iload_n 1, 1, 0, 0, 0) := rfl
theorem k215_23 : Kc C215 23 = (.invokevirtual 282, 212, 1, 28, 0) := rfl
theorem k215_26 : Kc C215 26 = (.ineg, 0, 0, 0, 0) := rfl
theorem k215_27 : Kc C215 27 = (.ireturn, 0, 0, 0, 0) := rfl
theorem ev215 (d : Nat) (x0 : Nat) (x1 : Int32) (h : Hp) : EvM (d + 1) 215 [.ref x0, .int x1] h = EvI (EvM d) C215 1 0 [.ref x0, .int x1] [] h := rfl
theorem k216_0 : Kc C216 0 = (.aload_n 0, 0, 0, 0, 0) := rfl
theorem k216_1 : Kc C216 1 = (.bipush 23, 0, 0, 0, 23) := rfl
theorem k216_3 : Kc C216 3 = (.invokevirtual 264, 207, 1, 27, 0) := rfl
theorem k216_6 : Kc C216 6 = (.aload_n 0, 0, 0, 0, 0) := rfl
theorem k216_7 : Kc C216 7 = (.iload_n 1, 1, 0, 0, 0) := rfl
theorem k216_8 : Kc C216 8 = (.invokevirtual 267, 209, 1, 28, 0) := rfl
theorem k216_11 : Kc C216 11 = (.istore_n 2, 2, 0, 0, 0) := rfl
theorem k216_12 : Kc C216 12 = (.iload_n 2, 2, 0, 0, 0) := rfl
theorem k216_13 : Kc C216 13 = (.aload_n 0, 0, 0, 0, 0) := rfl
theorem k216_14 : Kc C216 14 = (.iload_n 1, 1, 0, 0, 0) := rfl
theorem k216_15 : Kc C216 15 = (.invokevirtual 285, 214, 1, 28, 0) := rfl
theorem k216_18 : Kc C216 18 = (.isub, 0, 0, 0, 0) := rfl
theorem k216_19 : Kc C216 19 = (.ireturn, 0, 0, 0, 0) := rfl
theorem ev216 (d : Nat) (x0 : Nat) (x1 : Int32) (h : Hp) : EvM (d + 1) 216 [.ref x0, .int x1] h = EvI (EvM d) C216 1 0 [.ref x0, .int x1, jk] [] h := rfl
theorem k217_0 : Kc C217 0 = (.aload_n 0, 0, 0, 0, 0) := rfl
theorem k217_1 : Kc C217 1 = (.iload_n 1, 1, 0, 0, 0) := rfl
theorem k217_2 : Kc C217 2 = (.invokevirtual 154, 151, 1, 29, 0) := rfl
theorem k217_5 : Kc C217 5 = (.ifCond .eq 13, 18, 0, 0, 0) := rfl
theorem k217_8 : Kc C217 8 = (.iload_n 2, 2, 0, 0, 0) := rfl
theorem k217_9 : Kc C217 9 = (.i2l, 0, 0, 0, 0) := rfl
theorem k217_10 : Kc C217 10 = (.lconst 0, 0, 0, 0, 0) := rfl
theorem k217_11 : Kc C217 11 = (.lconst 1, 0, 0, 0, 1) := rfl
theorem k217_12 : Kc C217 12 = (.invokestatic 45, 131, 3, 29, 0) := rfl
theorem k217_15 : Kc C217 15 = (.ifCond .ne 6, 21, 0, 0, 0) := rfl
theorem k217_18 : Kc C217 18 = (.ldc 55, 0, 0, 0, (-1000001)) := rfl
theorem k217_20 : Kc C217 20 = (.ireturn, 0, 0, 0, 0) := rfl
theorem k217_21 : Kc C217 21 = (.aload_n 0, 0, 0, 0, 0) := rfl
theorem k217_22 : Kc C217 22 = (.iconst 0, 0, 0, 0, 0) := rfl
theorem k217_23 : Kc C217 23 = (.putfield 261, 9, 11, 0, 0) := rfl
theorem k217_26 : Kc C217 26 = (.aload_n 0, 0, 0, 0, 0) := rfl
theorem k217_27 : Kc C217 27 = (.iload_n 1, 1, 0, 0, 0) := rfl
theorem k217_28 : Kc C217 28 = (.invokevirtual 119, 152, 1, 28, 0) := rfl
theorem k217_31 : Kc C217 31 = (.iconst 4, 0, 0, 0, 4) := rfl
theorem k217_32 : Kc C217 32 = (.if_icmp .ge 7, 39, 0, 0, 0) := rfl
theorem k217_35 : Kc C217 35 = (.iconst 1, 0, 0, 0, 1) := rfl
theorem k217_36 : Kc C217 36 = (.goto 4, 40, 0, 0, 0) := rfl
theorem k217_39 : Kc C217 39 = (.iconst 0, 0, 0, 0, 0) := rfl
theorem k217_40 : Kc C217 40 = (.istore_n 3, 3, 0, 0, 0) := rfl
theorem k217_41 : Kc C217 41 = (.iload_n 2, 2, 0, 0, 0) := rfl
theorem k217_42 : Kc C217 42 = (.ifCond .ne 23, 65, 0, 0, 0) := rfl
theorem k217_45 : Kc C217 45 = (.iload_n 3, 3, 0, 0, 0) := rfl
theorem k217_46 : Kc C217 46 = (.ifCond .eq 11, 57, 0, 0, 0) := rfl
theorem k217_49 : Kc C217 49 = (.aload_n 0, 0, 0, 0, 0) := rfl
theorem k217_50 : Kc C217 50 = (.iload_n 1, 1, 0, 0, 0) := rfl
theorem k217_51 : Kc C217 51 = (.invokevirtual 288, 215, 1, 28, 0) := rfl
theorem k217_54 : Kc C217 54 = (.goto 28, 82, 0, 0, 0) := rfl
theorem k217_57 : Kc C217 57 = (.aload_n 0, 0, 0, 0, 0) := rfl
theorem k217_58 : Kc C217 58 = (.iload_n 1, 1, 0, 0, 0) := rfl
theorem k217_59 : Kc C217 59 = (.invokevirtual 285, 214, 1, 28, 0) := rfl
theorem k217_62 : Kc C217 62 = (.goto 20, 82, 0, 0, 0) := rfl
theorem k217_65 : Kc C217 65 = (.iload_n 3, 3, 0, 0, 0) := rfl
theorem k217_66 : Kc C217 66 = (.ifCond .eq 11, 77, 0, 0, 0) := rfl
theorem k217_69 : Kc C217 69 = (.aload_n 0, 0, 0, 0, 0) := rfl
theorem k217_70 : Kc C217 70 = (.iload_n 1, 1, 0, 0, 0) := rfl
theorem k217_71 : Kc C217 71 = (.invokevirtual 276, 211, 1, 28, 0) := rfl
theorem k217_74 : Kc C217 74 = (.goto 8, 82, 0, 0, 0) := rfl
theorem k217_77 : Kc C217 77 = (.aload_n 0, 0, 0, 0, 0) := rfl
theorem k217_78 : Kc C217 78 = (.iload_n 1, 1, 0, 0, 0) := rfl
theorem k217_79 : Kc C217 79 = (.invokevirtual 291, 216, 1, 28, 0) := rfl
theorem k217_82 : Kc C217 82 = (.ireturn, 0, 0, 0, 0) := rfl
theorem ev217 (d : Nat) (x0 : Nat) (x1 : Int32) (x2 : Int32) (h : Hp) : EvM (d + 1) 217 [.ref x0, .int x1, .int x2] h = EvI (EvM d) C217 1 0 [.ref x0, .int x1, .int x2, jk] [] h := rfl
theorem k218_0 : Kc C218 0 = (.iload_n 1, 1, 0, 0, 0) := rfl
theorem k218_1 : Kc C218 1 = (.i2l, 0, 0, 0, 0) := rfl
theorem k218_2 : Kc C218 2 = (.lconst 0, 0, 0, 0, 0) := rfl
theorem k218_3 : Kc C218 3 = (.aload_n 0, 0, 0, 0, 0) := rfl
theorem k218_4 : Kc C218 4 = (.getfield 261, 9, 11, 0, 0) := rfl
theorem k218_7 : Kc C218 7 = (.iconst 1, 0, 0, 0, 1) := rfl
theorem k218_8 : Kc C218 8 = (.isub, 0, 0, 0, 0) := rfl
theorem k218_9 : Kc C218 9 = (.i2l, 0, 0, 0, 0) := rfl
theorem k218_10 : Kc C218 10 = (.invokestatic 45, 131, 3, 29, 0) := rfl
theorem k218_13 : Kc C218 13 = (.ifCond .eq 12, 25, 0, 0, 0) := rfl
theorem k218_16 : Kc C218 16 = (.aload_n 0, 0, 0, 0, 0) := rfl
theorem k218_17 : Kc C218 17 = (.getfield 29, 9, 10, 0, 0) := rfl
theorem k218_20 : Kc C218 20 = (.iload_n 1, 1, 0, 0, 0) := rfl
theorem k218_21 : Kc C218 21 = (.iaload, 0, 0, 0, 0) := rfl
theorem k218_22 : Kc C218 22 = (.goto 5, 27, 0, 0, 0) := rfl
theorem k218_25 : Kc C218 25 = (.ldc 19, 0, 0, 0, (-1000000)) := rfl
theorem k218_27 : Kc C218 27 = (.ireturn, 0, 0, 0, 0) := rfl
theorem ev218 (d : Nat) (x0 : Nat) (x1 : Int32) (h : Hp) : EvM (d + 1) 218 [.ref x0, .int x1] h = EvI (EvM d) C218 1 0 [.ref x0, .int x1] [] h := rfl
theorem k219_0 : Kc C219 0 = (.iconst 0, 0, 0, 0, 0) := rfl
theorem k219_1 : Kc C219 1 = (.istore_n 2, 2, 0, 0, 0) := rfl
theorem k219_2 : Kc C219 2 = (.iconst 0, 0, 0, 0, 0) := rfl
theorem k219_3 : Kc C219 3 = (.istore_n 3, 3, 0, 0, 0) := rfl
theorem k219_4 : Kc C219 4 = (.iconst 0, 0, 0, 0, 0) := rfl
theorem k219_5 : Kc C219 5 = (.istore 4, 4, 0, 0, 0) := rfl
theorem k219_7 : Kc C219 7 = (.iload 4, 4, 0, 0, 0) := rfl
theorem k219_9 : Kc C219 9 = (.bipush 8, 0, 0, 0, 8) := rfl
theorem k219_11 : Kc C219 11 = (.if_icmp .ge 54, 65, 0, 0, 0) := rfl
theorem k219_14 : Kc C219 14 = (.iload_n 2, 2, 0, 0, 0) := rfl
theorem k219_15 : Kc C219 15 = (.aload_n 0, 0, 0, 0, 0) := rfl
theorem k219_16 : Kc C219 16 = (.getfield 20, 9, 7, 0, 0) := rfl
theorem k219_19 : Kc C219 19 = (.iload 4, 4, 0, 0, 0) := rfl
theorem k219_21 : Kc C219 21 = (.iaload, 0, 0, 0, 0) := rfl
theorem k219_22 : Kc C219 22 = (.ldc 19, 0, 0, 0, (-1000000)) := rfl
theorem k219_24 : Kc C219 24 = (.if_icmp .ne 7, 31, 0, 0, 0) := rfl
theorem k219_27 : Kc C219 27 = (.iconst 0, 0, 0, 0, 0) := rfl
theorem k219_28 : Kc C219 28 = (.goto 4, 32, 0, 0, 0) := rfl
theorem k219_31 : Kc C219 31 = (.iconst 1, 0, 0, 0, 1) := rfl
theorem k219_32 : Kc C219 32 = (.iadd, 0, 0, 0, 0) := rfl
theorem k219_33 : Kc C219 33 = (.istore_n 2, 2, 0, 0, 0) := rfl
theorem k219_34 : Kc C219 34 = (.iload_n 3, 3, 0, 0, 0) := rfl
theorem k219_35 : Kc C219 35 = (.iload 4, 4, 0, 0, 0) := rfl
theorem k219_37 : Kc C219 37 = (.aload_n 0, 0, 0, 0, 0) := rfl
theorem k219_38 : Kc C219 38 = (.getfield 7, 9, 0, 0, 0) := rfl
theorem k219_41 : Kc C219 41 = (.iconst 3, 0, 0, 0, 3) := rfl
theorem k219_42 : Kc C219 42 = (.iaload, 0, 0, 0, 0) := rfl
theorem k219_43 : Kc C219 43 = (.if_icmp .ge 13, 56, 0, 0, 0) := rfl
theorem k219_46 : Kc C219 46 = (.aload_n 0, 0, 0, 0, 0) := rfl
theorem k219_47 : Kc C219 47 = (.iconst 0, 0, 0, 0, 0) := rfl
theorem k219_48 : Kc C219 48 = (.iload 4, 4, 0, 0, 0) := rfl
theorem k219_50 : Kc C219 50 = (.invokevirtual 126, 154, 2, 28, 0) := rfl
theorem k219_53 : Kc C219 53 = (.goto 4, 57, 0, 0, 0) := rfl
theorem k219_56 : Kc C219 56 = (.iconst 0, 0, 0, 0, 0) := rfl
theorem k219_57 : Kc C219 57 = (.iadd, 0, 0, 0, 0) := rfl
theorem k219_58 : Kc C219 58 = (.istore_n 3, 3, 0, 0, 0) := rfl
theorem k219_59 : Kc C219 59 = (.iinc 4 1, 4, 0, 0, 1) := rfl
theorem k219_62 : Kc C219 62 = (.goto (-55), 7, 0, 0, 0) := rfl
theorem k219_65 : Kc C219 65 = (.iload_n 1, 1, 0, 0, 0) := rfl
theorem k219_66 : Kc C219 66 = (.tableswitch 77 0 6 #[42, 44, 51, 59, 61, 67, 72], 0, 0, 0, 0) := rfl
theorem k219_108 : Kc C219 108 = (.iload_n 2, 2, 0, 0, 0) := rfl
theorem k219_109 : Kc C219 109 = (.ireturn, 0, 0, 0, 0) := rfl
theorem k219_110 : Kc C219 110 = (.aload_n 0, 0, 0, 0, 0) := rfl
theorem k219_111 : Kc C219 111 = (.getfield 7, 9, 0, 0, 0) := rfl
theorem k219_114 : Kc C219 114 = (.iconst 3, 0, 0, 0, 3) := rfl
theorem k219_115 : Kc C219 115 = (.iaload, 0, 0, 0, 0) := rfl
theorem k219_116 : Kc C219 116 = (.ireturn, 0, 0, 0, 0) := rfl
theorem k219_117 : Kc C219 117 = (.aload_n 0, 0, 0, 0, 0) := rfl
theorem k219_118 : Kc C219 118 = (.getfield 7, 9, 0, 0, 0) := rfl
theorem k219_121 : Kc C219 121 = (.bipush 22, 0, 0, 0, 22) := rfl
theorem k219_123 : Kc C219 123 = (.iaload, 0, 0, 0, 0) := rfl
theorem k219_124 : Kc C219 124 = (.ireturn, 0, 0, 0, 0) := rfl
theorem k219_125 : Kc C219 125 = (.iload_n 3, 3, 0, 0, 0) := rfl
theorem k219_126 : Kc C219 126 = (.ireturn, 0, 0, 0, 0) := rfl
theorem k219_127 : Kc C219 127 = (.aload_n 0, 0, 0, 0, 0) := rfl
theorem k219_128 : Kc C219 128 = (.iconst 0, 0, 0, 0, 0) := rfl
theorem k219_129 : Kc C219 129 = (.invokevirtual 192, 179, 1, 28, 0) := rfl
theorem k219_132 : Kc C219 132 = (.ireturn, 0, 0, 0, 0) := rfl
theorem k219_133 : Kc C219 133 = (.aload_n 0, 0, 0, 0, 0) := rfl
theorem k219_134 : Kc C219 134 = (.getfield 113, 9, 2, 0, 0) := rfl
theorem k219_137 : Kc C219 137 = (.ireturn, 0, 0, 0, 0) := rfl
theorem k219_138 : Kc C219 138 = (.aload_n 0, 0, 0, 0, 0) := rfl
theorem k219_139 : Kc C219 139 = (.getfield 69, 9, 4, 0, 0) := rfl
theorem k219_142 : Kc C219 142 = (.ireturn, 0, 0, 0, 0) := rfl
theorem k219_143 : Kc C219 143 = (.ldc 55, 0, 0, 0, (-1000001)) := rfl
theorem k219_145 : Kc C219 145 = (.ireturn, 0, 0, 0, 0) := rfl
theorem ev219 (d : Nat) (x0 : Nat) (x1 : Int32) (h : Hp) : EvM (d + 1) 219 [.ref x0, .int x1] h = EvI (EvM d) C219 1 0 [.ref x0, .int x1, jk, jk, jk] [] h := rfl
theorem k220_0 : Kc C220 0 = (.aload_n 0, 0, 0, 0, 0) := rfl
theorem k220_1 : Kc C220 1 = (.getfield 38, 9, 6, 0, 0) := rfl
theorem k220_4 : Kc C220 4 = (.ireturn, 0, 0, 0, 0) := rfl
theorem ev220 (d : Nat) (x0 : Nat) (h : Hp) : EvM (d + 1) 220 [.ref x0] h = EvI (EvM d) C220 1 0 [.ref x0] [] h := rfl
