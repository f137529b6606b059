def ckP (y : Nat) : Prop := chkT (mI y).1.cls (mI y).2.1 (mI y).2.2.1 (mI y).1.name (KT y) = true ∧ (KT y).all chk2 = true
theorem c2_0 : C0.all chk2 = true := by decide +kernel
theorem c2_1 : C1.all chk2 = true := by decide +kernel
theorem c2_2 : C2.all chk2 = true := by decide +kernel
theorem c2_3 : C3.all chk2 = true := by decide +kernel
theorem c2_4 : C4.all chk2 = true := by decide +kernel
theorem c2_5 : C5.all chk2 = true := by decide +kernel
theorem c2_6 : C6.all chk2 = true := by decide +kernel
theorem c2_7 : C7.all chk2 = true := by decide +kernel
theorem c2_8 : C8.all chk2 = true := by decide +kernel
theorem c2_9 : C9.all chk2 = true := by decide +kernel
theorem c2_10 : C10.all chk2 = true := by decide +kernel
theorem c2_11 : C11.all chk2 = true := by decide +kernel
theorem c2_12 : C12.all chk2 = true := by decide +kernel
theorem c2_13 : C13.all chk2 = true := by decide +kernel
theorem c2_14 : C14.all chk2 = true := by decide +kernel
theorem c2_15 : C15.all chk2 = true := by decide +kernel
theorem c2_16 : C16.all chk2 = true := by decide +kernel
theorem c2_17 : C17.all chk2 = true := by decide +kernel
theorem c2_18 : C18.all chk2 = true := by decide +kernel
theorem c2_19 : C19.all chk2 = true := by decide +kernel
theorem c2_20 : C20.all chk2 = true := by decide +kernel
theorem c2_21 : C21.all chk2 = true := by decide +kernel
theorem c2_22 : C22.all chk2 = true := by decide +kernel
theorem c2_23 : C23.all chk2 = true := by decide +kernel
theorem c2_24 : C24.all chk2 = true := by decide +kernel
theorem c2_25 : C25.all chk2 = true := by decide +kernel
theorem c2_26 : C26.all chk2 = true := by decide +kernel
theorem c2_27 : C27.all chk2 = true := by decide +kernel
theorem c2_28 : C28.all chk2 = true := by decide +kernel
theorem c2_29 : C29.all chk2 = true := by decide +kernel
theorem c2_30 : C30.all chk2 = true := by decide +kernel
theorem c2_31 : C31.all chk2 = true := by decide +kernel
theorem c2_32 : C32.all chk2 = true := by decide +kernel
theorem c2_33 : C33.all chk2 = true := by decide +kernel
theorem c2_34 : C34.all chk2 = true := by decide +kernel
theorem c2_35 : C35.all chk2 = true := by decide +kernel
theorem c2_36 : C36.all chk2 = true := by decide +kernel
theorem c2_37 : C37.all chk2 = true := by decide +kernel
theorem c2_38 : C38.all chk2 = true := by decide +kernel
theorem c2_39 : C39.all chk2 = true := by decide +kernel
theorem c2_40 : C40.all chk2 = true := by decide +kernel
theorem c2_41 : C41.all chk2 = true := by decide +kernel
theorem c2_42 : C42.all chk2 = true := by decide +kernel
theorem c2_43 : C43.all chk2 = true := by decide +kernel
theorem c2_44 : C44.all chk2 = true := by decide +kernel
theorem c2_45 : C45.all chk2 = true := by decide +kernel
theorem c2_46 : C46.all chk2 = true := by decide +kernel
theorem c2_47 : C47.all chk2 = true := by decide +kernel
theorem c2_48 : C48.all chk2 = true := by decide +kernel
theorem c2_49 : C49.all chk2 = true := by decide +kernel
theorem c2_50 : C50.all chk2 = true := by decide +kernel
theorem c2_51 : C51.all chk2 = true := by decide +kernel
theorem c2_52 : C52.all chk2 = true := by decide +kernel
theorem c2_53 : C53.all chk2 = true := by decide +kernel
theorem c2_54 : C54.all chk2 = true := by decide +kernel
theorem c2_55 : C55.all chk2 = true := by decide +kernel
theorem c2_56 : C56.all chk2 = true := by decide +kernel
theorem c2_57 : C57.all chk2 = true := by decide +kernel
theorem c2_58 : C58.all chk2 = true := by decide +kernel
theorem c2_59 : C59.all chk2 = true := by decide +kernel
theorem c2_60 : C60.all chk2 = true := by decide +kernel
theorem c2_61 : C61.all chk2 = true := by decide +kernel
theorem c2_62 : C62.all chk2 = true := by decide +kernel
theorem c2_63 : C63.all chk2 = true := by decide +kernel
theorem c2_64 : C64.all chk2 = true := by decide +kernel
theorem c2_65 : C65.all chk2 = true := by decide +kernel
theorem c2_66 : C66.all chk2 = true := by decide +kernel
theorem c2_67 : C67.all chk2 = true := by decide +kernel
theorem c2_68 : C68.all chk2 = true := by decide +kernel
theorem c2_69 : C69.all chk2 = true := by decide +kernel
theorem c2_70 : C70.all chk2 = true := by decide +kernel
theorem c2_71 : C71.all chk2 = true := by decide +kernel
theorem c2_72 : C72.all chk2 = true := by decide +kernel
theorem c2_73 : C73.all chk2 = true := by decide +kernel
theorem c2_74 : C74.all chk2 = true := by decide +kernel
theorem c2_75 : C75.all chk2 = true := by decide +kernel
theorem c2_76 : C76.all chk2 = true := by decide +kernel
theorem c2_77 : C77.all chk2 = true := by decide +kernel
theorem c2_78 : C78.all chk2 = true := by decide +kernel
theorem c2_79 : C79.all chk2 = true := by decide +kernel
theorem c2_80 : C80.all chk2 = true := by decide +kernel
theorem c2_81 : C81.all chk2 = true := by decide +kernel
theorem c2_82 : C82.all chk2 = true := by decide +kernel
theorem c2_83 : C83.all chk2 = true := by decide +kernel
theorem c2_84 : C84.all chk2 = true := by decide +kernel
theorem c2_85 : C85.all chk2 = true := by decide +kernel
theorem c2_86 : C86.all chk2 = true := by decide +kernel
theorem c2_87 : C87.all chk2 = true := by decide +kernel
theorem c2_88 : C88.all chk2 = true := by decide +kernel
theorem c2_89 : C89.all chk2 = true := by decide +kernel
theorem c2_90 : C90.all chk2 = true := by decide +kernel
theorem c2_91 : C91.all chk2 = true := by decide +kernel
theorem c2_92 : C92.all chk2 = true := by decide +kernel
theorem c2_93 : C93.all chk2 = true := by decide +kernel
theorem c2_94 : C94.all chk2 = true := by decide +kernel
theorem c2_95 : C95.all chk2 = true := by decide +kernel
theorem c2_96 : C96.all chk2 = true := by decide +kernel
theorem c2_97 : C97.all chk2 = true := by decide +kernel
theorem c2_98 : C98.all chk2 = true := by decide +kernel
theorem c2_99 : C99.all chk2 = true := by decide +kernel
theorem c2_100 : C100.all chk2 = true := by decide +kernel
theorem c2_101 : C101.all chk2 = true := by decide +kernel
theorem c2_102 : C102.all chk2 = true := by decide +kernel
theorem c2_103 : C103.all chk2 = true := by decide +kernel
theorem c2_104 : C104.all chk2 = true := by decide +kernel
theorem c2_105 : C105.all chk2 = true := by decide +kernel
theorem c2_106 : C106.all chk2 = true := by decide +kernel
theorem c2_107 : C107.all chk2 = true := by decide +kernel
theorem c2_108 : C108.all chk2 = true := by decide +kernel
theorem c2_109 : C109.all chk2 = true := by decide +kernel
theorem c2_110 : C110.all chk2 = true := by decide +kernel
theorem c2_111 : C111.all chk2 = true := by decide +kernel
theorem c2_112 : C112.all chk2 = true := by decide +kernel
theorem c2_113 : C113.all chk2 = true := by decide +kernel
theorem c2_114 : C114.all chk2 = true := by decide +kernel
theorem c2_115 : C115.all chk2 = true := by decide +kernel
theorem c2_116 : C116.all chk2 = true := by decide +kernel
theorem c2_117 : C117.all chk2 = true := by decide +kernel
theorem c2_118 : C118.all chk2 = true := by decide +kernel
theorem c2_119 : C119.all chk2 = true := by decide +kernel
theorem c2_120 : C120.all chk2 = true := by decide +kernel
theorem c2_121 : C121.all chk2 = true := by decide +kernel
theorem c2_122 : C122.all chk2 = true := by decide +kernel
theorem c2_123 : C123.all chk2 = true := by decide +kernel
theorem c2_124 : C124.all chk2 = true := by decide +kernel
theorem c2_125 : C125.all chk2 = true := by decide +kernel
theorem c2_126 : C126.all chk2 = true := by decide +kernel
theorem c2_127 : C127.all chk2 = true := by decide +kernel
theorem c2_128 : C128.all chk2 = true := by decide +kernel
theorem c2_129 : C129.all chk2 = true := by decide +kernel
theorem c2_130 : C130.all chk2 = true := by decide +kernel
theorem c2_131 : C131.all chk2 = true := by decide +kernel
theorem c2_132 : C132.all chk2 = true := by decide +kernel
theorem c2_133 : C133.all chk2 = true := by decide +kernel
theorem c2_134 : C134.all chk2 = true := by decide +kernel
theorem c2_135 : C135.all chk2 = true := by decide +kernel
theorem c2_136 : C136.all chk2 = true := by decide +kernel
theorem c2_137 : C137.all chk2 = true := by decide +kernel
theorem c2_138 : C138.all chk2 = true := by decide +kernel
theorem c2_139 : C139.all chk2 = true := by decide +kernel
theorem c2_140 : C140.all chk2 = true := by decide +kernel
theorem c2_141 : C141.all chk2 = true := by decide +kernel
theorem c2_142 : C142.all chk2 = true := by decide +kernel
theorem c2_143 : C143.all chk2 = true := by decide +kernel
theorem c2_144 : C144.all chk2 = true := by decide +kernel
theorem c2_145 : C145.all chk2 = true := by decide +kernel
theorem c2_146 : C146.all chk2 = true := by decide +kernel
theorem c2_147 : C147.all chk2 = true := by decide +kernel
theorem c2_148 : C148.all chk2 = true := by decide +kernel
theorem c2_149 : C149.all chk2 = true := by decide +kernel
theorem c2_150 : C150.all chk2 = true := by decide +kernel
theorem c2_151 : C151.all chk2 = true := by decide +kernel
theorem c2_152 : C152.all chk2 = true := by decide +kernel
theorem c2_153 : C153.all chk2 = true := by decide +kernel
theorem c2_154 : C154.all chk2 = true := by decide +kernel
theorem c2_155 : C155.all chk2 = true := by decide +kernel
theorem c2_156 : C156.all chk2 = true := by decide +kernel
theorem c2_157 : C157.all chk2 = true := by decide +kernel
theorem c2_158 : C158.all chk2 = true := by decide +kernel
theorem c2_159 : C159.all chk2 = true := by decide +kernel
theorem c2_160 : C160.all chk2 = true := by decide +kernel
theorem c2_161 : C161.all chk2 = true := by decide +kernel
theorem c2_162 : C162.all chk2 = true := by decide +kernel
theorem c2_163 : C163.all chk2 = true := by decide +kernel
theorem c2_164 : C164.all chk2 = true := by decide +kernel
theorem c2_165 : C165.all chk2 = true := by decide +kernel
theorem c2_166 : C166.all chk2 = true := by decide +kernel
theorem c2_167 : C167.all chk2 = true := by decide +kernel
theorem c2_168 : C168.all chk2 = true := by decide +kernel
theorem c2_169 : C169.all chk2 = true := by decide +kernel
theorem c2_170 : C170.all chk2 = true := by decide +kernel
theorem c2_171 : C171.all chk2 = true := by decide +kernel
theorem c2_172 : C172.all chk2 = true := by decide +kernel
theorem c2_173 : C173.all chk2 = true := by decide +kernel
theorem c2_174 : C174.all chk2 = true := by decide +kernel
theorem c2_175 : C175.all chk2 = true := by decide +kernel
theorem c2_176 : C176.all chk2 = true := by decide +kernel
theorem c2_177 : C177.all chk2 = true := by decide +kernel
theorem c2_178 : C178.all chk2 = true := by decide +kernel
theorem c2_179 : C179.all chk2 = true := by decide +kernel
theorem c2_180 : C180.all chk2 = true := by decide +kernel
theorem c2_181 : C181.all chk2 = true := by decide +kernel
theorem c2_182 : C182.all chk2 = true := by decide +kernel
theorem c2_183 : C183.all chk2 = true := by decide +kernel
theorem c2_184 : C184.all chk2 = true := by decide +kernel
theorem c2_185 : C185.all chk2 = true := by decide +kernel
theorem c2_186 : C186.all chk2 = true := by decide +kernel
theorem c2_187 : C187.all chk2 = true := by decide +kernel
theorem c2_188 : C188.all chk2 = true := by decide +kernel
theorem c2_189 : C189.all chk2 = true := by decide +kernel
theorem c2_190 : C190.all chk2 = true := by decide +kernel
theorem c2_191 : C191.all chk2 = true := by decide +kernel
theorem c2_192 : C192.all chk2 = true := by decide +kernel
theorem c2_193 : C193.all chk2 = true := by decide +kernel
theorem c2_194 : C194.all chk2 = true := by decide +kernel
theorem c2_195 : C195.all chk2 = true := by decide +kernel
theorem c2_196 : C196.all chk2 = true := by decide +kernel
theorem c2_197 : C197.all chk2 = true := by decide +kernel
theorem c2_198 : C198.all chk2 = true := by decide +kernel
theorem c2_199 : C199.all chk2 = true := by decide +kernel
theorem c2_200 : C200.all chk2 = true := by decide +kernel
theorem c2_201 : C201.all chk2 = true := by decide +kernel
theorem c2_202 : C202.all chk2 = true := by decide +kernel
theorem c2_203 : C203.all chk2 = true := by decide +kernel
theorem c2_204 : C204.all chk2 = true := by decide +kernel
theorem c2_205 : C205.all chk2 = true := by decide +kernel
theorem c2_206 : C206.all chk2 = true := by decide +kernel
theorem c2_207 : C207.all chk2 = true := by decide +kernel
theorem c2_208 : C208.all chk2 = true := by decide +kernel
theorem c2_209 : C209.all chk2 = true := by decide +kernel
theorem c2_210 : C210.all chk2 = true := by decide +kernel
theorem c2_211 : C211.all chk2 = true := by decide +kernel
theorem c2_212 : C212.all chk2 = true := by decide +kernel
theorem c2_213 : C213.all chk2 = true := by decide +kernel
theorem c2_214 : C214.all chk2 = true := by decide +kernel
theorem c2_215 : C215.all chk2 = true := by decide +kernel
theorem c2_216 : C216.all chk2 = true := by decide +kernel
theorem c2_217 : C217.all chk2 = true := by decide +kernel
theorem c2_218 : C218.all chk2 = true := by decide +kernel
theorem c2_219 : C219.all chk2 = true := by decide +kernel
theorem c2_220 : C220.all chk2 = true := by decide +kernel
theorem cp_0 : ckP 0 := ⟨ck0, c2_0⟩
theorem cp_1 : ckP 1 := ⟨ck1, c2_1⟩
theorem cp_2 : ckP 2 := ⟨ck2, c2_2⟩
theorem cp_3 : ckP 3 := ⟨ck3, c2_3⟩
theorem cp_4 : ckP 4 := ⟨ck4, c2_4⟩
theorem cp_5 : ckP 5 := ⟨ck5, c2_5⟩
theorem cp_6 : ckP 6 := ⟨ck6, c2_6⟩
theorem cp_7 : ckP 7 := ⟨ck7, c2_7⟩
theorem cp_8 : ckP 8 := ⟨ck8, c2_8⟩
theorem cp_9 : ckP 9 := ⟨ck9, c2_9⟩
theorem cp_10 : ckP 10 := ⟨ck10, c2_10⟩
theorem cp_11 : ckP 11 := ⟨ck11, c2_11⟩
theorem cp_12 : ckP 12 := ⟨ck12, c2_12⟩
theorem cp_13 : ckP 13 := ⟨ck13, c2_13⟩
theorem cp_14 : ckP 14 := ⟨ck14, c2_14⟩
theorem cp_15 : ckP 15 := ⟨ck15, c2_15⟩
theorem cp_16 : ckP 16 := ⟨ck16, c2_16⟩
theorem cp_17 : ckP 17 := ⟨ck17, c2_17⟩
theorem cp_18 : ckP 18 := ⟨ck18, c2_18⟩
theorem cp_19 : ckP 19 := ⟨ck19, c2_19⟩
theorem cp_20 : ckP 20 := ⟨ck20, c2_20⟩
theorem cp_21 : ckP 21 := ⟨ck21, c2_21⟩
theorem cp_22 : ckP 22 := ⟨ck22, c2_22⟩
theorem cp_23 : ckP 23 := ⟨ck23, c2_23⟩
theorem cp_24 : ckP 24 := ⟨ck24, c2_24⟩
theorem cp_25 : ckP 25 := ⟨ck25, c2_25⟩
theorem cp_26 : ckP 26 := ⟨ck26, c2_26⟩
theorem cp_27 : ckP 27 := ⟨ck27, c2_27⟩
theorem cp_28 : ckP 28 := ⟨ck28, c2_28⟩
theorem cp_29 : ckP 29 := ⟨ck29, c2_29⟩
theorem cp_30 : ckP 30 := ⟨ck30, c2_30⟩
theorem cp_31 : ckP 31 := ⟨ck31, c2_31⟩
theorem cp_32 : ckP 32 := ⟨ck32, c2_32⟩
theorem cp_33 : ckP 33 := ⟨ck33, c2_33⟩
theorem cp_34 : ckP 34 := ⟨ck34, c2_34⟩
theorem cp_35 : ckP 35 := ⟨ck35, c2_35⟩
theorem cp_36 : ckP 36 := ⟨ck36, c2_36⟩
theorem cp_37 : ckP 37 := ⟨ck37, c2_37⟩
theorem cp_38 : ckP 38 := ⟨ck38, c2_38⟩
theorem cp_39 : ckP 39 := ⟨ck39, c2_39⟩
theorem cp_40 : ckP 40 := ⟨ck40, c2_40⟩
theorem cp_41 : ckP 41 := ⟨ck41, c2_41⟩
theorem cp_42 : ckP 42 := ⟨ck42, c2_42⟩
theorem cp_43 : ckP 43 := ⟨ck43, c2_43⟩
theorem cp_44 : ckP 44 := ⟨ck44, c2_44⟩
theorem cp_45 : ckP 45 := ⟨ck45, c2_45⟩
theorem cp_46 : ckP 46 := ⟨ck46, c2_46⟩
theorem cp_47 : ckP 47 := ⟨ck47, c2_47⟩
theorem cp_48 : ckP 48 := ⟨ck48, c2_48⟩
theorem cp_49 : ckP 49 := ⟨ck49, c2_49⟩
theorem cp_50 : ckP 50 := ⟨ck50, c2_50⟩
theorem cp_51 : ckP 51 := ⟨ck51, c2_51⟩
theorem cp_52 : ckP 52 := ⟨ck52, c2_52⟩
theorem cp_53 : ckP 53 := ⟨ck53, c2_53⟩
theorem cp_54 : ckP 54 := ⟨ck54, c2_54⟩
theorem cp_55 : ckP 55 := ⟨ck55, c2_55⟩
theorem cp_56 : ckP 56 := ⟨ck56, c2_56⟩
theorem cp_57 : ckP 57 := ⟨ck57, c2_57⟩
theorem cp_58 : ckP 58 := ⟨ck58, c2_58⟩
theorem cp_59 : ckP 59 := ⟨ck59, c2_59⟩
theorem cp_60 : ckP 60 := ⟨ck60, c2_60⟩
theorem cp_61 : ckP 61 := ⟨ck61, c2_61⟩
theorem cp_62 : ckP 62 := ⟨ck62, c2_62⟩
theorem cp_63 : ckP 63 := ⟨ck63, c2_63⟩
theorem cp_64 : ckP 64 := ⟨ck64, c2_64⟩
theorem cp_65 : ckP 65 := ⟨ck65, c2_65⟩
theorem cp_66 : ckP 66 := ⟨ck66, c2_66⟩
theorem cp_67 : ckP 67 := ⟨ck67, c2_67⟩
theorem cp_68 : ckP 68 := ⟨ck68, c2_68⟩
theorem cp_69 : ckP 69 := ⟨ck69, c2_69⟩
theorem cp_70 : ckP 70 := ⟨ck70, c2_70⟩
theorem cp_71 : ckP 71 := ⟨ck71, c2_71⟩
theorem cp_72 : ckP 72 := ⟨ck72, c2_72⟩
theorem cp_73 : ckP 73 := ⟨ck73, c2_73⟩
theorem cp_74 : ckP 74 := ⟨ck74, c2_74⟩
theorem cp_75 : ckP 75 := ⟨ck75, c2_75⟩
theorem cp_76 : ckP 76 := ⟨ck76, c2_76⟩
theorem cp_77 : ckP 77 := ⟨ck77, c2_77⟩
theorem cp_78 : ckP 78 := ⟨ck78, c2_78⟩
theorem cp_79 : ckP 79 := ⟨ck79, c2_79⟩
theorem cp_80 : ckP 80 := ⟨ck80, c2_80⟩
theorem cp_81 : ckP 81 := ⟨ck81, c2_81⟩
theorem cp_82 : ckP 82 := ⟨ck82, c2_82⟩
theorem cp_83 : ckP 83 := ⟨ck83, c2_83⟩
theorem cp_84 : ckP 84 := ⟨ck84, c2_84⟩
theorem cp_85 : ckP 85 := ⟨ck85, c2_85⟩
theorem cp_86 : ckP 86 := ⟨ck86, c2_86⟩
theorem cp_87 : ckP 87 := ⟨ck87, c2_87⟩
theorem cp_88 : ckP 88 := ⟨ck88, c2_88⟩
theorem cp_89 : ckP 89 := ⟨ck89, c2_89⟩
theorem cp_90 : ckP 90 := ⟨ck90, c2_90⟩
theorem cp_91 : ckP 91 := ⟨ck91, c2_91⟩
theorem cp_92 : ckP 92 := ⟨ck92, c2_92⟩
theorem cp_93 : ckP 93 := ⟨ck93, c2_93⟩
theorem cp_94 : ckP 94 := ⟨ck94, c2_94⟩
theorem cp_95 : ckP 95 := ⟨ck95, c2_95⟩
theorem cp_96 : ckP 96 := ⟨ck96, c2_96⟩
theorem cp_97 : ckP 97 := ⟨ck97, c2_97⟩
theorem cp_98 : ckP 98 := ⟨ck98, c2_98⟩
theorem cp_99 : ckP 99 := ⟨ck99, c2_99⟩
theorem cp_100 : ckP 100 := ⟨ck100, c2_100⟩
theorem cp_101 : ckP 101 := ⟨ck101, c2_101⟩
theorem cp_102 : ckP 102 := ⟨ck102, c2_102⟩
theorem cp_103 : ckP 103 := ⟨ck103, c2_103⟩
theorem cp_104 : ckP 104 := ⟨ck104, c2_104⟩
theorem cp_105 : ckP 105 := ⟨ck105, c2_105⟩
theorem cp_106 : ckP 106 := ⟨ck106, c2_106⟩
theorem cp_107 : ckP 107 := ⟨ck107, c2_107⟩
theorem cp_108 : ckP 108 := ⟨ck108, c2_108⟩
theorem cp_109 : ckP 109 := ⟨ck109, c2_109⟩
theorem cp_110 : ckP 110 := ⟨ck110, c2_110⟩
theorem cp_111 : ckP 111 := ⟨ck111, c2_111⟩
theorem cp_112 : ckP 112 := ⟨ck112, c2_112⟩
theorem cp_113 : ckP 113 := ⟨ck113, c2_113⟩
theorem cp_114 : ckP 114 := ⟨ck114, c2_114⟩
theorem cp_115 : ckP 115 := ⟨ck115, c2_115⟩
theorem cp_116 : ckP 116 := ⟨ck116, c2_116⟩
theorem cp_117 : ckP 117 := ⟨ck117, c2_117⟩
theorem cp_118 : ckP 118 := ⟨ck118, c2_118⟩
theorem cp_119 : ckP 119 := ⟨ck119, c2_119⟩
theorem cp_120 : ckP 120 := ⟨ck120, c2_120⟩
theorem cp_121 : ckP 121 := ⟨ck121, c2_121⟩
theorem cp_122 : ckP 122 := ⟨ck122, c2_122⟩
theorem cp_123 : ckP 123 := ⟨ck123, c2_123⟩
theorem cp_124 : ckP 124 := ⟨ck124, c2_124⟩
theorem cp_125 : ckP 125 := ⟨ck125, c2_125⟩
theorem cp_126 : ckP 126 := ⟨ck126, c2_126⟩
theorem cp_127 : ckP 127 := ⟨ck127, c2_127⟩
theorem cp_128 : ckP 128 := ⟨ck128, c2_128⟩
theorem cp_129 : ckP 129 := ⟨ck129, c2_129⟩
theorem cp_130 : ckP 130 := ⟨ck130, c2_130⟩
theorem cp_131 : ckP 131 := ⟨ck131, c2_131⟩
theorem cp_132 : ckP 132 := ⟨ck132, c2_132⟩
theorem cp_133 : ckP 133 := ⟨ck133, c2_133⟩
theorem cp_134 : ckP 134 := ⟨ck134, c2_134⟩
theorem cp_135 : ckP 135 := ⟨ck135, c2_135⟩
theorem cp_136 : ckP 136 := ⟨ck136, c2_136⟩
theorem cp_137 : ckP 137 := ⟨ck137, c2_137⟩
theorem cp_138 : ckP 138 := ⟨ck138, c2_138⟩
theorem cp_139 : ckP 139 := ⟨ck139, c2_139⟩
theorem cp_140 : ckP 140 := ⟨ck140, c2_140⟩
theorem cp_141 : ckP 141 := ⟨ck141, c2_141⟩
theorem cp_142 : ckP 142 := ⟨ck142, c2_142⟩
theorem cp_143 : ckP 143 := ⟨ck143, c2_143⟩
theorem cp_144 : ckP 144 := ⟨ck144, c2_144⟩
theorem cp_145 : ckP 145 := ⟨ck145, c2_145⟩
theorem cp_146 : ckP 146 := ⟨ck146, c2_146⟩
theorem cp_147 : ckP 147 := ⟨ck147, c2_147⟩
theorem cp_148 : ckP 148 := ⟨ck148, c2_148⟩
theorem cp_149 : ckP 149 := ⟨ck149, c2_149⟩
theorem cp_150 : ckP 150 := ⟨ck150, c2_150⟩
theorem cp_151 : ckP 151 := ⟨ck151, c2_151⟩
theorem cp_152 : ckP 152 := ⟨ck152, c2_152⟩
theorem cp_153 : ckP 153 := ⟨ck153, c2_153⟩
theorem cp_154 : ckP 154 := ⟨ck154, c2_154⟩
theorem cp_155 : ckP 155 := ⟨ck155, c2_155⟩
theorem cp_156 : ckP 156 := ⟨ck156, c2_156⟩
theorem cp_157 : ckP 157 := ⟨ck157, c2_157⟩
theorem cp_158 : ckP 158 := ⟨ck158, c2_158⟩
theorem cp_159 : ckP 159 := ⟨ck159, c2_159⟩
theorem cp_160 : ckP 160 := ⟨ck160, c2_160⟩
theorem cp_161 : ckP 161 := ⟨ck161, c2_161⟩
theorem cp_162 : ckP 162 := ⟨ck162, c2_162⟩
theorem cp_163 : ckP 163 := ⟨ck163, c2_163⟩
theorem cp_164 : ckP 164 := ⟨ck164, c2_164⟩
theorem cp_165 : ckP 165 := ⟨ck165, c2_165⟩
theorem cp_166 : ckP 166 := ⟨ck166, c2_166⟩
theorem cp_167 : ckP 167 := ⟨ck167, c2_167⟩
theorem cp_168 : ckP 168 := ⟨ck168, c2_168⟩
theorem cp_169 : ckP 169 := ⟨ck169, c2_169⟩
theorem cp_170 : ckP 170 := ⟨ck170, c2_170⟩
theorem cp_171 : ckP 171 := ⟨ck171, c2_171⟩
theorem cp_172 : ckP 172 := ⟨ck172, c2_172⟩
theorem cp_173 : ckP 173 := ⟨ck173, c2_173⟩
theorem cp_174 : ckP 174 := ⟨ck174, c2_174⟩
theorem cp_175 : ckP 175 := ⟨ck175, c2_175⟩
theorem cp_176 : ckP 176 := ⟨ck176, c2_176⟩
theorem cp_177 : ckP 177 := ⟨ck177, c2_177⟩
theorem cp_178 : ckP 178 := ⟨ck178, c2_178⟩
theorem cp_179 : ckP 179 := ⟨ck179, c2_179⟩
theorem cp_180 : ckP 180 := ⟨ck180, c2_180⟩
theorem cp_181 : ckP 181 := ⟨ck181, c2_181⟩
theorem cp_182 : ckP 182 := ⟨ck182, c2_182⟩
theorem cp_183 : ckP 183 := ⟨ck183, c2_183⟩
theorem cp_184 : ckP 184 := ⟨ck184, c2_184⟩
theorem cp_185 : ckP 185 := ⟨ck185, c2_185⟩
theorem cp_186 : ckP 186 := ⟨ck186, c2_186⟩
theorem cp_187 : ckP 187 := ⟨ck187, c2_187⟩
theorem cp_188 : ckP 188 := ⟨ck188, c2_188⟩
theorem cp_189 : ckP 189 := ⟨ck189, c2_189⟩
theorem cp_190 : ckP 190 := ⟨ck190, c2_190⟩
theorem cp_191 : ckP 191 := ⟨ck191, c2_191⟩
theorem cp_192 : ckP 192 := ⟨ck192, c2_192⟩
theorem cp_193 : ckP 193 := ⟨ck193, c2_193⟩
theorem cp_194 : ckP 194 := ⟨ck194, c2_194⟩
theorem cp_195 : ckP 195 := ⟨ck195, c2_195⟩
theorem cp_196 : ckP 196 := ⟨ck196, c2_196⟩
theorem cp_197 : ckP 197 := ⟨ck197, c2_197⟩
theorem cp_198 : ckP 198 := ⟨ck198, c2_198⟩
theorem cp_199 : ckP 199 := ⟨ck199, c2_199⟩
theorem cp_200 : ckP 200 := ⟨ck200, c2_200⟩
theorem cp_201 : ckP 201 := ⟨ck201, c2_201⟩
theorem cp_202 : ckP 202 := ⟨ck202, c2_202⟩
theorem cp_203 : ckP 203 := ⟨ck203, c2_203⟩
theorem cp_204 : ckP 204 := ⟨ck204, c2_204⟩
theorem cp_205 : ckP 205 := ⟨ck205, c2_205⟩
theorem cp_206 : ckP 206 := ⟨ck206, c2_206⟩
theorem cp_207 : ckP 207 := ⟨ck207, c2_207⟩
theorem cp_208 : ckP 208 := ⟨ck208, c2_208⟩
theorem cp_209 : ckP 209 := ⟨ck209, c2_209⟩
theorem cp_210 : ckP 210 := ⟨ck210, c2_210⟩
theorem cp_211 : ckP 211 := ⟨ck211, c2_211⟩
theorem cp_212 : ckP 212 := ⟨ck212, c2_212⟩
theorem cp_213 : ckP 213 := ⟨ck213, c2_213⟩
theorem cp_214 : ckP 214 := ⟨ck214, c2_214⟩
theorem cp_215 : ckP 215 := ⟨ck215, c2_215⟩
theorem cp_216 : ckP 216 := ⟨ck216, c2_216⟩
theorem cp_217 : ckP 217 := ⟨ck217, c2_217⟩
theorem cp_218 : ckP 218 := ⟨ck218, c2_218⟩
theorem cp_219 : ckP 219 := ⟨ck219, c2_219⟩
theorem cp_220 : ckP 220 := ⟨ck220, c2_220⟩
theorem cpc0 : ∀ y ∈ ([0, 1, 2, 3, 4, 5, 6, 7, 8, 9, 10, 11, 12, 13, 14, 15, 16, 17, 18, 19] : List Nat), ckP y := List.forall_mem_cons.mpr ⟨cp_0, List.forall_mem_cons.mpr ⟨cp_1, List.forall_mem_cons.mpr ⟨cp_2, List.forall_mem_cons.mpr ⟨cp_3, List.forall_mem_cons.mpr ⟨cp_4, List.forall_mem_cons.mpr ⟨cp_5, List.forall_mem_cons.mpr ⟨cp_6, List.forall_mem_cons.mpr ⟨cp_7, List.forall_mem_cons.mpr ⟨cp_8, List.forall_mem_cons.mpr ⟨cp_9, List.forall_mem_cons.mpr ⟨cp_10, List.forall_mem_cons.mpr ⟨cp_11, List.forall_mem_cons.mpr ⟨cp_12, List.forall_mem_cons.mpr ⟨cp_13, List.forall_mem_cons.mpr ⟨cp_14, List.forall_mem_cons.mpr ⟨cp_15, List.forall_mem_cons.mpr ⟨cp_16, List.forall_mem_cons.mpr ⟨cp_17, List.forall_mem_cons.mpr ⟨cp_18, List.forall_mem_cons.mpr ⟨cp_19, fun _ h => absurd h List.not_mem_nil⟩⟩⟩⟩⟩⟩⟩⟩⟩⟩⟩⟩⟩⟩⟩⟩⟩⟩⟩⟩
theorem cpc1 : ∀ y ∈ ([20, 21, 22, 23, 24, 25, 26, 27, 28, 29, 30, 31, 32, 33, 34, 35, 36, 37, 38, 39] : List Nat), ckP y := List.forall_mem_cons.mpr ⟨cp_20, List.forall_mem_cons.mpr ⟨cp_21, List.forall_mem_cons.mpr ⟨cp_22, List.forall_mem_cons.mpr ⟨cp_23, List.forall_mem_cons.mpr ⟨cp_24, List.forall_mem_cons.mpr ⟨cp_25, List.forall_mem_cons.mpr ⟨cp_26, List.forall_mem_cons.mpr ⟨cp_27, List.forall_mem_cons.mpr ⟨cp_28, List.forall_mem_cons.mpr ⟨cp_29, List.forall_mem_cons.mpr ⟨cp_30, List.forall_mem_cons.mpr ⟨cp_31, List.forall_mem_cons.mpr ⟨cp_32, List.forall_mem_cons.mpr ⟨cp_33, List.forall_mem_cons.mpr ⟨cp_34, List.forall_mem_cons.mpr ⟨cp_35, List.forall_mem_cons.mpr ⟨cp_36, List.forall_mem_cons.mpr ⟨cp_37, List.forall_mem_cons.mpr ⟨cp_38, List.forall_mem_cons.mpr ⟨cp_39, fun _ h => absurd h List.not_mem_nil⟩⟩⟩⟩⟩⟩⟩⟩⟩⟩⟩⟩⟩⟩⟩⟩⟩⟩⟩⟩
theorem cpc2 : ∀ y ∈ ([40, 41, 42, 43, 44, 45, 46, 47, 48, 49, 50, 51, 52, 53, 54, 55, 56, 57, 58, 59] : List Nat), ckP y := List.forall_mem_cons.mpr ⟨cp_40, List.forall_mem_cons.mpr ⟨cp_41, List.forall_mem_cons.mpr ⟨cp_42, List.forall_mem_cons.mpr ⟨cp_43, List.forall_mem_cons.mpr ⟨cp_44, List.forall_mem_cons.mpr ⟨cp_45, List.forall_mem_cons.mpr ⟨cp_46, List.forall_mem_cons.mpr ⟨cp_47, List.forall_mem_cons.mpr ⟨cp_48, List.forall_mem_cons.mpr ⟨cp_49, List.forall_mem_cons.mpr ⟨cp_50, List.forall_mem_cons.mpr ⟨cp_51, List.forall_mem_cons.mpr ⟨cp_52, List.forall_mem_cons.mpr ⟨cp_53, List.forall_mem_cons.mpr ⟨cp_54, List.forall_mem_cons.mpr ⟨cp_55, List.forall_mem_cons.mpr ⟨cp_56, List.forall_mem_cons.mpr ⟨cp_57, List.forall_mem_cons.mpr ⟨cp_58, List.forall_mem_cons.mpr ⟨cp_59, fun _ h => absurd h List.not_mem_nil⟩⟩⟩⟩⟩⟩⟩⟩⟩⟩⟩⟩⟩⟩⟩⟩⟩⟩⟩⟩
theorem cpc3 : ∀ y ∈ ([60, 61, 62, 63, 64, 65, 66, 67, 68, 69, 70, 71, 72, 73, 74, 75, 76, 77, 78, 79] : List Nat), ckP y := List.forall_mem_cons.mpr ⟨cp_60, List.forall_mem_cons.mpr ⟨cp_61, List.forall_mem_cons.mpr ⟨cp_62, List.forall_mem_cons.mpr ⟨cp_63, List.forall_mem_cons.mpr ⟨cp_64, List.forall_mem_cons.mpr ⟨cp_65, List.forall_mem_cons.mpr ⟨cp_66, List.forall_mem_cons.mpr ⟨cp_67, List.forall_mem_cons.mpr ⟨cp_68, List.forall_mem_cons.mpr ⟨cp_69, List.forall_mem_cons.mpr ⟨cp_70, List.forall_mem_cons.mpr ⟨cp_71, List.forall_mem_cons.mpr ⟨cp_72, List.forall_mem_cons.mpr ⟨cp_73, List.forall_mem_cons.mpr ⟨cp_74, List.forall_mem_cons.mpr ⟨cp_75, List.forall_mem_cons.mpr ⟨cp_76, List.forall_mem_cons.mpr ⟨cp_77, List.forall_mem_cons.mpr ⟨cp_78, List.forall_mem_cons.mpr ⟨cp_79, fun _ h => absurd h List.not_mem_nil⟩⟩⟩⟩⟩⟩⟩⟩⟩⟩⟩⟩⟩⟩⟩⟩⟩⟩⟩⟩
theorem cpc4 : ∀ y ∈ ([80, 81, 82, 83, 84, 85, 86, 87, 88, 89, 90, 91, 92, 93, 94, 95, 96, 97, 98, 99] : List Nat), ckP y := List.forall_mem_cons.mpr ⟨cp_80, List.forall_mem_cons.mpr ⟨cp_81, List.forall_mem_cons.mpr ⟨cp_82, List.forall_mem_cons.mpr ⟨cp_83, List.forall_mem_cons.mpr ⟨cp_84, List.forall_mem_cons.mpr ⟨cp_85, List.forall_mem_cons.mpr ⟨cp_86, List.forall_mem_cons.mpr ⟨cp_87, List.forall_mem_cons.mpr ⟨cp_88, List.forall_mem_cons.mpr ⟨cp_89, List.forall_mem_cons.mpr ⟨cp_90, List.forall_mem_cons.mpr ⟨cp_91, List.forall_mem_cons.mpr ⟨cp_92, List.forall_mem_cons.mpr ⟨cp_93, List.forall_mem_cons.mpr ⟨cp_94, List.forall_mem_cons.mpr ⟨cp_95, List.forall_mem_cons.mpr ⟨cp_96, List.forall_mem_cons.mpr ⟨cp_97, List.forall_mem_cons.mpr ⟨cp_98, List.forall_mem_cons.mpr ⟨cp_99, fun _ h => absurd h List.not_mem_nil⟩⟩⟩⟩⟩⟩⟩⟩⟩⟩⟩⟩⟩⟩⟩⟩⟩⟩⟩⟩
theorem cpc5 : ∀ y ∈ ([100, 101, 102, 103, 104, 105, 106, 107, 108, 109, 110, 111, 112, 113, 114, 115, 116, 117, 118, 119] : List Nat), ckP y := List.forall_mem_cons.mpr ⟨cp_100, List.forall_mem_cons.mpr ⟨cp_101, List.forall_mem_cons.mpr ⟨cp_102, List.forall_mem_cons.mpr ⟨cp_103, List.forall_mem_cons.mpr ⟨cp_104, List.forall_mem_cons.mpr ⟨cp_105, List.forall_mem_cons.mpr ⟨cp_106, List.forall_mem_cons.mpr ⟨cp_107, List.forall_mem_cons.mpr ⟨cp_108, List.forall_mem_cons.mpr ⟨cp_109, List.forall_mem_cons.mpr ⟨cp_110, List.forall_mem_cons.mpr ⟨cp_111, List.forall_mem_cons.mpr ⟨cp_112, List.forall_mem_cons.mpr ⟨cp_113, List.forall_mem_cons.mpr ⟨cp_114, List.forall_mem_cons.mpr ⟨cp_115, List.forall_mem_cons.mpr ⟨cp_116, List.forall_mem_cons.mpr ⟨cp_117, List.forall_mem_cons.mpr ⟨cp_118, List.forall_mem_cons.mpr ⟨cp_119, fun _ h => absurd h List.not_mem_nil⟩⟩⟩⟩⟩⟩⟩⟩⟩⟩⟩⟩⟩⟩⟩⟩⟩⟩⟩⟩
theorem cpc6 : ∀ y ∈ ([120, 121, 122, 123, 124, 125, 126, 127, 128, 129, 130, 131, 132, 133, 134, 135, 136, 137, 138, 139] : List Nat), ckP y := List.forall_mem_cons.mpr ⟨cp_120, List.forall_mem_cons.mpr ⟨cp_121, List.forall_mem_cons.mpr ⟨cp_122, List.forall_mem_cons.mpr ⟨cp_123, List.forall_mem_cons.mpr ⟨cp_124, List.forall_mem_cons.mpr ⟨cp_125, List.forall_mem_cons.mpr ⟨cp_126, List.forall_mem_cons.mpr ⟨cp_127, List.forall_mem_cons.mpr ⟨cp_128, List.forall_mem_cons.mpr ⟨cp_129, List.forall_mem_cons.mpr ⟨cp_130, List.forall_mem_cons.mpr ⟨cp_131, List.forall_mem_cons.mpr ⟨cp_132, List.forall_mem_cons.mpr ⟨cp_133, List.forall_mem_cons.mpr ⟨cp_134, List.forall_mem_cons.mpr ⟨cp_135, List.forall_mem_cons.mpr ⟨cp_136, List.forall_mem_cons.mpr ⟨cp_137, List.forall_mem_cons.mpr ⟨cp_138, List.forall_mem_cons.mpr ⟨cp_139, fun _ h => absurd h List.not_mem_nil⟩⟩⟩⟩⟩⟩⟩⟩⟩⟩⟩⟩⟩⟩⟩⟩⟩⟩⟩⟩
theorem cpc7 : ∀ y ∈ ([140, 141, 142, 143, 144, 145, 146, 147, 148, 149, 150, 151, 152, 153, 154, 155, 156, 157, 158, 159] : List Nat), ckP y := List.forall_mem_cons.mpr ⟨cp_140, List.forall_mem_cons.mpr ⟨cp_141, List.forall_mem_cons.mpr ⟨cp_142, List.forall_mem_cons.mpr ⟨cp_143, List.forall_mem_cons.mpr ⟨cp_144, List.forall_mem_cons.mpr ⟨cp_145, List.forall_mem_cons.mpr ⟨cp_146, List.forall_mem_cons.mpr ⟨cp_147, List.forall_mem_cons.mpr ⟨cp_148, List.forall_mem_cons.mpr ⟨cp_149, List.forall_mem_cons.mpr ⟨cp_150, List.forall_mem_cons.mpr ⟨cp_151, List.forall_mem_cons.mpr ⟨cp_152, List.forall_mem_cons.mpr ⟨cp_153, List.forall_mem_cons.mpr ⟨cp_154, List.forall_mem_cons.mpr ⟨cp_155, List.forall_mem_cons.mpr ⟨cp_156, List.forall_mem_cons.mpr ⟨cp_157, List.forall_mem_cons.mpr ⟨cp_158, List.forall_mem_cons.mpr ⟨cp_159, fun _ h => absurd h List.not_mem_nil⟩⟩⟩⟩⟩⟩⟩⟩⟩⟩⟩⟩⟩⟩⟩⟩⟩⟩⟩⟩
theorem cpc8 : ∀ y ∈ ([160, 161, 162, 163, 164, 165, 166, 167, 168, 169, 170, 171, 172, 173, 174, 175, 176, 177, 178, 179] : List Nat), ckP y := List.forall_mem_cons.mpr ⟨cp_160, List.forall_mem_cons.mpr ⟨cp_161, List.forall_mem_cons.mpr ⟨cp_162, List.forall_mem_cons.mpr ⟨cp_163, List.forall_mem_cons.mpr ⟨cp_164, List.forall_mem_cons.mpr ⟨cp_165, List.forall_mem_cons.mpr ⟨cp_166, List.forall_mem_cons.mpr ⟨cp_167, List.forall_mem_cons.mpr ⟨cp_168, List.forall_mem_cons.mpr ⟨cp_169, List.forall_mem_cons.mpr ⟨cp_170, List.forall_mem_cons.mpr ⟨cp_171, List.forall_mem_cons.mpr ⟨cp_172, List.forall_mem_cons.mpr ⟨cp_173, List.forall_mem_cons.mpr ⟨cp_174, List.forall_mem_cons.mpr ⟨cp_175, List.forall_mem_cons.mpr ⟨cp_176, List.forall_mem_cons.mpr ⟨cp_177, List.forall_mem_cons.mpr ⟨cp_178, List.forall_mem_cons.mpr ⟨cp_179, fun _ h => absurd h List.not_mem_nil⟩⟩⟩⟩⟩⟩⟩⟩⟩⟩⟩⟩⟩⟩⟩⟩⟩⟩⟩⟩
theorem cpc9 : ∀ y ∈ ([180, 181, 182, 183, 184, 185, 186, 187, 188, 189, 190, 191, 192, 193, 194, 195, 196, 197, 198, 199] : List Nat), ckP y := List.forall_mem_cons.mpr ⟨cp_180, List.forall_mem_cons.mpr ⟨cp_181, List.forall_mem_cons.mpr ⟨cp_182, List.forall_mem_cons.mpr ⟨cp_183, List.forall_mem_cons.mpr ⟨cp_184, List.forall_mem_cons.mpr ⟨cp_185, List.forall_mem_cons.mpr ⟨cp_186, List.forall_mem_cons.mpr ⟨cp_187, List.forall_mem_cons.mpr ⟨cp_188, List.forall_mem_cons.mpr ⟨cp_189, List.forall_mem_cons.mpr ⟨cp_190, List.forall_mem_cons.mpr ⟨cp_191, List.forall_mem_cons.mpr ⟨cp_192, List.forall_mem_cons.mpr ⟨cp_193, List.forall_mem_cons.mpr ⟨cp_194, List.forall_mem_cons.mpr ⟨cp_195, List.forall_mem_cons.mpr ⟨cp_196, List.forall_mem_cons.mpr ⟨cp_197, List.forall_mem_cons.mpr ⟨cp_198, List.forall_mem_cons.mpr ⟨cp_199, fun _ h => absurd h List.not_mem_nil⟩⟩⟩⟩⟩⟩⟩⟩⟩⟩⟩⟩⟩⟩⟩⟩⟩⟩⟩⟩
theorem cpc10 : ∀ y ∈ ([200, 201, 202, 203, 204, 205, 206, 207, 208, 209, 210, 211, 212, 213, 214, 215, 216, 217, 218, 219] : List Nat), ckP y := List.forall_mem_cons.mpr ⟨cp_200, List.forall_mem_cons.mpr ⟨cp_201, List.forall_mem_cons.mpr ⟨cp_202, List.forall_mem_cons.mpr ⟨cp_203, List.forall_mem_cons.mpr ⟨cp_204, List.forall_mem_cons.mpr ⟨cp_205, List.forall_mem_cons.mpr ⟨cp_206, List.forall_mem_cons.mpr ⟨cp_207, List.forall_mem_cons.mpr ⟨cp_208, List.forall_mem_cons.mpr ⟨cp_209, List.forall_mem_cons.mpr ⟨cp_210, List.forall_mem_cons.mpr ⟨cp_211, List.forall_mem_cons.mpr ⟨cp_212, List.forall_mem_cons.mpr ⟨cp_213, List.forall_mem_cons.mpr ⟨cp_214, List.forall_mem_cons.mpr ⟨cp_215, List.forall_mem_cons.mpr ⟨cp_216, List.forall_mem_cons.mpr ⟨cp_217, List.forall_mem_cons.mpr ⟨cp_218, List.forall_mem_cons.mpr ⟨cp_219, fun _ h => absurd h List.not_mem_nil⟩⟩⟩⟩⟩⟩⟩⟩⟩⟩⟩⟩⟩⟩⟩⟩⟩⟩⟩⟩
theorem cpc11 : ∀ y ∈ ([220] : List Nat), ckP y := List.forall_mem_cons.mpr ⟨cp_220, fun _ h => absurd h List.not_mem_nil⟩
theorem ck_at {y : Nat} (h : y < 221) : ckP y := by
  have h := List.mem_range.mpr h
  rw [mO_rng] at h
  exact (List.mem_append.mp h).elim (cpc0 y) (fun h => (List.mem_append.mp h).elim (cpc1 y) (fun h => (List.mem_append.mp h).elim (cpc2 y) (fun h => (List.mem_append.mp h).elim (cpc3 y) (fun h => (List.mem_append.mp h).elim (cpc4 y) (fun h => (List.mem_append.mp h).elim (cpc5 y) (fun h => (List.mem_append.mp h).elim (cpc6 y) (fun h => (List.mem_append.mp h).elim (cpc7 y) (fun h => (List.mem_append.mp h).elim (cpc8 y) (fun h => (List.mem_append.mp h).elim (cpc9 y) (fun h => (List.mem_append.mp h).elim (cpc10 y) (fun h => cpc11 y h)))))))))))
