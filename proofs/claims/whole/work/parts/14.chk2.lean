set_option maxRecDepth 100000 in
theorem ck85 : chkT "SpentWeeks" prog_1_method_1_code 1 "<init>" C85 = true := by decide +kernel
set_option maxRecDepth 100000 in
theorem ck86 : chkT "SpentWeeks" prog_1_method_2_code 4 "row" C86 = true := by decide +kernel
set_option maxRecDepth 100000 in
theorem ck87 : chkT "SpentWeeks" prog_1_method_3_code 5 "set" C87 = true := by decide +kernel
set_option maxRecDepth 100000 in
theorem ck88 : chkT "SpentWeeks" prog_1_method_4_code 6 "copy" C88 = true := by decide +kernel
set_option maxRecDepth 100000 in
theorem ck89 : chkT "SpentWeeks" prog_1_method_5_code 2 "drop" C89 = true := by decide +kernel
set_option maxRecDepth 100000 in
theorem ck90 : chkT "SpentWeeks" prog_1_method_6_code 2 "feed" C90 = true := by decide +kernel
set_option maxRecDepth 100000 in
theorem ck91 : chkT "SpentWeeks" prog_1_method_7_code 2 "county" C91 = true := by decide +kernel
set_option maxRecDepth 100000 in
theorem ck92 : chkT "SpentWeeks" prog_1_method_8_code 1 "fault" C92 = true := by decide +kernel
set_option maxRecDepth 100000 in
theorem ck93 : chkT "SpentWeeks" prog_1_method_9_code 1 "undo" C93 = true := by decide +kernel
set_option maxRecDepth 100000 in
theorem ck94 : chkT "SpentWeeks" prog_1_method_10_code 4 "sentence" C94 = true := by decide +kernel
set_option maxRecDepth 100000 in
theorem ck95 : chkT "SpentWeeks" prog_1_method_11_code 3 "deed" C95 = true := by decide +kernel
set_option maxRecDepth 100000 in
theorem ck96 : chkT "SpentWeeks" prog_1_method_12_code 6 "sale" C96 = true := by decide +kernel
set_option maxRecDepth 100000 in
theorem ck97 : chkT "SpentWeeks" prog_1_method_13_code 4 "pays" C97 = true := by decide +kernel
set_option maxRecDepth 100000 in
theorem ck98 : chkT "SpentWeeks" prog_1_method_14_code 5 "dies" C98 = true := by decide +kernel
set_option maxRecDepth 100000 in
theorem ck99 : chkT "SpentWeeks" prog_1_method_15_code 3 "pardon" C99 = true := by decide +kernel
set_option maxRecDepth 100000 in
theorem ck100 : chkT "SpentWeeks" prog_1_method_16_code 2 "month" C100 = true := by decide +kernel
set_option maxRecDepth 100000 in
theorem ck101 : chkT "SpentWeeks" prog_1_method_17_code 4 "person" C101 = true := by decide +kernel
set_option maxRecDepth 100000 in
theorem ck102 : chkT "SpentWeeks" prog_1_method_18_code 5 "lot" C102 = true := by decide +kernel
set_option maxRecDepth 100000 in
theorem ck103 : chkT "SpentWeeks" prog_1_method_19_code 5 "ahead" C103 = true := by decide +kernel
set_option maxRecDepth 100000 in
theorem ck104 : chkT "SpentWeeks" prog_1_method_20_code 3 "lapsed" C104 = true := by decide +kernel
set_option maxRecDepth 100000 in
theorem ck105 : chkT "SpentWeeks" prog_1_method_21_code 5 "triedFirst" C105 = true := by decide +kernel
set_option maxRecDepth 100000 in
theorem ck106 : chkT "SpentWeeks" prog_1_method_22_code 6 "cover" C106 = true := by decide +kernel
set_option maxRecDepth 100000 in
theorem ck107 : chkT "SpentWeeks" prog_1_method_23_code 7 "bestOrder" C107 = true := by decide +kernel
set_option maxRecDepth 100000 in
theorem ck108 : chkT "SpentWeeks" prog_1_method_24_code 3 "market" C108 = true := by decide +kernel
set_option maxRecDepth 100000 in
theorem ck109 : chkT "SpentWeeks" prog_1_method_25_code 3 "atRest" C109 = true := by decide +kernel
set_option maxRecDepth 100000 in
theorem ck110 : chkT "SpentWeeks" prog_1_method_26_code 8 "ring" C110 = true := by decide +kernel
set_option maxRecDepth 100000 in
theorem ck111 : chkT "SpentWeeks" prog_1_method_27_code 5 "wrong" C111 = true := by decide +kernel
set_option maxRecDepth 100000 in
theorem ck112 : chkT "SpentWeeks" prog_1_method_28_code 7 "satFor" C112 = true := by decide +kernel
set_option maxRecDepth 100000 in
theorem ck113 : chkT "SpentWeeks" prog_1_method_29_code 2 "image" C113 = true := by decide +kernel
set_option maxRecDepth 100000 in
theorem ck114 : chkT "SpentWeeks" prog_1_method_30_code 2 "restore" C114 = true := by decide +kernel
set_option maxRecDepth 100000 in
theorem ck115 : chkT "SpentWeeks" prog_1_method_31_code 2 "kind" C115 = true := by decide +kernel
set_option maxRecDepth 100000 in
theorem ck116 : chkT "SpentWeeks" prog_1_method_32_code 3 "as" C116 = true := by decide +kernel
set_option maxRecDepth 100000 in
theorem ck117 : chkT "SpentWeeks" prog_1_method_33_code 3 "ask" C117 = true := by decide +kernel
set_option maxRecDepth 100000 in
theorem ck118 : chkT "SpentWeeks" prog_1_method_34_code 2 "trace" C118 = true := by decide +kernel
set_option maxRecDepth 100000 in
theorem ck119 : chkT "SpentWeeks" prog_1_method_35_code 2 "count" C119 = true := by decide +kernel
set_option maxRecDepth 100000 in
theorem ck120 : chkT "SpentWeeks" prog_1_method_36_code 1 "status" C120 = true := by decide +kernel
set_option maxRecDepth 100000 in
theorem ck121 : chkT "SpentWeeks" prog_1_method_37_code 3 "within" C121 = true := by decide +kernel
set_option maxRecDepth 100000 in
theorem ck122 : chkT "SpentWeeks" prog_1_method_38_code 1 "isRow" C122 = true := by decide +kernel
set_option maxRecDepth 100000 in
theorem ck123 : chkT "SpentWeeks" prog_1_method_39_code 2 "isPerson" C123 = true := by decide +kernel
set_option maxRecDepth 100000 in
theorem ck124 : chkT "SpentWeeks" prog_1_method_40_code 5 "isSale" C124 = true := by decide +kernel
set_option maxRecDepth 100000 in
theorem ck125 : chkT "SpentWeeks" prog_1_method_41_code 2 "areMonths" C125 = true := by decide +kernel
set_option maxRecDepth 100000 in
theorem ck126 : chkT "SpentWeeks" prog_1_method_42_code 8 "refusalOfTold" C126 = true := by decide +kernel
set_option maxRecDepth 100000 in
theorem ck127 : chkT "SpentWeeks" prog_1_method_43_code 2 "amount" C127 = true := by decide +kernel
set_option maxRecDepth 100000 in
theorem ck128 : chkT "SpentWeeks" prog_1_method_44_code 2 "found" C128 = true := by decide +kernel
set_option maxRecDepth 100000 in
theorem ck129 : chkT "SpentWeeks" prog_1_method_45_code 2 "fine" C129 = true := by decide +kernel
