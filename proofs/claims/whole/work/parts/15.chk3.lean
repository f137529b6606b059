set_option maxRecDepth 100000 in
theorem ck130 : chkT "SpentWeeksModel" prog_11_method_1_code 1 "<init>" C130 = true := by decide +kernel
set_option maxRecDepth 100000 in
theorem ck131 : chkT "SpentWeeksModel" prog_11_method_2_code 6 "in" C131 = true := by decide +kernel
set_option maxRecDepth 100000 in
theorem ck132 : chkT "SpentWeeksModel" prog_11_method_3_code 2 "has" C132 = true := by decide +kernel
set_option maxRecDepth 100000 in
theorem ck133 : chkT "SpentWeeksModel" prog_11_method_4_code 2 "find" C133 = true := by decide +kernel
set_option maxRecDepth 100000 in
theorem ck134 : chkT "SpentWeeksModel" prog_11_method_5_code 2 "give" C134 = true := by decide +kernel
set_option maxRecDepth 100000 in
theorem ck135 : chkT "SpentWeeksModel" prog_11_method_6_code 1 "isRow" C135 = true := by decide +kernel
set_option maxRecDepth 100000 in
theorem ck136 : chkT "SpentWeeksModel" prog_11_method_7_code 5 "row" C136 = true := by decide +kernel
set_option maxRecDepth 100000 in
theorem ck137 : chkT "SpentWeeksModel" prog_11_method_8_code 4 "set" C137 = true := by decide +kernel
set_option maxRecDepth 100000 in
theorem ck138 : chkT "SpentWeeksModel" prog_11_method_9_code 4 "isSpan" C138 = true := by decide +kernel
set_option maxRecDepth 100000 in
theorem ck139 : chkT "SpentWeeksModel" prog_11_method_10_code 8 "copy" C139 = true := by decide +kernel
set_option maxRecDepth 100000 in
theorem ck140 : chkT "SpentWeeksModel" prog_11_method_11_code 2 "drop" C140 = true := by decide +kernel
set_option maxRecDepth 100000 in
theorem ck141 : chkT "SpentWeeksModel" prog_11_method_12_code 2 "feed" C141 = true := by decide +kernel
set_option maxRecDepth 100000 in
theorem ck142 : chkT "SpentWeeksModel" prog_11_method_13_code 1 "isFigure" C142 = true := by decide +kernel
set_option maxRecDepth 100000 in
theorem ck143 : chkT "SpentWeeksModel" prog_11_method_14_code 6 "number" C143 = true := by decide +kernel
set_option maxRecDepth 100000 in
theorem ck144 : chkT "SpentWeeksModel" prog_11_method_15_code 2 "reads" C144 = true := by decide +kernel
set_option maxRecDepth 100000 in
theorem ck145 : chkT "SpentWeeksModel" prog_11_method_16_code 2 "kindHere" C145 = true := by decide +kernel
set_option maxRecDepth 100000 in
theorem ck146 : chkT "SpentWeeksModel" prog_11_method_17_code 1 "readsLaw" C146 = true := by decide +kernel
set_option maxRecDepth 100000 in
theorem ck147 : chkT "SpentWeeksModel" prog_11_method_18_code 5 "readsPerson" C147 = true := by decide +kernel
set_option maxRecDepth 100000 in
theorem ck148 : chkT "SpentWeeksModel" prog_11_method_19_code 2 "readsAll" C148 = true := by decide +kernel
set_option maxRecDepth 100000 in
theorem ck149 : chkT "SpentWeeksModel" prog_11_method_20_code 4 "county" C149 = true := by decide +kernel
set_option maxRecDepth 100000 in
theorem ck150 : chkT "SpentWeeksModel" prog_11_method_21_code 1 "fault" C150 = true := by decide +kernel
set_option maxRecDepth 100000 in
theorem ck151 : chkT "SpentWeeksModel" prog_11_method_22_code 2 "isOne" C151 = true := by decide +kernel
set_option maxRecDepth 100000 in
theorem ck152 : chkT "SpentWeeksModel" prog_11_method_23_code 2 "kindOf" C152 = true := by decide +kernel
set_option maxRecDepth 100000 in
theorem ck153 : chkT "SpentWeeksModel" prog_11_method_24_code 2 "at" C153 = true := by decide +kernel
set_option maxRecDepth 100000 in
theorem ck154 : chkT "SpentWeeksModel" prog_11_method_25_code 5 "unspent" C154 = true := by decide +kernel
set_option maxRecDepth 100000 in
theorem ck155 : chkT "SpentWeeksModel" prog_11_method_26_code 6 "come" C155 = true := by decide +kernel
set_option maxRecDepth 100000 in
theorem ck156 : chkT "SpentWeeksModel" prog_11_method_27_code 8 "closeUp" C156 = true := by decide +kernel
set_option maxRecDepth 100000 in
theorem ck157 : chkT "SpentWeeksModel" prog_11_method_28_code 10 "spend" C157 = true := by decide +kernel
set_option maxRecDepth 100000 in
theorem ck158 : chkT "SpentWeeksModel" prog_11_method_29_code 8 "doDeed" C158 = true := by decide +kernel
set_option maxRecDepth 100000 in
theorem ck159 : chkT "SpentWeeksModel" prog_11_method_30_code 6 "endMonth" C159 = true := by decide +kernel
set_option maxRecDepth 100000 in
theorem ck160 : chkT "SpentWeeksModel" prog_11_method_31_code 3 "monthBy" C160 = true := by decide +kernel
set_option maxRecDepth 100000 in
theorem ck161 : chkT "SpentWeeksModel" prog_11_method_32_code 2 "keepPast" C161 = true := by decide +kernel
set_option maxRecDepth 100000 in
theorem ck162 : chkT "SpentWeeksModel" prog_11_method_33_code 2 "undo" C162 = true := by decide +kernel
set_option maxRecDepth 100000 in
theorem ck163 : chkT "SpentWeeksModel" prog_11_method_34_code 3 "sentence" C163 = true := by decide +kernel
set_option maxRecDepth 100000 in
theorem ck164 : chkT "SpentWeeksModel" prog_11_method_35_code 3 "deed" C164 = true := by decide +kernel
set_option maxRecDepth 100000 in
theorem ck165 : chkT "SpentWeeksModel" prog_11_method_36_code 5 "canBeAsked" C165 = true := by decide +kernel
set_option maxRecDepth 100000 in
theorem ck166 : chkT "SpentWeeksModel" prog_11_method_37_code 5 "refusedSale" C166 = true := by decide +kernel
set_option maxRecDepth 100000 in
theorem ck167 : chkT "SpentWeeksModel" prog_11_method_38_code 6 "sell" C167 = true := by decide +kernel
set_option maxRecDepth 100000 in
theorem ck168 : chkT "SpentWeeksModel" prog_11_method_39_code 6 "sale" C168 = true := by decide +kernel
set_option maxRecDepth 100000 in
theorem ck169 : chkT "SpentWeeksModel" prog_11_method_40_code 3 "pays" C169 = true := by decide +kernel
set_option maxRecDepth 100000 in
theorem ck170 : chkT "SpentWeeksModel" prog_11_method_41_code 5 "dies" C170 = true := by decide +kernel
set_option maxRecDepth 100000 in
theorem ck171 : chkT "SpentWeeksModel" prog_11_method_42_code 3 "pardon" C171 = true := by decide +kernel
set_option maxRecDepth 100000 in
theorem ck172 : chkT "SpentWeeksModel" prog_11_method_43_code 1 "isSeed" C172 = true := by decide +kernel
set_option maxRecDepth 100000 in
theorem ck173 : chkT "SpentWeeksModel" prog_11_method_44_code 2 "month" C173 = true := by decide +kernel
set_option maxRecDepth 100000 in
theorem ck174 : chkT "SpentWeeksModel" prog_11_method_45_code 3 "person" C174 = true := by decide +kernel
set_option maxRecDepth 100000 in
theorem ck175 : chkT "SpentWeeksModel" prog_11_method_46_code 4 "lot" C175 = true := by decide +kernel
set_option maxRecDepth 100000 in
theorem ck176 : chkT "SpentWeeksModel" prog_11_method_47_code 4 "copyRow" C176 = true := by decide +kernel
set_option maxRecDepth 100000 in
theorem ck177 : chkT "SpentWeeksModel" prog_11_method_48_code 6 "ahead" C177 = true := by decide +kernel
set_option maxRecDepth 100000 in
theorem ck178 : chkT "SpentWeeksModel" prog_11_method_49_code 4 "lapsed" C178 = true := by decide +kernel
set_option maxRecDepth 100000 in
theorem ck179 : chkT "SpentWeeksModel" prog_11_method_50_code 4 "owesAll" C179 = true := by decide +kernel
set_option maxRecDepth 100000 in
theorem ck180 : chkT "SpentWeeksModel" prog_11_method_51_code 6 "triedFirst" C180 = true := by decide +kernel
set_option maxRecDepth 100000 in
theorem ck181 : chkT "SpentWeeksModel" prog_11_method_52_code 5 "areWeights" C181 = true := by decide +kernel
set_option maxRecDepth 100000 in
theorem ck182 : chkT "SpentWeeksModel" prog_11_method_53_code 4 "refused" C182 = true := by decide +kernel
set_option maxRecDepth 100000 in
theorem ck183 : chkT "SpentWeeksModel" prog_11_method_54_code 5 "refusedWeights" C183 = true := by decide +kernel
set_option maxRecDepth 100000 in
theorem ck184 : chkT "SpentWeeksModel" prog_11_method_55_code 6 "owesBehind" C184 = true := by decide +kernel
set_option maxRecDepth 100000 in
theorem ck185 : chkT "SpentWeeksModel" prog_11_method_56_code 2 "layPlain" C185 = true := by decide +kernel
set_option maxRecDepth 100000 in
theorem ck186 : chkT "SpentWeeksModel" prog_11_method_57_code 7 "cover" C186 = true := by decide +kernel
set_option maxRecDepth 100000 in
theorem ck187 : chkT "SpentWeeksModel" prog_11_method_58_code 3 "factorial" C187 = true := by decide +kernel
set_option maxRecDepth 100000 in
theorem ck188 : chkT "SpentWeeksModel" prog_11_method_59_code 9 "layOrder" C188 = true := by decide +kernel
set_option maxRecDepth 100000 in
theorem ck189 : chkT "SpentWeeksModel" prog_11_method_60_code 11 "bestOrder" C189 = true := by decide +kernel
set_option maxRecDepth 100000 in
theorem ck190 : chkT "SpentWeeksModel" prog_11_method_61_code 3 "sellsAt" C190 = true := by decide +kernel
set_option maxRecDepth 100000 in
theorem ck191 : chkT "SpentWeeksModel" prog_11_method_62_code 3 "buysAt" C191 = true := by decide +kernel
set_option maxRecDepth 100000 in
theorem ck192 : chkT "SpentWeeksModel" prog_11_method_63_code 4 "supply" C192 = true := by decide +kernel
set_option maxRecDepth 100000 in
theorem ck193 : chkT "SpentWeeksModel" prog_11_method_64_code 4 "demand" C193 = true := by decide +kernel
set_option maxRecDepth 100000 in
theorem ck194 : chkT "SpentWeeksModel" prog_11_method_65_code 3 "market" C194 = true := by decide +kernel
set_option maxRecDepth 100000 in
theorem ck195 : chkT "SpentWeeksModel" prog_11_method_66_code 6 "atRest" C195 = true := by decide +kernel
set_option maxRecDepth 100000 in
theorem ck196 : chkT "SpentWeeksModel" prog_11_method_67_code 3 "wealth" C196 = true := by decide +kernel
set_option maxRecDepth 100000 in
theorem ck197 : chkT "SpentWeeksModel" prog_11_method_68_code 5 "areSales" C197 = true := by decide +kernel
set_option maxRecDepth 100000 in
theorem ck198 : chkT "SpentWeeksModel" prog_11_method_69_code 10 "ring" C198 = true := by decide +kernel
set_option maxRecDepth 100000 in
theorem ck199 : chkT "SpentWeeksModel" prog_11_method_70_code 4 "areTold" C199 = true := by decide +kernel
set_option maxRecDepth 100000 in
theorem ck200 : chkT "SpentWeeksModel" prog_11_method_71_code 8 "wrong" C200 = true := by decide +kernel
set_option maxRecDepth 100000 in
theorem ck201 : chkT "SpentWeeksModel" prog_11_method_72_code 12 "satFor" C201 = true := by decide +kernel
set_option maxRecDepth 100000 in
theorem ck202 : chkT "SpentWeeksModel" prog_11_method_73_code 2 "image" C202 = true := by decide +kernel
set_option maxRecDepth 100000 in
theorem ck203 : chkT "SpentWeeksModel" prog_11_method_74_code 2 "restore" C203 = true := by decide +kernel
set_option maxRecDepth 100000 in
theorem ck204 : chkT "SpentWeeksModel" prog_11_method_75_code 2 "kind" C204 = true := by decide +kernel
set_option maxRecDepth 100000 in
theorem ck205 : chkT "SpentWeeksModel" prog_11_method_76_code 2 "isKind" C205 = true := by decide +kernel
set_option maxRecDepth 100000 in
theorem ck206 : chkT "SpentWeeksModel" prog_11_method_77_code 3 "as" C206 = true := by decide +kernel
set_option maxRecDepth 100000 in
theorem ck207 : chkT "SpentWeeksModel" prog_11_method_78_code 2 "leave" C207 = true := by decide +kernel
set_option maxRecDepth 100000 in
theorem ck208 : chkT "SpentWeeksModel" prog_11_method_79_code 2 "daysBody" C208 = true := by decide +kernel
set_option maxRecDepth 100000 in
theorem ck209 : chkT "SpentWeeksModel" prog_11_method_80_code 2 "numberBody" C209 = true := by decide +kernel
set_option maxRecDepth 100000 in
theorem ck210 : chkT "SpentWeeksModel" prog_11_method_81_code 3 "lotsBody" C210 = true := by decide +kernel
set_option maxRecDepth 100000 in
theorem ck211 : chkT "SpentWeeksModel" prog_11_method_82_code 4 "markOfCitizen" C211 = true := by decide +kernel
set_option maxRecDepth 100000 in
theorem ck212 : chkT "SpentWeeksModel" prog_11_method_83_code 3 "citizenBody" C212 = true := by decide +kernel
set_option maxRecDepth 100000 in
theorem ck213 : chkT "SpentWeeksModel" prog_11_method_84_code 2 "thiefBody" C213 = true := by decide +kernel
set_option maxRecDepth 100000 in
theorem ck214 : chkT "SpentWeeksModel" prog_11_method_85_code 2 "sizeOfThief" C214 = true := by decide +kernel
set_option maxRecDepth 100000 in
theorem ck215 : chkT "SpentWeeksModel" prog_11_method_86_code 2 "sizeOfCitizen" C215 = true := by decide +kernel
set_option maxRecDepth 100000 in
theorem ck216 : chkT "SpentWeeksModel" prog_11_method_87_code 3 "markOfThief" C216 = true := by decide +kernel
set_option maxRecDepth 100000 in
theorem ck217 : chkT "SpentWeeksModel" prog_11_method_88_code 4 "ask" C217 = true := by decide +kernel
set_option maxRecDepth 100000 in
theorem ck218 : chkT "SpentWeeksModel" prog_11_method_89_code 2 "trace" C218 = true := by decide +kernel
set_option maxRecDepth 100000 in
theorem ck219 : chkT "SpentWeeksModel" prog_11_method_90_code 5 "count" C219 = true := by decide +kernel
set_option maxRecDepth 100000 in
theorem ck220 : chkT "SpentWeeksModel" prog_11_method_91_code 1 "status" C220 = true := by decide +kernel
