set_option maxRecDepth 100000 in
theorem ck0 : chkT "SpentWeeks$Acts" prog_2_method_1_code 2 "<init>" C0 = true := by decide +kernel
set_option maxRecDepth 100000 in
theorem ck1 : chkT "SpentWeeks$Acts" prog_2_method_2_code 2 "remember" C1 = true := by decide +kernel
set_option maxRecDepth 100000 in
theorem ck2 : chkT "SpentWeeks$Acts" prog_2_method_3_code 2 "takeBack" C2 = true := by decide +kernel
set_option maxRecDepth 100000 in
theorem ck3 : chkT "SpentWeeks$Asks" prog_3_method_1_code 1 "<init>" C3 = true := by decide +kernel
set_option maxRecDepth 100000 in
theorem ck4 : chkT "SpentWeeks$Asks" prog_3_method_2_code 2 "begin" C4 = true := by decide +kernel
set_option maxRecDepth 100000 in
theorem ck5 : chkT "SpentWeeks$Asks" prog_3_method_3_code 3 "sizeOf" C5 = true := by decide +kernel
set_option maxRecDepth 100000 in
theorem ck6 : chkT "SpentWeeks$Asks" prog_3_method_4_code 3 "markOf" C6 = true := by decide +kernel
set_option maxRecDepth 100000 in
theorem ck7 : chkT "SpentWeeks$Asks" prog_3_method_5_code 2 "sizeOfAny" C7 = true := by decide +kernel
set_option maxRecDepth 100000 in
theorem ck8 : chkT "SpentWeeks$Asks" prog_3_method_6_code 4 "sizeOfCitizen" C8 = true := by decide +kernel
set_option maxRecDepth 100000 in
theorem ck9 : chkT "SpentWeeks$Asks" prog_3_method_7_code 3 "sizeOfSaint" C9 = true := by decide +kernel
set_option maxRecDepth 100000 in
theorem ck10 : chkT "SpentWeeks$Asks" prog_3_method_8_code 2 "sizeOfThief" C10 = true := by decide +kernel
set_option maxRecDepth 100000 in
theorem ck11 : chkT "SpentWeeks$Asks" prog_3_method_9_code 2 "sizeOfPardoned" C11 = true := by decide +kernel
set_option maxRecDepth 100000 in
theorem ck12 : chkT "SpentWeeks$Asks" prog_3_method_10_code 2 "markOfAny" C12 = true := by decide +kernel
set_option maxRecDepth 100000 in
theorem ck13 : chkT "SpentWeeks$Asks" prog_3_method_11_code 2 "markOfCitizen" C13 = true := by decide +kernel
set_option maxRecDepth 100000 in
theorem ck14 : chkT "SpentWeeks$Asks" prog_3_method_12_code 2 "markOfHeir" C14 = true := by decide +kernel
set_option maxRecDepth 100000 in
theorem ck15 : chkT "SpentWeeks$Asks" prog_3_method_13_code 4 "markOfThief" C15 = true := by decide +kernel
set_option maxRecDepth 100000 in
theorem ck16 : chkT "SpentWeeks$Asks" prog_3_method_14_code 2 "markOfSaint" C16 = true := by decide +kernel
set_option maxRecDepth 100000 in
theorem ck17 : chkT "SpentWeeks$County" prog_4_method_1_code 1 "<init>" C17 = true := by decide +kernel
set_option maxRecDepth 100000 in
theorem ck18 : chkT "SpentWeeks$County" prog_4_method_2_code 2 "clear" C18 = true := by decide +kernel
set_option maxRecDepth 100000 in
theorem ck19 : chkT "SpentWeeks$County" prog_4_method_3_code 3 "copyFrom" C19 = true := by decide +kernel
set_option maxRecDepth 100000 in
theorem ck20 : chkT "SpentWeeks$County" prog_4_method_4_code 3 "unspentOfAll" C20 = true := by decide +kernel
set_option maxRecDepth 100000 in
theorem ck21 : chkT "SpentWeeks$County" prog_4_method_5_code 3 "owedByAll" C21 = true := by decide +kernel
set_option maxRecDepth 100000 in
theorem ck22 : chkT "SpentWeeks$County" prog_4_method_6_code 2 "loseLots" C22 = true := by decide +kernel
set_option maxRecDepth 100000 in
theorem ck23 : chkT "SpentWeeks$County" prog_4_method_7_code 8 "passMonths" C23 = true := by decide +kernel
set_option maxRecDepth 100000 in
theorem ck24 : chkT "SpentWeeks$County" prog_4_method_8_code 3 "drawFor" C24 = true := by decide +kernel
set_option maxRecDepth 100000 in
theorem ck25 : chkT "SpentWeeks$County" prog_4_method_9_code 2 "endMonth" C25 = true := by decide +kernel
set_option maxRecDepth 100000 in
theorem ck26 : chkT "SpentWeeks$County" prog_4_method_10_code 4 "refusalOfSale" C26 = true := by decide +kernel
set_option maxRecDepth 100000 in
theorem ck27 : chkT "SpentWeeks$County" prog_4_method_11_code 5 "sell" C27 = true := by decide +kernel
set_option maxRecDepth 100000 in
theorem ck28 : chkT "SpentWeeks$County" prog_4_method_12_code 5 "sellAlong" C28 = true := by decide +kernel
set_option maxRecDepth 100000 in
theorem ck29 : chkT "SpentWeeks$County" prog_4_method_13_code 4 "poorerThan" C29 = true := by decide +kernel
set_option maxRecDepth 100000 in
theorem ck30 : chkT "SpentWeeks$County" prog_4_method_14_code 3 "offerAt" C30 = true := by decide +kernel
set_option maxRecDepth 100000 in
theorem ck31 : chkT "SpentWeeks$County" prog_4_method_15_code 3 "wantAt" C31 = true := by decide +kernel
set_option maxRecDepth 100000 in
theorem ck32 : chkT "SpentWeeks$County" prog_4_method_16_code 4 "supplyAt" C32 = true := by decide +kernel
set_option maxRecDepth 100000 in
theorem ck33 : chkT "SpentWeeks$County" prog_4_method_17_code 4 "demandAt" C33 = true := by decide +kernel
set_option maxRecDepth 100000 in
theorem ck34 : chkT "SpentWeeks$County" prog_4_method_18_code 4 "sellersAt" C34 = true := by decide +kernel
set_option maxRecDepth 100000 in
theorem ck35 : chkT "SpentWeeks$County" prog_4_method_19_code 4 "buyersAt" C35 = true := by decide +kernel
set_option maxRecDepth 100000 in
theorem ck36 : chkT "SpentWeeks$County" prog_4_method_20_code 2 "priceAtRest" C36 = true := by decide +kernel
set_option maxRecDepth 100000 in
theorem ck37 : chkT "SpentWeeks$County" prog_4_method_21_code 4 "falselyTold" C37 = true := by decide +kernel
set_option maxRecDepth 100000 in
theorem ck38 : chkT "SpentWeeks$County" prog_4_method_22_code 4 "fewestDeeds" C38 = true := by decide +kernel
set_option maxRecDepth 100000 in
theorem ck39 : chkT "SpentWeeks$Deeds" prog_5_method_1_code 2 "<init>" C39 = true := by decide +kernel
set_option maxRecDepth 100000 in
theorem ck40 : chkT "SpentWeeks$Deeds" prog_5_method_2_code 4 "begin" C40 = true := by decide +kernel
set_option maxRecDepth 100000 in
theorem ck41 : chkT "SpentWeeks$Deeds" prog_5_method_3_code 6 "leastCover" C41 = true := by decide +kernel
set_option maxRecDepth 100000 in
theorem ck42 : chkT "SpentWeeks$Deeds" prog_5_method_4_code 5 "covers" C42 = true := by decide +kernel
set_option maxRecDepth 100000 in
theorem ck43 : chkT "SpentWeeks$Deeds" prog_5_method_5_code 2 "findBestOrder" C43 = true := by decide +kernel
set_option maxRecDepth 100000 in
theorem ck44 : chkT "SpentWeeks$Deeds" prog_5_method_6_code 5 "tryOrders" C44 = true := by decide +kernel
set_option maxRecDepth 100000 in
theorem ck45 : chkT "SpentWeeks$Deeds" prog_5_method_7_code 1 "keepIfBetter" C45 = true := by decide +kernel
set_option maxRecDepth 100000 in
theorem ck46 : chkT "SpentWeeks$Person" prog_6_method_1_code 2 "<init>" C46 = true := by decide +kernel
set_option maxRecDepth 100000 in
theorem ck47 : chkT "SpentWeeks$Person" prog_6_method_2_code 1 "clear" C47 = true := by decide +kernel
set_option maxRecDepth 100000 in
theorem ck48 : chkT "SpentWeeks$Person" prog_6_method_3_code 3 "copyFrom" C48 = true := by decide +kernel
set_option maxRecDepth 100000 in
theorem ck49 : chkT "SpentWeeks$Person" prog_6_method_4_code 2 "isOf" C49 = true := by decide +kernel
set_option maxRecDepth 100000 in
theorem ck50 : chkT "SpentWeeks$Person" prog_6_method_5_code 3 "unspent" C50 = true := by decide +kernel
set_option maxRecDepth 100000 in
theorem ck51 : chkT "SpentWeeks$Person" prog_6_method_6_code 1 "fortune" C51 = true := by decide +kernel
set_option maxRecDepth 100000 in
theorem ck52 : chkT "SpentWeeks$Person" prog_6_method_7_code 3 "gain" C52 = true := by decide +kernel
set_option maxRecDepth 100000 in
theorem ck53 : chkT "SpentWeeks$Person" prog_6_method_8_code 7 "spend" C53 = true := by decide +kernel
set_option maxRecDepth 100000 in
theorem ck54 : chkT "SpentWeeks$Person" prog_6_method_9_code 2 "commit" C54 = true := by decide +kernel
set_option maxRecDepth 100000 in
theorem ck55 : chkT "SpentWeeks$Person" prog_6_method_10_code 4 "leaveTo" C55 = true := by decide +kernel
set_option maxRecDepth 100000 in
theorem ck56 : chkT "SpentWeeks$Person" prog_6_method_11_code 5 "lapsing" C56 = true := by decide +kernel
set_option maxRecDepth 100000 in
theorem ck57 : chkT "SpentWeeks$Person" prog_6_method_12_code 4 "endMonth" C57 = true := by decide +kernel
set_option maxRecDepth 100000 in
theorem ck58 : chkT "SpentWeeks$Person" prog_6_method_13_code 4 "lapses" C58 = true := by decide +kernel
set_option maxRecDepth 100000 in
theorem ck59 : chkT "SpentWeeks$Person" prog_6_method_14_code 3 "dropEmptyLots" C59 = true := by decide +kernel
set_option maxRecDepth 100000 in
theorem ck60 : chkT "SpentWeeks$Rows" prog_7_method_1_code 1 "<init>" C60 = true := by decide +kernel
set_option maxRecDepth 100000 in
theorem ck61 : chkT "SpentWeeks$Rows" prog_7_method_2_code 2 "isMissing" C61 = true := by decide +kernel
set_option maxRecDepth 100000 in
theorem ck62 : chkT "SpentWeeks$Rows" prog_7_method_3_code 5 "make" C62 = true := by decide +kernel
set_option maxRecDepth 100000 in
theorem ck63 : chkT "SpentWeeks$Rows" prog_7_method_4_code 2 "lose" C63 = true := by decide +kernel
set_option maxRecDepth 100000 in
theorem ck64 : chkT "SpentWeeks$Rows" prog_7_method_5_code 5 "put" C64 = true := by decide +kernel
set_option maxRecDepth 100000 in
theorem ck65 : chkT "SpentWeeks$Rows" prog_7_method_6_code 4 "findingOf" C65 = true := by decide +kernel
set_option maxRecDepth 100000 in
theorem ck66 : chkT "SpentWeeks$Rows" prog_7_method_7_code 5 "tell" C66 = true := by decide +kernel
set_option maxRecDepth 100000 in
theorem ck67 : chkT "SpentWeeks$Rows" prog_7_method_8_code 3 "howMany" C67 = true := by decide +kernel
set_option maxRecDepth 100000 in
theorem ck68 : chkT "SpentWeeks$Sets" prog_8_method_1_code 1 "<init>" C68 = true := by decide +kernel
set_option maxRecDepth 100000 in
theorem ck69 : chkT "SpentWeeks$Sets" prog_8_method_2_code 7 "find" C69 = true := by decide +kernel
set_option maxRecDepth 100000 in
theorem ck70 : chkT "SpentWeeks$Sets" prog_8_method_3_code 4 "sortLow" C70 = true := by decide +kernel
set_option maxRecDepth 100000 in
theorem ck71 : chkT "SpentWeeks$Sets" prog_8_method_4_code 6 "mergeWith" C71 = true := by decide +kernel
set_option maxRecDepth 100000 in
theorem ck72 : chkT "SpentWeeks$Sets" prog_8_method_5_code 6 "sumHigh" C72 = true := by decide +kernel
set_option maxRecDepth 100000 in
theorem ck73 : chkT "SpentWeeks$Sets" prog_8_method_6_code 6 "match" C73 = true := by decide +kernel
set_option maxRecDepth 100000 in
theorem ck74 : chkT "SpentWeeks$Sets" prog_8_method_7_code 7 "placeOf" C74 = true := by decide +kernel
set_option maxRecDepth 100000 in
theorem ck75 : chkT "SpentWeeks$Tape" prog_9_method_1_code 1 "<init>" C75 = true := by decide +kernel
set_option maxRecDepth 100000 in
theorem ck76 : chkT "SpentWeeks$Tape" prog_9_method_2_code 2 "append" C76 = true := by decide +kernel
set_option maxRecDepth 100000 in
theorem ck77 : chkT "SpentWeeks$Tape" prog_9_method_3_code 3 "readInto" C77 = true := by decide +kernel
set_option maxRecDepth 100000 in
theorem ck78 : chkT "SpentWeeks$Tape" prog_9_method_4_code 2 "readLaw" C78 = true := by decide +kernel
set_option maxRecDepth 100000 in
theorem ck79 : chkT "SpentWeeks$Tape" prog_9_method_5_code 4 "readPerson" C79 = true := by decide +kernel
set_option maxRecDepth 100000 in
theorem ck80 : chkT "SpentWeeks$Tape" prog_9_method_6_code 1 "kindOf" C80 = true := by decide +kernel
set_option maxRecDepth 100000 in
theorem ck81 : chkT "SpentWeeks$Tape" prog_9_method_7_code 1 "nextByte" C81 = true := by decide +kernel
set_option maxRecDepth 100000 in
theorem ck82 : chkT "SpentWeeks$Tape" prog_9_method_8_code 2 "readByte" C82 = true := by decide +kernel
set_option maxRecDepth 100000 in
theorem ck83 : chkT "SpentWeeks$Tape" prog_9_method_9_code 6 "readNumber" C83 = true := by decide +kernel
set_option maxRecDepth 100000 in
theorem ck84 : chkT "SpentWeeks$Tape" prog_9_method_10_code 2 "fails" C84 = true := by decide +kernel
