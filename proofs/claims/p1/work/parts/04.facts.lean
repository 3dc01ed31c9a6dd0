theorem wd2 : Cond.initialized RX9 ∈ wsL_law := List.mem_of_getElem? (i := 2) (by decide +kernel)
theorem wd5 : Cond.initialized RX10 ∈ wsL_law := List.mem_of_getElem? (i := 5) (by decide +kernel)
theorem wd9 : Cond.methodLink RX9 1 objectInit ∈ wsL_law := List.mem_of_getElem? (i := 9) (by decide +kernel)
theorem wd10 : Cond.instanceMethod objectInit ∈ wsL_law := List.mem_of_getElem? (i := 10) (by decide +kernel)
theorem wd11 : Cond.code objectInit ⟨#[0xb1]⟩ 1 none ∈ wsL_law := List.mem_of_getElem? (i := 11) (by decide +kernel)
theorem wd12 : Cond.arrayClass .int ∈ wsL_law := List.mem_of_getElem? (i := 12) (by decide +kernel)
theorem wd13 : Cond.fieldLink RX9 9 "PressAndWait" "tape" "[I" ∈ wsL_law := List.mem_of_getElem? (i := 13) (by decide +kernel)
theorem wd14 : Cond.fieldLink RX9 13 "PressAndWait" "tapeSize" "I" ∈ wsL_law := List.mem_of_getElem? (i := 14) (by decide +kernel)
theorem wd15 : Cond.classLink RX9 17 RX4 ∈ wsL_law := List.mem_of_getElem? (i := 15) (by decide +kernel)
theorem wd16 : Cond.instantiable RX4 18 ∈ wsL_law := List.mem_of_getElem? (i := 16) (by decide +kernel)
theorem wd17 : Cond.initialized RX4 ∈ wsL_law := List.mem_of_getElem? (i := 17) (by decide +kernel)
theorem wd18 : Cond.fieldLink RX9 20 "PressAndWait" "plan" "LPressAndWait$Plan;" ∈ wsL_law := List.mem_of_getElem? (i := 18) (by decide +kernel)
theorem wd19 : Cond.fieldLink RX9 24 "PressAndWait" "spare" "LPressAndWait$Plan;" ∈ wsL_law := List.mem_of_getElem? (i := 19) (by decide +kernel)
theorem wd20 : Cond.classLink RX9 27 RX6 ∈ wsL_law := List.mem_of_getElem? (i := 20) (by decide +kernel)
theorem wd21 : Cond.instantiable RX6 4 ∈ wsL_law := List.mem_of_getElem? (i := 21) (by decide +kernel)
theorem wd22 : Cond.initialized RX6 ∈ wsL_law := List.mem_of_getElem? (i := 22) (by decide +kernel)
theorem wd23 : Cond.fieldLink RX9 30 "PressAndWait" "now" "LPressAndWait$State;" ∈ wsL_law := List.mem_of_getElem? (i := 23) (by decide +kernel)
theorem wd24 : Cond.classLink RX9 34 RX2 ∈ wsL_law := List.mem_of_getElem? (i := 24) (by decide +kernel)
theorem wd25 : Cond.instantiable RX2 3 ∈ wsL_law := List.mem_of_getElem? (i := 25) (by decide +kernel)
theorem wd26 : Cond.initialized RX2 ∈ wsL_law := List.mem_of_getElem? (i := 26) (by decide +kernel)
theorem wd27 : Cond.fieldLink RX9 37 "PressAndWait" "history" "LPressAndWait$History;" ∈ wsL_law := List.mem_of_getElem? (i := 27) (by decide +kernel)
theorem wd28 : Cond.classLink RX9 41 RX3 ∈ wsL_law := List.mem_of_getElem? (i := 28) (by decide +kernel)
theorem wd29 : Cond.instantiable RX3 2 ∈ wsL_law := List.mem_of_getElem? (i := 29) (by decide +kernel)
theorem wd30 : Cond.initialized RX3 ∈ wsL_law := List.mem_of_getElem? (i := 30) (by decide +kernel)
theorem wd31 : Cond.fieldLink RX9 44 "PressAndWait" "machine" "LPressAndWait$Machine;" ∈ wsL_law := List.mem_of_getElem? (i := 31) (by decide +kernel)
theorem wd32 : Cond.classLink RX9 48 RX5 ∈ wsL_law := List.mem_of_getElem? (i := 32) (by decide +kernel)
theorem wd33 : Cond.instantiable RX5 9 ∈ wsL_law := List.mem_of_getElem? (i := 33) (by decide +kernel)
theorem wd34 : Cond.initialized RX5 ∈ wsL_law := List.mem_of_getElem? (i := 34) (by decide +kernel)
theorem wd35 : Cond.fieldLink RX9 53 "PressAndWait" "reader" "LPressAndWait$Reader;" ∈ wsL_law := List.mem_of_getElem? (i := 35) (by decide +kernel)
theorem wd36 : Cond.classLink RX9 57 RX7 ∈ wsL_law := List.mem_of_getElem? (i := 36) (by decide +kernel)
theorem wd37 : Cond.instantiable RX7 17 ∈ wsL_law := List.mem_of_getElem? (i := 37) (by decide +kernel)
theorem wd38 : Cond.initialized RX7 ∈ wsL_law := List.mem_of_getElem? (i := 38) (by decide +kernel)
theorem wd39 : Cond.fieldLink RX9 62 "PressAndWait" "street" "LPressAndWait$Street;" ∈ wsL_law := List.mem_of_getElem? (i := 39) (by decide +kernel)
theorem wd40 : Cond.classLink RX9 66 RX1 ∈ wsL_law := List.mem_of_getElem? (i := 40) (by decide +kernel)
theorem wd41 : Cond.instantiable RX1 3 ∈ wsL_law := List.mem_of_getElem? (i := 41) (by decide +kernel)
theorem wd42 : Cond.initialized RX1 ∈ wsL_law := List.mem_of_getElem? (i := 42) (by decide +kernel)
theorem wd43 : Cond.fieldLink RX9 71 "PressAndWait" "choice" "LPressAndWait$Choice;" ∈ wsL_law := List.mem_of_getElem? (i := 43) (by decide +kernel)
theorem wd44 : Cond.classLink RX9 75 RX0 ∈ wsL_law := List.mem_of_getElem? (i := 44) (by decide +kernel)
theorem wd45 : Cond.instantiable RX0 5 ∈ wsL_law := List.mem_of_getElem? (i := 45) (by decide +kernel)
theorem wd46 : Cond.initialized RX0 ∈ wsL_law := List.mem_of_getElem? (i := 46) (by decide +kernel)
theorem wd47 : Cond.fieldLink RX9 78 "PressAndWait" "ahead" "LPressAndWait$Ahead;" ∈ wsL_law := List.mem_of_getElem? (i := 47) (by decide +kernel)
theorem wd48 : Cond.classLink RX9 82 RX8 ∈ wsL_law := List.mem_of_getElem? (i := 48) (by decide +kernel)
theorem wd49 : Cond.instantiable RX8 11 ∈ wsL_law := List.mem_of_getElem? (i := 49) (by decide +kernel)
theorem wd50 : Cond.initialized RX8 ∈ wsL_law := List.mem_of_getElem? (i := 50) (by decide +kernel)
theorem wd51 : Cond.fieldLink RX9 85 "PressAndWait" "watch" "LPressAndWait$Watch;" ∈ wsL_law := List.mem_of_getElem? (i := 51) (by decide +kernel)
theorem wd52 : Cond.fieldLink RX9 89 "PressAndWait" "octets" "[I" ∈ wsL_law := List.mem_of_getElem? (i := 52) (by decide +kernel)
theorem wd53 : Cond.fieldLink RX9 92 "PressAndWait" "octetCount" "I" ∈ wsL_law := List.mem_of_getElem? (i := 53) (by decide +kernel)
theorem wd54 : Cond.fieldLink RX9 95 "PressAndWait" "refusals" "[I" ∈ wsL_law := List.mem_of_getElem? (i := 54) (by decide +kernel)
theorem wd55 : Cond.fieldLink RX9 98 "PressAndWait" "drawn" "J" ∈ wsL_law := List.mem_of_getElem? (i := 55) (by decide +kernel)
theorem wd56 : Cond.instanceMethod yX4_init ∈ wsL_law := List.mem_of_getElem? (i := 56) (by decide +kernel)
theorem wd57 : Cond.code yX4_init cX4_init 1 none ∈ wsL_law := List.mem_of_getElem? (i := 57) (by decide +kernel)
theorem wd58 : Cond.methodLink RX4 3 objectInit ∈ wsL_law := List.mem_of_getElem? (i := 58) (by decide +kernel)
theorem wd59 : Cond.fieldLink RX4 9 "PressAndWait$Plan" "calm" "[I" ∈ wsL_law := List.mem_of_getElem? (i := 59) (by decide +kernel)
theorem wd60 : Cond.fieldLink RX4 15 "PressAndWait$Plan" "pace" "[I" ∈ wsL_law := List.mem_of_getElem? (i := 60) (by decide +kernel)
theorem wd61 : Cond.fieldLink RX4 18 "PressAndWait$Plan" "trusts" "[I" ∈ wsL_law := List.mem_of_getElem? (i := 61) (by decide +kernel)
theorem wd62 : Cond.fieldLink RX4 21 "PressAndWait$Plan" "kindOf" "[I" ∈ wsL_law := List.mem_of_getElem? (i := 62) (by decide +kernel)
theorem wd63 : Cond.fieldLink RX4 24 "PressAndWait$Plan" "comesAt" "[I" ∈ wsL_law := List.mem_of_getElem? (i := 63) (by decide +kernel)
theorem wd64 : Cond.fieldLink RX4 27 "PressAndWait$Plan" "comers" "[I" ∈ wsL_law := List.mem_of_getElem? (i := 64) (by decide +kernel)
theorem wd65 : Cond.fieldLink RX4 30 "PressAndWait$Plan" "names" "[I" ∈ wsL_law := List.mem_of_getElem? (i := 65) (by decide +kernel)
theorem wd66 : Cond.fieldLink RX4 33 "PressAndWait$Plan" "code" "[I" ∈ wsL_law := List.mem_of_getElem? (i := 66) (by decide +kernel)
theorem wd67 : Cond.fieldLink RX4 36 "PressAndWait$Plan" "spans" "[I" ∈ wsL_law := List.mem_of_getElem? (i := 67) (by decide +kernel)
theorem wd68 : Cond.instanceMethod yX6_init ∈ wsL_law := List.mem_of_getElem? (i := 68) (by decide +kernel)
theorem wd69 : Cond.code yX6_init cX6_init 1 none ∈ wsL_law := List.mem_of_getElem? (i := 69) (by decide +kernel)
theorem wd70 : Cond.methodLink RX6 3 objectInit ∈ wsL_law := List.mem_of_getElem? (i := 70) (by decide +kernel)
theorem wd71 : Cond.fieldLink RX6 9 "PressAndWait$State" "day" "I" ∈ wsL_law := List.mem_of_getElem? (i := 71) (by decide +kernel)
theorem wd72 : Cond.fieldLink RX6 15 "PressAndWait$State" "rule" "I" ∈ wsL_law := List.mem_of_getElem? (i := 72) (by decide +kernel)
theorem wd73 : Cond.fieldLink RX6 18 "PressAndWait$State" "green" "I" ∈ wsL_law := List.mem_of_getElem? (i := 73) (by decide +kernel)
theorem wd74 : Cond.fieldLink RX6 21 "PressAndWait$State" "trusts" "[I" ∈ wsL_law := List.mem_of_getElem? (i := 74) (by decide +kernel)
theorem wd75 : Cond.methodLink RX9 36 yX2_init ∈ wsL_law := List.mem_of_getElem? (i := 75) (by decide +kernel)
theorem wd76 : Cond.instanceMethod yX2_init ∈ wsL_law := List.mem_of_getElem? (i := 76) (by decide +kernel)
theorem wd77 : Cond.code yX2_init cX2_init 2 none ∈ wsL_law := List.mem_of_getElem? (i := 77) (by decide +kernel)
theorem wd78 : Cond.methodLink RX2 3 objectInit ∈ wsL_law := List.mem_of_getElem? (i := 78) (by decide +kernel)
theorem wd79 : Cond.classLink RX2 9 RX6 ∈ wsL_law := List.mem_of_getElem? (i := 79) (by decide +kernel)
theorem wd80 : Cond.fieldLink RX2 11 "PressAndWait$History" "ring" "[LPressAndWait$State;" ∈ wsL_law := List.mem_of_getElem? (i := 80) (by decide +kernel)
theorem wd81 : Cond.fieldLink RX2 17 "PressAndWait$History" "next" "I" ∈ wsL_law := List.mem_of_getElem? (i := 81) (by decide +kernel)
theorem wd82 : Cond.fieldLink RX2 21 "PressAndWait$History" "count" "I" ∈ wsL_law := List.mem_of_getElem? (i := 82) (by decide +kernel)
theorem wd83 : Cond.instanceMethod yX3_init ∈ wsL_law := List.mem_of_getElem? (i := 83) (by decide +kernel)
theorem wd84 : Cond.code yX3_init cX3_init 1 none ∈ wsL_law := List.mem_of_getElem? (i := 84) (by decide +kernel)
theorem wd85 : Cond.methodLink RX3 3 objectInit ∈ wsL_law := List.mem_of_getElem? (i := 85) (by decide +kernel)
theorem wd86 : Cond.fieldLink RX3 9 "PressAndWait$Machine" "facts" "[I" ∈ wsL_law := List.mem_of_getElem? (i := 86) (by decide +kernel)
theorem wd87 : Cond.fieldLink RX3 15 "PressAndWait$Machine" "stack" "[I" ∈ wsL_law := List.mem_of_getElem? (i := 87) (by decide +kernel)
theorem wd88 : Cond.methodLink RX9 50 yX5_init ∈ wsL_law := List.mem_of_getElem? (i := 88) (by decide +kernel)
theorem wd89 : Cond.instanceMethod yX5_init ∈ wsL_law := List.mem_of_getElem? (i := 89) (by decide +kernel)
theorem wd90 : Cond.code yX5_init cX5_init 3 none ∈ wsL_law := List.mem_of_getElem? (i := 90) (by decide +kernel)
theorem wd91 : Cond.methodLink RX5 5 objectInit ∈ wsL_law := List.mem_of_getElem? (i := 91) (by decide +kernel)
theorem wd92 : Cond.fieldLink RX5 11 "PressAndWait$Reader" "length" "I" ∈ wsL_law := List.mem_of_getElem? (i := 92) (by decide +kernel)
theorem wd93 : Cond.fieldLink RX5 15 "PressAndWait$Reader" "at" "I" ∈ wsL_law := List.mem_of_getElem? (i := 93) (by decide +kernel)
theorem wd94 : Cond.fieldLink RX5 18 "PressAndWait$Reader" "behind" "I" ∈ wsL_law := List.mem_of_getElem? (i := 94) (by decide +kernel)
theorem wd95 : Cond.fieldLink RX5 21 "PressAndWait$Reader" "sort" "I" ∈ wsL_law := List.mem_of_getElem? (i := 95) (by decide +kernel)
theorem wd96 : Cond.fieldLink RX5 24 "PressAndWait$Reader" "allowed" "I" ∈ wsL_law := List.mem_of_getElem? (i := 96) (by decide +kernel)
theorem wd97 : Cond.fieldLink RX5 27 "PressAndWait$Reader" "fault" "I" ∈ wsL_law := List.mem_of_getElem? (i := 97) (by decide +kernel)
theorem wd98 : Cond.fieldLink RX5 30 "PressAndWait$Reader" "place" "I" ∈ wsL_law := List.mem_of_getElem? (i := 98) (by decide +kernel)
theorem wd99 : Cond.fieldLink RX5 33 "PressAndWait$Reader" "text" "[I" ∈ wsL_law := List.mem_of_getElem? (i := 99) (by decide +kernel)
theorem wd100 : Cond.fieldLink RX5 37 "PressAndWait$Reader" "plan" "LPressAndWait$Plan;" ∈ wsL_law := List.mem_of_getElem? (i := 100) (by decide +kernel)
theorem wd101 : Cond.methodLink RX9 59 yX7_init ∈ wsL_law := List.mem_of_getElem? (i := 101) (by decide +kernel)
theorem wd102 : Cond.instanceMethod yX7_init ∈ wsL_law := List.mem_of_getElem? (i := 102) (by decide +kernel)
theorem wd103 : Cond.code yX7_init cX7_init 3 none ∈ wsL_law := List.mem_of_getElem? (i := 103) (by decide +kernel)
theorem wd104 : Cond.methodLink RX7 3 objectInit ∈ wsL_law := List.mem_of_getElem? (i := 104) (by decide +kernel)
theorem wd105 : Cond.fieldLink RX7 9 "PressAndWait$Street" "day" "I" ∈ wsL_law := List.mem_of_getElem? (i := 105) (by decide +kernel)
theorem wd106 : Cond.fieldLink RX7 15 "PressAndWait$Street" "trusts" "[I" ∈ wsL_law := List.mem_of_getElem? (i := 106) (by decide +kernel)
theorem wd107 : Cond.fieldLink RX7 19 "PressAndWait$Street" "rule" "I" ∈ wsL_law := List.mem_of_getElem? (i := 107) (by decide +kernel)
theorem wd108 : Cond.fieldLink RX7 22 "PressAndWait$Street" "green" "I" ∈ wsL_law := List.mem_of_getElem? (i := 108) (by decide +kernel)
theorem wd109 : Cond.fieldLink RX7 25 "PressAndWait$Street" "absent" "I" ∈ wsL_law := List.mem_of_getElem? (i := 109) (by decide +kernel)
theorem wd110 : Cond.fieldLink RX7 28 "PressAndWait$Street" "asksReds" "Z" ∈ wsL_law := List.mem_of_getElem? (i := 110) (by decide +kernel)
theorem wd111 : Cond.fieldLink RX7 32 "PressAndWait$Street" "cars" "[I" ∈ wsL_law := List.mem_of_getElem? (i := 111) (by decide +kernel)
theorem wd112 : Cond.fieldLink RX7 35 "PressAndWait$Street" "gaps" "[I" ∈ wsL_law := List.mem_of_getElem? (i := 112) (by decide +kernel)
theorem wd113 : Cond.fieldLink RX7 38 "PressAndWait$Street" "known" "[I" ∈ wsL_law := List.mem_of_getElem? (i := 113) (by decide +kernel)
theorem wd114 : Cond.fieldLink RX7 41 "PressAndWait$Street" "left" "[I" ∈ wsL_law := List.mem_of_getElem? (i := 114) (by decide +kernel)
theorem wd115 : Cond.fieldLink RX7 44 "PressAndWait$Street" "leaves" "[I" ∈ wsL_law := List.mem_of_getElem? (i := 115) (by decide +kernel)
theorem wd116 : Cond.fieldLink RX7 47 "PressAndWait$Street" "pressed" "I" ∈ wsL_law := List.mem_of_getElem? (i := 116) (by decide +kernel)
theorem wd117 : Cond.fieldLink RX7 50 "PressAndWait$Street" "crossed" "I" ∈ wsL_law := List.mem_of_getElem? (i := 117) (by decide +kernel)
theorem wd118 : Cond.fieldLink RX7 53 "PressAndWait$Street" "went" "I" ∈ wsL_law := List.mem_of_getElem? (i := 118) (by decide +kernel)
theorem wd119 : Cond.fieldLink RX7 56 "PressAndWait$Street" "harmed" "I" ∈ wsL_law := List.mem_of_getElem? (i := 119) (by decide +kernel)
theorem wd120 : Cond.fieldLink RX7 59 "PressAndWait$Street" "machine" "LPressAndWait$Machine;" ∈ wsL_law := List.mem_of_getElem? (i := 120) (by decide +kernel)
theorem wd121 : Cond.fieldLink RX7 63 "PressAndWait$Street" "plan" "LPressAndWait$Plan;" ∈ wsL_law := List.mem_of_getElem? (i := 121) (by decide +kernel)
theorem wd122 : Cond.methodLink RX9 68 yX1_init ∈ wsL_law := List.mem_of_getElem? (i := 122) (by decide +kernel)
theorem wd123 : Cond.instanceMethod yX1_init ∈ wsL_law := List.mem_of_getElem? (i := 123) (by decide +kernel)
theorem wd124 : Cond.code yX1_init cX1_init 2 none ∈ wsL_law := List.mem_of_getElem? (i := 124) (by decide +kernel)
theorem wd125 : Cond.methodLink RX1 3 objectInit ∈ wsL_law := List.mem_of_getElem? (i := 125) (by decide +kernel)
theorem wd126 : Cond.fieldLink RX1 11 "PressAndWait$Choice" "table" "[I" ∈ wsL_law := List.mem_of_getElem? (i := 126) (by decide +kernel)
theorem wd127 : Cond.fieldLink RX1 15 "PressAndWait$Choice" "tableKnown" "Z" ∈ wsL_law := List.mem_of_getElem? (i := 127) (by decide +kernel)
theorem wd128 : Cond.fieldLink RX1 19 "PressAndWait$Choice" "street" "LPressAndWait$Street;" ∈ wsL_law := List.mem_of_getElem? (i := 128) (by decide +kernel)
theorem wd129 : Cond.methodLink RX9 77 yX0_init ∈ wsL_law := List.mem_of_getElem? (i := 129) (by decide +kernel)
theorem wd130 : Cond.instanceMethod yX0_init ∈ wsL_law := List.mem_of_getElem? (i := 130) (by decide +kernel)
theorem wd131 : Cond.code yX0_init cX0_init 2 none ∈ wsL_law := List.mem_of_getElem? (i := 131) (by decide +kernel)
theorem wd132 : Cond.methodLink RX0 3 objectInit ∈ wsL_law := List.mem_of_getElem? (i := 132) (by decide +kernel)
theorem wd133 : Cond.classLink RX0 9 RX6 ∈ wsL_law := List.mem_of_getElem? (i := 133) (by decide +kernel)
theorem wd134 : Cond.fieldLink RX0 12 "PressAndWait$Ahead" "state" "LPressAndWait$State;" ∈ wsL_law := List.mem_of_getElem? (i := 134) (by decide +kernel)
theorem wd135 : Cond.fieldLink RX0 18 "PressAndWait$Ahead" "told" "[I" ∈ wsL_law := List.mem_of_getElem? (i := 135) (by decide +kernel)
theorem wd136 : Cond.fieldLink RX0 22 "PressAndWait$Ahead" "trusts" "[I" ∈ wsL_law := List.mem_of_getElem? (i := 136) (by decide +kernel)
theorem wd137 : Cond.fieldLink RX0 25 "PressAndWait$Ahead" "known" "I" ∈ wsL_law := List.mem_of_getElem? (i := 137) (by decide +kernel)
theorem wd138 : Cond.fieldLink RX0 29 "PressAndWait$Ahead" "street" "LPressAndWait$Street;" ∈ wsL_law := List.mem_of_getElem? (i := 138) (by decide +kernel)
theorem wd139 : Cond.methodLink RX9 84 yX8_init ∈ wsL_law := List.mem_of_getElem? (i := 139) (by decide +kernel)
theorem wd140 : Cond.instanceMethod yX8_init ∈ wsL_law := List.mem_of_getElem? (i := 140) (by decide +kernel)
theorem wd141 : Cond.code yX8_init cX8_init 2 none ∈ wsL_law := List.mem_of_getElem? (i := 141) (by decide +kernel)
theorem wd142 : Cond.methodLink RX8 3 objectInit ∈ wsL_law := List.mem_of_getElem? (i := 142) (by decide +kernel)
theorem wd143 : Cond.fieldLink RX8 9 "PressAndWait$Watch" "seenWalker" "[I" ∈ wsL_law := List.mem_of_getElem? (i := 143) (by decide +kernel)
theorem wd144 : Cond.fieldLink RX8 15 "PressAndWait$Watch" "seenSecond" "[I" ∈ wsL_law := List.mem_of_getElem? (i := 144) (by decide +kernel)
theorem wd145 : Cond.fieldLink RX8 18 "PressAndWait$Watch" "rows" "I" ∈ wsL_law := List.mem_of_getElem? (i := 145) (by decide +kernel)
theorem wd146 : Cond.fieldLink RX8 22 "PressAndWait$Watch" "compared" "Z" ∈ wsL_law := List.mem_of_getElem? (i := 146) (by decide +kernel)
theorem wd147 : Cond.fieldLink RX8 26 "PressAndWait$Watch" "seconds" "[I" ∈ wsL_law := List.mem_of_getElem? (i := 147) (by decide +kernel)
theorem wd148 : Cond.fieldLink RX8 29 "PressAndWait$Watch" "found" "I" ∈ wsL_law := List.mem_of_getElem? (i := 148) (by decide +kernel)
theorem wd149 : Cond.fieldLink RX8 32 "PressAndWait$Watch" "foundRules" "I" ∈ wsL_law := List.mem_of_getElem? (i := 149) (by decide +kernel)
theorem wd150 : Cond.fieldLink RX8 35 "PressAndWait$Watch" "foundGreen" "I" ∈ wsL_law := List.mem_of_getElem? (i := 150) (by decide +kernel)
theorem wd151 : Cond.fieldLink RX8 38 "PressAndWait$Watch" "chosen" "I" ∈ wsL_law := List.mem_of_getElem? (i := 151) (by decide +kernel)
theorem wd152 : Cond.fieldLink RX8 41 "PressAndWait$Watch" "chosenLeft" "I" ∈ wsL_law := List.mem_of_getElem? (i := 152) (by decide +kernel)
theorem wd153 : Cond.fieldLink RX8 44 "PressAndWait$Watch" "street" "LPressAndWait$Street;" ∈ wsL_law := List.mem_of_getElem? (i := 153) (by decide +kernel)
theorem wd157 : Cond.methodLink RX10 1 objectInit ∈ wsL_law := List.mem_of_getElem? (i := 157) (by decide +kernel)
theorem wd158 : Cond.fieldLink RX10 7 "PressAndWaitModel" "tape" "[I" ∈ wsL_law := List.mem_of_getElem? (i := 158) (by decide +kernel)
theorem wd159 : Cond.fieldLink RX10 13 "PressAndWaitModel" "faultPlace" "I" ∈ wsL_law := List.mem_of_getElem? (i := 159) (by decide +kernel)
theorem wd160 : Cond.fieldLink RX10 17 "PressAndWaitModel" "refused" "[I" ∈ wsL_law := List.mem_of_getElem? (i := 160) (by decide +kernel)
theorem wd161 : Cond.arrayClass .char ∈ wsL_law := List.mem_of_getElem? (i := 161) (by decide +kernel)
theorem wd162 : Cond.fieldLink RX10 20 "PressAndWaitModel" "cycleWord" "[C" ∈ wsL_law := List.mem_of_getElem? (i := 162) (by decide +kernel)
theorem wd163 : Cond.fieldLink RX10 24 "PressAndWaitModel" "greenWord" "[C" ∈ wsL_law := List.mem_of_getElem? (i := 163) (by decide +kernel)
theorem wd164 : Cond.fieldLink RX10 27 "PressAndWaitModel" "ruleWord" "[C" ∈ wsL_law := List.mem_of_getElem? (i := 164) (by decide +kernel)
theorem wd165 : Cond.fieldLink RX10 30 "PressAndWaitModel" "leastWord" "[C" ∈ wsL_law := List.mem_of_getElem? (i := 165) (by decide +kernel)
theorem wd166 : Cond.fieldLink RX10 33 "PressAndWaitModel" "kindWord" "[C" ∈ wsL_law := List.mem_of_getElem? (i := 166) (by decide +kernel)
theorem wd167 : Cond.fieldLink RX10 36 "PressAndWaitModel" "calmWord" "[C" ∈ wsL_law := List.mem_of_getElem? (i := 167) (by decide +kernel)
theorem wd168 : Cond.fieldLink RX10 39 "PressAndWaitModel" "paceWord" "[C" ∈ wsL_law := List.mem_of_getElem? (i := 168) (by decide +kernel)
theorem wd169 : Cond.fieldLink RX10 42 "PressAndWaitModel" "trustsWord" "[C" ∈ wsL_law := List.mem_of_getElem? (i := 169) (by decide +kernel)
theorem wd170 : Cond.fieldLink RX10 45 "PressAndWaitModel" "comesWord" "[C" ∈ wsL_law := List.mem_of_getElem? (i := 170) (by decide +kernel)
theorem wd171 : Cond.fieldLink RX10 48 "PressAndWaitModel" "isWord" "[C" ∈ wsL_law := List.mem_of_getElem? (i := 171) (by decide +kernel)
theorem wd172 : Cond.fieldLink RX10 51 "PressAndWaitModel" "atWord" "[C" ∈ wsL_law := List.mem_of_getElem? (i := 172) (by decide +kernel)
theorem wd173 : Cond.fieldLink RX10 54 "PressAndWaitModel" "carWord" "[C" ∈ wsL_law := List.mem_of_getElem? (i := 173) (by decide +kernel)
theorem wd174 : Cond.fieldLink RX10 57 "PressAndWaitModel" "redWord" "[C" ∈ wsL_law := List.mem_of_getElem? (i := 174) (by decide +kernel)
theorem wd175 : Cond.fieldLink RX10 60 "PressAndWaitModel" "learnsWord" "[C" ∈ wsL_law := List.mem_of_getElem? (i := 175) (by decide +kernel)
theorem wd176 : Cond.fieldLink RX10 63 "PressAndWaitModel" "awayWord" "[C" ∈ wsL_law := List.mem_of_getElem? (i := 176) (by decide +kernel)
theorem wd177 : Cond.fieldLink RX10 66 "PressAndWaitModel" "secondWord" "[C" ∈ wsL_law := List.mem_of_getElem? (i := 177) (by decide +kernel)
theorem wd178 : Cond.fieldLink RX10 69 "PressAndWaitModel" "dayWord" "[C" ∈ wsL_law := List.mem_of_getElem? (i := 178) (by decide +kernel)
theorem wd179 : Cond.fieldLink RX10 72 "PressAndWaitModel" "phaseWord" "[C" ∈ wsL_law := List.mem_of_getElem? (i := 179) (by decide +kernel)
theorem wd180 : Cond.fieldLink RX10 75 "PressAndWaitModel" "waitedWord" "[C" ∈ wsL_law := List.mem_of_getElem? (i := 180) (by decide +kernel)
theorem wd181 : Cond.fieldLink RX10 78 "PressAndWaitModel" "gapWord" "[C" ∈ wsL_law := List.mem_of_getElem? (i := 181) (by decide +kernel)
theorem wd182 : Cond.fieldLink RX10 81 "PressAndWaitModel" "redsWord" "[C" ∈ wsL_law := List.mem_of_getElem? (i := 182) (by decide +kernel)
theorem wd183 : Cond.fieldLink RX10 84 "PressAndWaitModel" "numberWord" "[C" ∈ wsL_law := List.mem_of_getElem? (i := 183) (by decide +kernel)
theorem wd184 : Cond.fieldLink RX10 87 "PressAndWaitModel" "wentWord" "[C" ∈ wsL_law := List.mem_of_getElem? (i := 184) (by decide +kernel)
theorem wd185 : Cond.fieldLink RX10 90 "PressAndWaitModel" "harmWord" "[C" ∈ wsL_law := List.mem_of_getElem? (i := 185) (by decide +kernel)
theorem wd186 : Cond.fieldLink RX10 93 "PressAndWaitModel" "orWord" "[C" ∈ wsL_law := List.mem_of_getElem? (i := 186) (by decide +kernel)
theorem wd187 : Cond.fieldLink RX10 96 "PressAndWaitModel" "andWord" "[C" ∈ wsL_law := List.mem_of_getElem? (i := 187) (by decide +kernel)
theorem wd188 : Cond.fieldLink RX10 99 "PressAndWaitModel" "notWord" "[C" ∈ wsL_law := List.mem_of_getElem? (i := 188) (by decide +kernel)
theorem wd189 : Cond.fieldLink RX10 102 "PressAndWaitModel" "allWord" "[C" ∈ wsL_law := List.mem_of_getElem? (i := 189) (by decide +kernel)
theorem wd190 : Cond.fieldLink RX10 105 "PressAndWaitModel" "minWord" "[C" ∈ wsL_law := List.mem_of_getElem? (i := 190) (by decide +kernel)
theorem wd191 : Cond.fieldLink RX10 108 "PressAndWaitModel" "maxWord" "[C" ∈ wsL_law := List.mem_of_getElem? (i := 191) (by decide +kernel)
theorem wd192 : Cond.fieldLink RX10 111 "PressAndWaitModel" "many" "[I" ∈ wsL_law := List.mem_of_getElem? (i := 192) (by decide +kernel)
theorem wd193 : Cond.arrayClass .long ∈ wsL_law := List.mem_of_getElem? (i := 193) (by decide +kernel)
theorem wd194 : Cond.fieldLink RX10 114 "PressAndWaitModel" "names" "[J" ∈ wsL_law := List.mem_of_getElem? (i := 194) (by decide +kernel)
theorem wd195 : Cond.fieldLink RX10 118 "PressAndWaitModel" "bar" "[I" ∈ wsL_law := List.mem_of_getElem? (i := 195) (by decide +kernel)
theorem wd196 : Cond.fieldLink RX10 121 "PressAndWaitModel" "kinds" "[I" ∈ wsL_law := List.mem_of_getElem? (i := 196) (by decide +kernel)
theorem wd197 : Cond.fieldLink RX10 124 "PressAndWaitModel" "trusted" "[I" ∈ wsL_law := List.mem_of_getElem? (i := 197) (by decide +kernel)
theorem wd198 : Cond.fieldLink RX10 127 "PressAndWaitModel" "walkers" "[I" ∈ wsL_law := List.mem_of_getElem? (i := 198) (by decide +kernel)
theorem wd199 : Cond.fieldLink RX10 130 "PressAndWaitModel" "codeFrom" "[I" ∈ wsL_law := List.mem_of_getElem? (i := 199) (by decide +kernel)
theorem wd200 : Cond.fieldLink RX10 133 "PressAndWaitModel" "codeEnd" "[I" ∈ wsL_law := List.mem_of_getElem? (i := 200) (by decide +kernel)
theorem wd201 : Cond.fieldLink RX10 136 "PressAndWaitModel" "codes" "[I" ∈ wsL_law := List.mem_of_getElem? (i := 201) (by decide +kernel)
theorem wd202 : Cond.fieldLink RX10 139 "PressAndWaitModel" "now" "[I" ∈ wsL_law := List.mem_of_getElem? (i := 202) (by decide +kernel)
theorem wd203 : Cond.fieldLink RX10 142 "PressAndWaitModel" "aside" "[I" ∈ wsL_law := List.mem_of_getElem? (i := 203) (by decide +kernel)
theorem wd204 : Cond.arrayClass .boolean ∈ wsL_law := List.mem_of_getElem? (i := 204) (by decide +kernel)
theorem wd205 : Cond.fieldLink RX10 145 "PressAndWaitModel" "isCar" "[Z" ∈ wsL_law := List.mem_of_getElem? (i := 205) (by decide +kernel)
theorem wd206 : Cond.fieldLink RX10 149 "PressAndWaitModel" "gaps" "[I" ∈ wsL_law := List.mem_of_getElem? (i := 206) (by decide +kernel)
theorem wd207 : Cond.fieldLink RX10 152 "PressAndWaitModel" "isGreen" "[Z" ∈ wsL_law := List.mem_of_getElem? (i := 207) (by decide +kernel)
theorem wd208 : Cond.fieldLink RX10 155 "PressAndWaitModel" "isHere" "[Z" ∈ wsL_law := List.mem_of_getElem? (i := 208) (by decide +kernel)
theorem wd209 : Cond.fieldLink RX10 158 "PressAndWaitModel" "crosses" "[I" ∈ wsL_law := List.mem_of_getElem? (i := 209) (by decide +kernel)
theorem wd210 : Cond.fieldLink RX10 161 "PressAndWaitModel" "waits" "[I" ∈ wsL_law := List.mem_of_getElem? (i := 210) (by decide +kernel)
theorem wd211 : Cond.fieldLink RX10 164 "PressAndWaitModel" "goes" "[Z" ∈ wsL_law := List.mem_of_getElem? (i := 211) (by decide +kernel)
theorem wd212 : Cond.fieldLink RX10 167 "PressAndWaitModel" "harms" "[Z" ∈ wsL_law := List.mem_of_getElem? (i := 212) (by decide +kernel)
theorem wd213 : Cond.fieldLink RX10 170 "PressAndWaitModel" "presses" "[Z" ∈ wsL_law := List.mem_of_getElem? (i := 213) (by decide +kernel)
theorem wd214 : Cond.fieldLink RX10 173 "PressAndWaitModel" "crossedIn" "[Z" ∈ wsL_law := List.mem_of_getElem? (i := 214) (by decide +kernel)
theorem wd215 : Cond.fieldLink RX10 176 "PressAndWaitModel" "rows" "[I" ∈ wsL_law := List.mem_of_getElem? (i := 215) (by decide +kernel)
theorem wd216 : Cond.fieldLink RX10 179 "PressAndWaitModel" "when" "[I" ∈ wsL_law := List.mem_of_getElem? (i := 216) (by decide +kernel)
theorem wd217 : Cond.fieldLink RX10 182 "PressAndWaitModel" "kept0" "[I" ∈ wsL_law := List.mem_of_getElem? (i := 217) (by decide +kernel)
theorem wd218 : Cond.fieldLink RX10 185 "PressAndWaitModel" "seeded" "J" ∈ wsL_law := List.mem_of_getElem? (i := 218) (by decide +kernel)
theorem wd219 : Cond.fieldLink RX10 189 "PressAndWaitModel" "firstAsked" "[C" ∈ wsL_law := List.mem_of_getElem? (i := 219) (by decide +kernel)
theorem wd220 : Cond.fieldLink RX10 192 "PressAndWaitModel" "lastAsked" "[C" ∈ wsL_law := List.mem_of_getElem? (i := 220) (by decide +kernel)
theorem wd221 : Cond.fieldLink RX10 195 "PressAndWaitModel" "oftenAsked" "[C" ∈ wsL_law := List.mem_of_getElem? (i := 221) (by decide +kernel)
theorem wd222 : Cond.fieldLink RX10 198 "PressAndWaitModel" "totalAsked" "[C" ∈ wsL_law := List.mem_of_getElem? (i := 222) (by decide +kernel)
theorem wd223 : Cond.fieldLink RX10 201 "PressAndWaitModel" "mostAsked" "[C" ∈ wsL_law := List.mem_of_getElem? (i := 223) (by decide +kernel)
theorem wd224 : Cond.fieldLink RX10 204 "PressAndWaitModel" "leastAsked" "[C" ∈ wsL_law := List.mem_of_getElem? (i := 224) (by decide +kernel)
theorem wd225 : Cond.fieldLink RX10 207 "PressAndWaitModel" "notAsked" "[C" ∈ wsL_law := List.mem_of_getElem? (i := 225) (by decide +kernel)
theorem wd226 : Cond.fieldLink RX10 210 "PressAndWaitModel" "andAsked" "[C" ∈ wsL_law := List.mem_of_getElem? (i := 226) (by decide +kernel)
theorem wd227 : Cond.fieldLink RX10 213 "PressAndWaitModel" "orAsked" "[C" ∈ wsL_law := List.mem_of_getElem? (i := 227) (by decide +kernel)
theorem wd228 : Cond.fieldLink RX10 216 "PressAndWaitModel" "allAsked" "[C" ∈ wsL_law := List.mem_of_getElem? (i := 228) (by decide +kernel)
theorem wd229 : Cond.fieldLink RX10 219 "PressAndWaitModel" "minAsked" "[C" ∈ wsL_law := List.mem_of_getElem? (i := 229) (by decide +kernel)
theorem wd230 : Cond.fieldLink RX10 222 "PressAndWaitModel" "maxAsked" "[C" ∈ wsL_law := List.mem_of_getElem? (i := 230) (by decide +kernel)
theorem wd231 : Cond.fieldLink RX10 225 "PressAndWaitModel" "secondAsked" "[C" ∈ wsL_law := List.mem_of_getElem? (i := 231) (by decide +kernel)
theorem wd232 : Cond.fieldLink RX10 228 "PressAndWaitModel" "dayAsked" "[C" ∈ wsL_law := List.mem_of_getElem? (i := 232) (by decide +kernel)
theorem wd233 : Cond.fieldLink RX10 231 "PressAndWaitModel" "phaseAsked" "[C" ∈ wsL_law := List.mem_of_getElem? (i := 233) (by decide +kernel)
theorem wd234 : Cond.fieldLink RX10 234 "PressAndWaitModel" "waitedAsked" "[C" ∈ wsL_law := List.mem_of_getElem? (i := 234) (by decide +kernel)
theorem wd235 : Cond.fieldLink RX10 237 "PressAndWaitModel" "calmAsked" "[C" ∈ wsL_law := List.mem_of_getElem? (i := 235) (by decide +kernel)
theorem wd236 : Cond.fieldLink RX10 240 "PressAndWaitModel" "paceAsked" "[C" ∈ wsL_law := List.mem_of_getElem? (i := 236) (by decide +kernel)
theorem wd237 : Cond.fieldLink RX10 243 "PressAndWaitModel" "trustsAsked" "[C" ∈ wsL_law := List.mem_of_getElem? (i := 237) (by decide +kernel)
theorem wd238 : Cond.fieldLink RX10 246 "PressAndWaitModel" "gapAsked" "[C" ∈ wsL_law := List.mem_of_getElem? (i := 238) (by decide +kernel)
theorem wd239 : Cond.fieldLink RX10 249 "PressAndWaitModel" "redsAsked" "[C" ∈ wsL_law := List.mem_of_getElem? (i := 239) (by decide +kernel)
theorem wd240 : Cond.fieldLink RX10 252 "PressAndWaitModel" "numberAsked" "[C" ∈ wsL_law := List.mem_of_getElem? (i := 240) (by decide +kernel)
theorem wd241 : Cond.fieldLink RX10 255 "PressAndWaitModel" "wentAsked" "[C" ∈ wsL_law := List.mem_of_getElem? (i := 241) (by decide +kernel)
theorem wd242 : Cond.fieldLink RX10 258 "PressAndWaitModel" "harmAsked" "[C" ∈ wsL_law := List.mem_of_getElem? (i := 242) (by decide +kernel)
theorem wd243 : Cond.fieldLink RX10 261 "PressAndWaitModel" "kindofAsked" "[C" ∈ wsL_law := List.mem_of_getElem? (i := 243) (by decide +kernel)
theorem wd244 : Cond.fieldLink RX10 264 "PressAndWaitModel" "qCodes" "[I" ∈ wsL_law := List.mem_of_getElem? (i := 244) (by decide +kernel)
theorem wd245 : Cond.fieldLink RX10 267 "PressAndWaitModel" "qWait" "[I" ∈ wsL_law := List.mem_of_getElem? (i := 245) (by decide +kernel)
theorem wd246 : Cond.fieldLink RX10 270 "PressAndWaitModel" "qPile" "[J" ∈ wsL_law := List.mem_of_getElem? (i := 246) (by decide +kernel)
theorem wd247 : Cond.fieldLink RX10 273 "PressAndWaitModel" "octet" "[I" ∈ wsL_law := List.mem_of_getElem? (i := 247) (by decide +kernel)
theorem wd252 : Cond.methodLink RX9 102 yX9_refuse ∈ wsL_law := List.mem_of_getElem? (i := 252) (by decide +kernel)
theorem wd253 : Cond.instanceMethod yX9_refuse ∈ wsL_law := List.mem_of_getElem? (i := 253) (by decide +kernel)
theorem wd254 : Cond.selects RX9 yX9_refuse yX9_refuse ∈ wsL_law := List.mem_of_getElem? (i := 254) (by decide +kernel)
theorem wd255 : Cond.code yX9_refuse cX9_refuse 2 (some .int) ∈ wsL_law := List.mem_of_getElem? (i := 255) (by decide +kernel)
theorem wd256 : Cond.methodLink RX9 106 yX9_putBytes ∈ wsL_law := List.mem_of_getElem? (i := 256) (by decide +kernel)
theorem wd257 : Cond.instanceMethod yX9_putBytes ∈ wsL_law := List.mem_of_getElem? (i := 257) (by decide +kernel)
theorem wd258 : Cond.selects RX9 yX9_putBytes yX9_putBytes ∈ wsL_law := List.mem_of_getElem? (i := 258) (by decide +kernel)
theorem wd259 : Cond.code yX9_putBytes cX9_putBytes 3 none ∈ wsL_law := List.mem_of_getElem? (i := 259) (by decide +kernel)
theorem wd264 : Cond.fieldLink RX10 276 "PressAndWaitModel" "taped" "I" ∈ wsL_law := List.mem_of_getElem? (i := 264) (by decide +kernel)
theorem wd269 : Cond.methodLink RX9 110 yX9_deny ∈ wsL_law := List.mem_of_getElem? (i := 269) (by decide +kernel)
theorem wd270 : Cond.instanceMethod yX9_deny ∈ wsL_law := List.mem_of_getElem? (i := 270) (by decide +kernel)
theorem wd271 : Cond.selects RX9 yX9_deny yX9_deny ∈ wsL_law := List.mem_of_getElem? (i := 271) (by decide +kernel)
theorem wd272 : Cond.code yX9_deny cX9_deny 2 (some .boolean) ∈ wsL_law := List.mem_of_getElem? (i := 272) (by decide +kernel)
theorem wd281 : Cond.fieldLink RX9 122 "PressAndWait$Reader" "fault" "I" ∈ wsL_law := List.mem_of_getElem? (i := 281) (by decide +kernel)
theorem wd283 : Cond.methodLink RX9 114 yX9_takeTape ∈ wsL_law := List.mem_of_getElem? (i := 283) (by decide +kernel)
theorem wd284 : Cond.instanceMethod yX9_takeTape ∈ wsL_law := List.mem_of_getElem? (i := 284) (by decide +kernel)
theorem wd285 : Cond.selects RX9 yX9_takeTape yX9_takeTape ∈ wsL_law := List.mem_of_getElem? (i := 285) (by decide +kernel)
theorem wd286 : Cond.code yX9_takeTape cX9_takeTape 2 (some .int) ∈ wsL_law := List.mem_of_getElem? (i := 286) (by decide +kernel)
theorem wd287 : Cond.methodLink RX9 118 yX5_readCrossing ∈ wsL_law := List.mem_of_getElem? (i := 287) (by decide +kernel)
theorem wd288 : Cond.instanceMethod yX5_readCrossing ∈ wsL_law := List.mem_of_getElem? (i := 288) (by decide +kernel)
theorem wd289 : Cond.selects RX5 yX5_readCrossing yX5_readCrossing ∈ wsL_law := List.mem_of_getElem? (i := 289) (by decide +kernel)
theorem wd290 : Cond.code yX5_readCrossing cX5_readCrossing 4 none ∈ wsL_law := List.mem_of_getElem? (i := 290) (by decide +kernel)
theorem wd292 : Cond.fieldLink RX5 81 "PressAndWait$Plan" "statements" "I" ∈ wsL_law := List.mem_of_getElem? (i := 292) (by decide +kernel)
theorem wd293 : Cond.methodLink RX5 41 yX5_begin ∈ wsL_law := List.mem_of_getElem? (i := 293) (by decide +kernel)
theorem wd294 : Cond.instanceMethod yX5_begin ∈ wsL_law := List.mem_of_getElem? (i := 294) (by decide +kernel)
theorem wd295 : Cond.selects RX5 yX5_begin yX5_begin ∈ wsL_law := List.mem_of_getElem? (i := 295) (by decide +kernel)
theorem wd296 : Cond.code yX5_begin cX5_begin 3 none ∈ wsL_law := List.mem_of_getElem? (i := 296) (by decide +kernel)
theorem wd297 : Cond.methodLink RX5 99 Lib.Math.min.name ∈ wsL_law := List.mem_of_getElem? (i := 297) (by decide +kernel)
theorem wd298 : Cond.static Lib.Math.min.name ∈ wsL_law := List.mem_of_getElem? (i := 298) (by decide +kernel)
theorem wd299 : Cond.initialized "java/lang/Math" ∈ wsL_law := List.mem_of_getElem? (i := 299) (by decide +kernel)
theorem wd300 : Cond.code Lib.Math.min.name Lib.Math.min.code 2 (some .int) ∈ wsL_law := List.mem_of_getElem? (i := 300) (by decide +kernel)
theorem wd301 : Cond.methodLink RX5 96 yX4_clear ∈ wsL_law := List.mem_of_getElem? (i := 301) (by decide +kernel)
theorem wd302 : Cond.instanceMethod yX4_clear ∈ wsL_law := List.mem_of_getElem? (i := 302) (by decide +kernel)
theorem wd303 : Cond.selects RX4 yX4_clear yX4_clear ∈ wsL_law := List.mem_of_getElem? (i := 303) (by decide +kernel)
theorem wd304 : Cond.code yX4_clear cX4_clear 1 none ∈ wsL_law := List.mem_of_getElem? (i := 304) (by decide +kernel)
theorem wd305 : Cond.fieldLink RX4 39 "PressAndWait$Plan" "cycle" "I" ∈ wsL_law := List.mem_of_getElem? (i := 305) (by decide +kernel)
theorem wd306 : Cond.fieldLink RX4 43 "PressAndWait$Plan" "away" "I" ∈ wsL_law := List.mem_of_getElem? (i := 306) (by decide +kernel)
theorem wd307 : Cond.fieldLink RX4 46 "PressAndWait$Plan" "statements" "I" ∈ wsL_law := List.mem_of_getElem? (i := 307) (by decide +kernel)
theorem wd308 : Cond.fieldLink RX4 49 "PressAndWait$Plan" "kinds" "I" ∈ wsL_law := List.mem_of_getElem? (i := 308) (by decide +kernel)
theorem wd309 : Cond.fieldLink RX4 52 "PressAndWait$Plan" "walkers" "I" ∈ wsL_law := List.mem_of_getElem? (i := 309) (by decide +kernel)
theorem wd310 : Cond.fieldLink RX4 55 "PressAndWait$Plan" "size" "I" ∈ wsL_law := List.mem_of_getElem? (i := 310) (by decide +kernel)
theorem wd311 : Cond.methodLink RX4 58 yJ7_fill_53178 ∈ wsL_law := List.mem_of_getElem? (i := 311) (by decide +kernel)
theorem wd312 : Cond.static yJ7_fill_53178 ∈ wsL_law := List.mem_of_getElem? (i := 312) (by decide +kernel)
theorem wd313 : Cond.initialized RJ7 ∈ wsL_law := List.mem_of_getElem? (i := 313) (by decide +kernel)
theorem wd314 : Cond.code yJ7_fill_53178 cJ7_fill_53178 4 none ∈ wsL_law := List.mem_of_getElem? (i := 314) (by decide +kernel)
theorem wd315 : Cond.methodLink RX5 86 yX5_moveTo ∈ wsL_law := List.mem_of_getElem? (i := 315) (by decide +kernel)
theorem wd316 : Cond.instanceMethod yX5_moveTo ∈ wsL_law := List.mem_of_getElem? (i := 316) (by decide +kernel)
theorem wd317 : Cond.selects RX5 yX5_moveTo yX5_moveTo ∈ wsL_law := List.mem_of_getElem? (i := 317) (by decide +kernel)
theorem wd318 : Cond.code yX5_moveTo cX5_moveTo 3 none ∈ wsL_law := List.mem_of_getElem? (i := 318) (by decide +kernel)
theorem wd319 : Cond.methodLink RX5 252 yX5_sortOf ∈ wsL_law := List.mem_of_getElem? (i := 319) (by decide +kernel)
theorem wd320 : Cond.instanceMethod yX5_sortOf ∈ wsL_law := List.mem_of_getElem? (i := 320) (by decide +kernel)
theorem wd321 : Cond.selects RX5 yX5_sortOf yX5_sortOf ∈ wsL_law := List.mem_of_getElem? (i := 321) (by decide +kernel)
theorem wd322 : Cond.code yX5_sortOf cX5_sortOf 2 (some .int) ∈ wsL_law := List.mem_of_getElem? (i := 322) (by decide +kernel)
theorem wd323 : Cond.methodLink RX5 45 yX5_firstStatement ∈ wsL_law := List.mem_of_getElem? (i := 323) (by decide +kernel)
theorem wd324 : Cond.instanceMethod yX5_firstStatement ∈ wsL_law := List.mem_of_getElem? (i := 324) (by decide +kernel)
theorem wd325 : Cond.selects RX5 yX5_firstStatement yX5_firstStatement ∈ wsL_law := List.mem_of_getElem? (i := 325) (by decide +kernel)
theorem wd326 : Cond.code yX5_firstStatement cX5_firstStatement 1 none ∈ wsL_law := List.mem_of_getElem? (i := 326) (by decide +kernel)
theorem wd327 : Cond.fieldLink RX5 107 "PressAndWait$Plan" "cycle" "I" ∈ wsL_law := List.mem_of_getElem? (i := 327) (by decide +kernel)
theorem wd328 : Cond.fieldLink RX5 111 "PressAndWait$Plan" "green" "I" ∈ wsL_law := List.mem_of_getElem? (i := 328) (by decide +kernel)
theorem wd329 : Cond.fieldLink RX5 115 "PressAndWait$Plan" "rule" "I" ∈ wsL_law := List.mem_of_getElem? (i := 329) (by decide +kernel)
theorem wd330 : Cond.fieldLink RX5 119 "PressAndWait$Plan" "least" "I" ∈ wsL_law := List.mem_of_getElem? (i := 330) (by decide +kernel)
theorem wd331 : Cond.methodLink RX5 70 yX5_numberBehind ∈ wsL_law := List.mem_of_getElem? (i := 331) (by decide +kernel)
theorem wd332 : Cond.instanceMethod yX5_numberBehind ∈ wsL_law := List.mem_of_getElem? (i := 332) (by decide +kernel)
theorem wd333 : Cond.selects RX5 yX5_numberBehind yX5_numberBehind ∈ wsL_law := List.mem_of_getElem? (i := 333) (by decide +kernel)
theorem wd334 : Cond.code yX5_numberBehind cX5_numberBehind 4 (some .int) ∈ wsL_law := List.mem_of_getElem? (i := 334) (by decide +kernel)
theorem wd335 : Cond.methodLink RX5 144 yX5_needWord ∈ wsL_law := List.mem_of_getElem? (i := 335) (by decide +kernel)
theorem wd336 : Cond.instanceMethod yX5_needWord ∈ wsL_law := List.mem_of_getElem? (i := 336) (by decide +kernel)
theorem wd337 : Cond.selects RX5 yX5_needWord yX5_needWord ∈ wsL_law := List.mem_of_getElem? (i := 337) (by decide +kernel)
theorem wd338 : Cond.code yX5_needWord cX5_needWord 2 none ∈ wsL_law := List.mem_of_getElem? (i := 338) (by decide +kernel)
theorem wd339 : Cond.methodLink RX5 54 yX5_wordIn ∈ wsL_law := List.mem_of_getElem? (i := 339) (by decide +kernel)
theorem wd340 : Cond.instanceMethod yX5_wordIn ∈ wsL_law := List.mem_of_getElem? (i := 340) (by decide +kernel)
theorem wd341 : Cond.selects RX5 yX5_wordIn yX5_wordIn ∈ wsL_law := List.mem_of_getElem? (i := 341) (by decide +kernel)
theorem wd342 : Cond.code yX5_wordIn cX5_wordIn 6 (some .int) ∈ wsL_law := List.mem_of_getElem? (i := 342) (by decide +kernel)
theorem wd392 : Cond.methodLink RX5 78 yX5_fail ∈ wsL_law := List.mem_of_getElem? (i := 392) (by decide +kernel)
theorem wd393 : Cond.instanceMethod yX5_fail ∈ wsL_law := List.mem_of_getElem? (i := 393) (by decide +kernel)
theorem wd394 : Cond.selects RX5 yX5_fail yX5_fail ∈ wsL_law := List.mem_of_getElem? (i := 394) (by decide +kernel)
theorem wd395 : Cond.code yX5_fail cX5_fail 3 none ∈ wsL_law := List.mem_of_getElem? (i := 395) (by decide +kernel)
theorem wd396 : Cond.methodLink RX5 168 yX5_number ∈ wsL_law := List.mem_of_getElem? (i := 396) (by decide +kernel)
theorem wd397 : Cond.instanceMethod yX5_number ∈ wsL_law := List.mem_of_getElem? (i := 397) (by decide +kernel)
theorem wd398 : Cond.selects RX5 yX5_number yX5_number ∈ wsL_law := List.mem_of_getElem? (i := 398) (by decide +kernel)
theorem wd399 : Cond.code yX5_number cX5_number 5 (some .int) ∈ wsL_law := List.mem_of_getElem? (i := 399) (by decide +kernel)
theorem wd400 : Cond.methodLink RX5 48 yX5_need ∈ wsL_law := List.mem_of_getElem? (i := 400) (by decide +kernel)
theorem wd401 : Cond.instanceMethod yX5_need ∈ wsL_law := List.mem_of_getElem? (i := 401) (by decide +kernel)
theorem wd402 : Cond.selects RX5 yX5_need yX5_need ∈ wsL_law := List.mem_of_getElem? (i := 402) (by decide +kernel)
theorem wd403 : Cond.code yX5_need cX5_need 2 none ∈ wsL_law := List.mem_of_getElem? (i := 403) (by decide +kernel)
theorem wd404 : Cond.methodLink RX5 213 yX5_sees ∈ wsL_law := List.mem_of_getElem? (i := 404) (by decide +kernel)
theorem wd405 : Cond.instanceMethod yX5_sees ∈ wsL_law := List.mem_of_getElem? (i := 405) (by decide +kernel)
theorem wd406 : Cond.selects RX5 yX5_sees yX5_sees ∈ wsL_law := List.mem_of_getElem? (i := 406) (by decide +kernel)
theorem wd407 : Cond.code yX5_sees cX5_sees 2 (some .boolean) ∈ wsL_law := List.mem_of_getElem? (i := 407) (by decide +kernel)
theorem wd551 : Cond.fieldLink RX10 288 "PressAndWaitModel" "end" "I" ∈ wsL_law := List.mem_of_getElem? (i := 551) (by decide +kernel)
theorem wd552 : Cond.fieldLink RX10 285 "PressAndWaitModel" "at" "I" ∈ wsL_law := List.mem_of_getElem? (i := 552) (by decide +kernel)
theorem wd553 : Cond.fieldLink RX10 299 "PressAndWaitModel" "ended" "I" ∈ wsL_law := List.mem_of_getElem? (i := 553) (by decide +kernel)
theorem wd554 : Cond.fieldLink RX10 279 "PressAndWaitModel" "bad" "I" ∈ wsL_law := List.mem_of_getElem? (i := 554) (by decide +kernel)
theorem wd555 : Cond.fieldLink RX10 282 "PressAndWaitModel" "badPlace" "I" ∈ wsL_law := List.mem_of_getElem? (i := 555) (by decide +kernel)
theorem wd556 : Cond.fieldLink RX10 387 "PressAndWaitModel" "coded" "I" ∈ wsL_law := List.mem_of_getElem? (i := 556) (by decide +kernel)
theorem wd557 : Cond.fieldLink RX10 402 "PressAndWaitModel" "awayTold" "I" ∈ wsL_law := List.mem_of_getElem? (i := 557) (by decide +kernel)
theorem wd558 : Cond.fieldLink RX10 390 "PressAndWaitModel" "statements" "I" ∈ wsL_law := List.mem_of_getElem? (i := 558) (by decide +kernel)
theorem wd559 : Cond.fieldLink RX10 411 "PressAndWaitModel" "fault" "I" ∈ wsL_law := List.mem_of_getElem? (i := 559) (by decide +kernel)
theorem wd560 : Cond.methodLink RX10 405 yX10_barTold ∈ wsL_law := List.mem_of_getElem? (i := 560) (by decide +kernel)
theorem wd561 : Cond.instanceMethod yX10_barTold ∈ wsL_law := List.mem_of_getElem? (i := 561) (by decide +kernel)
theorem wd562 : Cond.selects RX10 yX10_barTold yX10_barTold ∈ wsL_law := List.mem_of_getElem? (i := 562) (by decide +kernel)
theorem wd563 : Cond.code yX10_barTold cX10_barTold 1 none ∈ wsL_law := List.mem_of_getElem? (i := 563) (by decide +kernel)
theorem wd564 : Cond.methodLink RX10 350 yX10_asks ∈ wsL_law := List.mem_of_getElem? (i := 564) (by decide +kernel)
theorem wd565 : Cond.instanceMethod yX10_asks ∈ wsL_law := List.mem_of_getElem? (i := 565) (by decide +kernel)
theorem wd566 : Cond.selects RX10 yX10_asks yX10_asks ∈ wsL_law := List.mem_of_getElem? (i := 566) (by decide +kernel)
theorem wd567 : Cond.code yX10_asks cX10_asks 2 none ∈ wsL_law := List.mem_of_getElem? (i := 567) (by decide +kernel)
theorem wd568 : Cond.methodLink RX10 305 yX10_takes ∈ wsL_law := List.mem_of_getElem? (i := 568) (by decide +kernel)
theorem wd569 : Cond.instanceMethod yX10_takes ∈ wsL_law := List.mem_of_getElem? (i := 569) (by decide +kernel)
theorem wd570 : Cond.selects RX10 yX10_takes yX10_takes ∈ wsL_law := List.mem_of_getElem? (i := 570) (by decide +kernel)
theorem wd571 : Cond.code yX10_takes cX10_takes 2 (some .boolean) ∈ wsL_law := List.mem_of_getElem? (i := 571) (by decide +kernel)
theorem wd572 : Cond.methodLink RX10 302 yX10_isHere ∈ wsL_law := List.mem_of_getElem? (i := 572) (by decide +kernel)
theorem wd573 : Cond.instanceMethod yX10_isHere ∈ wsL_law := List.mem_of_getElem? (i := 573) (by decide +kernel)
theorem wd574 : Cond.selects RX10 yX10_isHere yX10_isHere ∈ wsL_law := List.mem_of_getElem? (i := 574) (by decide +kernel)
theorem wd575 : Cond.code yX10_isHere cX10_isHere 4 (some .boolean) ∈ wsL_law := List.mem_of_getElem? (i := 575) (by decide +kernel)
theorem wd576 : Cond.methodLink RX10 291 yX10_look ∈ wsL_law := List.mem_of_getElem? (i := 576) (by decide +kernel)
theorem wd577 : Cond.instanceMethod yX10_look ∈ wsL_law := List.mem_of_getElem? (i := 577) (by decide +kernel)
theorem wd578 : Cond.selects RX10 yX10_look yX10_look ∈ wsL_law := List.mem_of_getElem? (i := 578) (by decide +kernel)
theorem wd579 : Cond.code yX10_look cX10_look 1 (some .int) ∈ wsL_law := List.mem_of_getElem? (i := 579) (by decide +kernel)
theorem wd580 : Cond.methodLink RX10 295 yX10_isLetter ∈ wsL_law := List.mem_of_getElem? (i := 580) (by decide +kernel)
theorem wd581 : Cond.static yX10_isLetter ∈ wsL_law := List.mem_of_getElem? (i := 581) (by decide +kernel)
theorem wd582 : Cond.code yX10_isLetter cX10_isLetter 1 (some .boolean) ∈ wsL_law := List.mem_of_getElem? (i := 582) (by decide +kernel)
theorem wd583 : Cond.methodLink RX10 308 yX10_fail ∈ wsL_law := List.mem_of_getElem? (i := 583) (by decide +kernel)
theorem wd584 : Cond.instanceMethod yX10_fail ∈ wsL_law := List.mem_of_getElem? (i := 584) (by decide +kernel)
theorem wd585 : Cond.selects RX10 yX10_fail yX10_fail ∈ wsL_law := List.mem_of_getElem? (i := 585) (by decide +kernel)
theorem wd586 : Cond.code yX10_fail cX10_fail 3 none ∈ wsL_law := List.mem_of_getElem? (i := 586) (by decide +kernel)
theorem wd587 : Cond.methodLink RX10 354 yX10_number ∈ wsL_law := List.mem_of_getElem? (i := 587) (by decide +kernel)
theorem wd588 : Cond.instanceMethod yX10_number ∈ wsL_law := List.mem_of_getElem? (i := 588) (by decide +kernel)
theorem wd589 : Cond.selects RX10 yX10_number yX10_number ∈ wsL_law := List.mem_of_getElem? (i := 589) (by decide +kernel)
theorem wd590 : Cond.code yX10_number cX10_number 5 (some .int) ∈ wsL_law := List.mem_of_getElem? (i := 590) (by decide +kernel)
theorem wd594 : Cond.methodLink RX10 318 yX10_isIn ∈ wsL_law := List.mem_of_getElem? (i := 594) (by decide +kernel)
theorem wd595 : Cond.static yX10_isIn ∈ wsL_law := List.mem_of_getElem? (i := 595) (by decide +kernel)
theorem wd596 : Cond.code yX10_isIn cX10_isIn 6 (some .boolean) ∈ wsL_law := List.mem_of_getElem? (i := 596) (by decide +kernel)
theorem wd597 : Cond.methodLink RX10 358 yX10_asksSign ∈ wsL_law := List.mem_of_getElem? (i := 597) (by decide +kernel)
theorem wd598 : Cond.instanceMethod yX10_asksSign ∈ wsL_law := List.mem_of_getElem? (i := 598) (by decide +kernel)
theorem wd599 : Cond.selects RX10 yX10_asksSign yX10_asksSign ∈ wsL_law := List.mem_of_getElem? (i := 599) (by decide +kernel)
theorem wd600 : Cond.code yX10_asksSign cX10_asksSign 2 none ∈ wsL_law := List.mem_of_getElem? (i := 600) (by decide +kernel)
theorem wd735 : Cond.fieldLink RX10 417 "PressAndWaitModel" "isCrossing" "Z" ∈ wsL_law := List.mem_of_getElem? (i := 735) (by decide +kernel)
theorem wd737 : Cond.fieldLink RX10 424 "PressAndWaitModel" "undoable" "I" ∈ wsL_law := List.mem_of_getElem? (i := 737) (by decide +kernel)
theorem wd738 : Cond.fieldLink RX10 427 "PressAndWaitModel" "rowMany" "I" ∈ wsL_law := List.mem_of_getElem? (i := 738) (by decide +kernel)
theorem wd743 : Cond.fieldLink RX9 142 "PressAndWait$Reader" "place" "I" ∈ wsL_law := List.mem_of_getElem? (i := 743) (by decide +kernel)
theorem wd752 : Cond.fieldLink RX9 145 "PressAndWait$Plan" "cycle" "I" ∈ wsL_law := List.mem_of_getElem? (i := 752) (by decide +kernel)
theorem wd753 : Cond.fieldLink RX9 148 "PressAndWait$Plan" "kinds" "I" ∈ wsL_law := List.mem_of_getElem? (i := 753) (by decide +kernel)
theorem wd754 : Cond.fieldLink RX9 151 "PressAndWait$Plan" "walkers" "I" ∈ wsL_law := List.mem_of_getElem? (i := 754) (by decide +kernel)
theorem wd755 : Cond.fieldLink RX9 154 "PressAndWait$State" "day" "I" ∈ wsL_law := List.mem_of_getElem? (i := 755) (by decide +kernel)
theorem wd756 : Cond.fieldLink RX9 157 "PressAndWait$State" "rule" "I" ∈ wsL_law := List.mem_of_getElem? (i := 756) (by decide +kernel)
theorem wd757 : Cond.fieldLink RX9 160 "PressAndWait$State" "green" "I" ∈ wsL_law := List.mem_of_getElem? (i := 757) (by decide +kernel)
theorem wd758 : Cond.fieldLink RX9 163 "PressAndWait$Watch" "rows" "I" ∈ wsL_law := List.mem_of_getElem? (i := 758) (by decide +kernel)
theorem wd759 : Cond.fieldLink RX9 166 "PressAndWait$History" "count" "I" ∈ wsL_law := List.mem_of_getElem? (i := 759) (by decide +kernel)
theorem wd764 : Cond.methodLink RX10 430 yX10_kindMany ∈ wsL_law := List.mem_of_getElem? (i := 764) (by decide +kernel)
theorem wd765 : Cond.instanceMethod yX10_kindMany ∈ wsL_law := List.mem_of_getElem? (i := 765) (by decide +kernel)
theorem wd766 : Cond.selects RX10 yX10_kindMany yX10_kindMany ∈ wsL_law := List.mem_of_getElem? (i := 766) (by decide +kernel)
theorem wd767 : Cond.code yX10_kindMany cX10_kindMany 1 (some .int) ∈ wsL_law := List.mem_of_getElem? (i := 767) (by decide +kernel)
theorem wd768 : Cond.methodLink RX10 433 yX10_walkerMany ∈ wsL_law := List.mem_of_getElem? (i := 768) (by decide +kernel)
theorem wd769 : Cond.instanceMethod yX10_walkerMany ∈ wsL_law := List.mem_of_getElem? (i := 769) (by decide +kernel)
theorem wd770 : Cond.selects RX10 yX10_walkerMany yX10_walkerMany ∈ wsL_law := List.mem_of_getElem? (i := 770) (by decide +kernel)
theorem wd771 : Cond.code yX10_walkerMany cX10_walkerMany 1 (some .int) ∈ wsL_law := List.mem_of_getElem? (i := 771) (by decide +kernel)
theorem wd777 : Cond.methodLink RX9 169 yX9_isKind ∈ wsL_law := List.mem_of_getElem? (i := 777) (by decide +kernel)
theorem wd778 : Cond.instanceMethod yX9_isKind ∈ wsL_law := List.mem_of_getElem? (i := 778) (by decide +kernel)
theorem wd779 : Cond.selects RX9 yX9_isKind yX9_isKind ∈ wsL_law := List.mem_of_getElem? (i := 779) (by decide +kernel)
theorem wd780 : Cond.code yX9_isKind cX9_isKind 2 (some .boolean) ∈ wsL_law := List.mem_of_getElem? (i := 780) (by decide +kernel)
theorem wd781 : Cond.methodLink RX9 172 yX9_isWalker ∈ wsL_law := List.mem_of_getElem? (i := 781) (by decide +kernel)
theorem wd782 : Cond.instanceMethod yX9_isWalker ∈ wsL_law := List.mem_of_getElem? (i := 782) (by decide +kernel)
theorem wd783 : Cond.selects RX9 yX9_isWalker yX9_isWalker ∈ wsL_law := List.mem_of_getElem? (i := 783) (by decide +kernel)
theorem wd784 : Cond.code yX9_isWalker cX9_isWalker 2 (some .boolean) ∈ wsL_law := List.mem_of_getElem? (i := 784) (by decide +kernel)
theorem wd789 : Cond.constantLong RX10 526 (5) ∈ wsL_law := List.mem_of_getElem? (i := 789) (by decide +kernel)
theorem wd805 : Cond.methodLink RX10 528 yX10_isKind ∈ wsL_law := List.mem_of_getElem? (i := 805) (by decide +kernel)
theorem wd806 : Cond.instanceMethod yX10_isKind ∈ wsL_law := List.mem_of_getElem? (i := 806) (by decide +kernel)
theorem wd807 : Cond.selects RX10 yX10_isKind yX10_isKind ∈ wsL_law := List.mem_of_getElem? (i := 807) (by decide +kernel)
theorem wd808 : Cond.code yX10_isKind cX10_isKind 2 (some .boolean) ∈ wsL_law := List.mem_of_getElem? (i := 808) (by decide +kernel)
theorem wd918 : Cond.methodLink RX10 531 yX10_isWalker ∈ wsL_law := List.mem_of_getElem? (i := 918) (by decide +kernel)
theorem wd919 : Cond.instanceMethod yX10_isWalker ∈ wsL_law := List.mem_of_getElem? (i := 919) (by decide +kernel)
theorem wd920 : Cond.selects RX10 yX10_isWalker yX10_isWalker ∈ wsL_law := List.mem_of_getElem? (i := 920) (by decide +kernel)
theorem wd921 : Cond.code yX10_isWalker cX10_isWalker 2 (some .boolean) ∈ wsL_law := List.mem_of_getElem? (i := 921) (by decide +kernel)
theorem wd995 : Cond.methodLink RX9 218 yX9_stands ∈ wsL_law := List.mem_of_getElem? (i := 995) (by decide +kernel)
theorem wd996 : Cond.instanceMethod yX9_stands ∈ wsL_law := List.mem_of_getElem? (i := 996) (by decide +kernel)
theorem wd997 : Cond.selects RX9 yX9_stands yX9_stands ∈ wsL_law := List.mem_of_getElem? (i := 997) (by decide +kernel)
theorem wd998 : Cond.code yX9_stands cX9_stands 1 (some .boolean) ∈ wsL_law := List.mem_of_getElem? (i := 998) (by decide +kernel)
theorem wd1158 : Cond.methodLink RX10 554 yX10_isAhead ∈ wsL_law := List.mem_of_getElem? (i := 1158) (by decide +kernel)
theorem wd1159 : Cond.instanceMethod yX10_isAhead ∈ wsL_law := List.mem_of_getElem? (i := 1159) (by decide +kernel)
theorem wd1160 : Cond.selects RX10 yX10_isAhead yX10_isAhead ∈ wsL_law := List.mem_of_getElem? (i := 1160) (by decide +kernel)
theorem wd1161 : Cond.code yX10_isAhead cX10_isAhead 4 (some .boolean) ∈ wsL_law := List.mem_of_getElem? (i := 1161) (by decide +kernel)
theorem wd1193 : Cond.methodLink RX9 254 yX8_accepts ∈ wsL_law := List.mem_of_getElem? (i := 1193) (by decide +kernel)
theorem wd1194 : Cond.instanceMethod yX8_accepts ∈ wsL_law := List.mem_of_getElem? (i := 1194) (by decide +kernel)
theorem wd1195 : Cond.selects RX8 yX8_accepts yX8_accepts ∈ wsL_law := List.mem_of_getElem? (i := 1195) (by decide +kernel)
theorem wd1196 : Cond.code yX8_accepts cX8_accepts 6 (some .boolean) ∈ wsL_law := List.mem_of_getElem? (i := 1196) (by decide +kernel)
theorem wd1207 : Cond.methodLink RX10 567 yX10_refuses ∈ wsL_law := List.mem_of_getElem? (i := 1207) (by decide +kernel)
theorem wd1208 : Cond.instanceMethod yX10_refuses ∈ wsL_law := List.mem_of_getElem? (i := 1208) (by decide +kernel)
theorem wd1209 : Cond.selects RX10 yX10_refuses yX10_refuses ∈ wsL_law := List.mem_of_getElem? (i := 1209) (by decide +kernel)
theorem wd1210 : Cond.code yX10_refuses cX10_refuses 2 (some .int) ∈ wsL_law := List.mem_of_getElem? (i := 1210) (by decide +kernel)
theorem wd1290 : Cond.methodLink RX10 591 yX10_isRefused ∈ wsL_law := List.mem_of_getElem? (i := 1290) (by decide +kernel)
theorem wd1291 : Cond.instanceMethod yX10_isRefused ∈ wsL_law := List.mem_of_getElem? (i := 1291) (by decide +kernel)
theorem wd1292 : Cond.selects RX10 yX10_isRefused yX10_isRefused ∈ wsL_law := List.mem_of_getElem? (i := 1292) (by decide +kernel)
theorem wd1293 : Cond.code yX10_isRefused cX10_isRefused 1 (some .boolean) ∈ wsL_law := List.mem_of_getElem? (i := 1293) (by decide +kernel)
theorem wd1303 : Cond.methodLink RX9 284 yX4_allowsGreen ∈ wsL_law := List.mem_of_getElem? (i := 1303) (by decide +kernel)
theorem wd1304 : Cond.instanceMethod yX4_allowsGreen ∈ wsL_law := List.mem_of_getElem? (i := 1304) (by decide +kernel)
theorem wd1305 : Cond.selects RX4 yX4_allowsGreen yX4_allowsGreen ∈ wsL_law := List.mem_of_getElem? (i := 1305) (by decide +kernel)
theorem wd1306 : Cond.code yX4_allowsGreen cX4_allowsGreen 2 (some .boolean) ∈ wsL_law := List.mem_of_getElem? (i := 1306) (by decide +kernel)
theorem wd1323 : Cond.methodLink RX9 287 yX9_canLive ∈ wsL_law := List.mem_of_getElem? (i := 1323) (by decide +kernel)
theorem wd1324 : Cond.instanceMethod yX9_canLive ∈ wsL_law := List.mem_of_getElem? (i := 1324) (by decide +kernel)
theorem wd1325 : Cond.selects RX9 yX9_canLive yX9_canLive ∈ wsL_law := List.mem_of_getElem? (i := 1325) (by decide +kernel)
theorem wd1326 : Cond.code yX9_canLive cX9_canLive 2 (some .boolean) ∈ wsL_law := List.mem_of_getElem? (i := 1326) (by decide +kernel)
theorem wd1363 : Cond.methodLink RX9 305 yX2_giveBack ∈ wsL_law := List.mem_of_getElem? (i := 1363) (by decide +kernel)
theorem wd1364 : Cond.instanceMethod yX2_giveBack ∈ wsL_law := List.mem_of_getElem? (i := 1364) (by decide +kernel)
theorem wd1365 : Cond.selects RX2 yX2_giveBack yX2_giveBack ∈ wsL_law := List.mem_of_getElem? (i := 1365) (by decide +kernel)
theorem wd1366 : Cond.code yX2_giveBack cX2_giveBack 2 (some .boolean) ∈ wsL_law := List.mem_of_getElem? (i := 1366) (by decide +kernel)
theorem wd1383 : Cond.constantLong RX9 309 (-1000000000000000) ∈ wsL_law := List.mem_of_getElem? (i := 1383) (by decide +kernel)
theorem wd1404 : Cond.constantLong RX10 686 (-1000000000000000) ∈ wsL_law := List.mem_of_getElem? (i := 1404) (by decide +kernel)
theorem wd1428 : Cond.methodLink RX9 319 yX9_check ∈ wsL_law := List.mem_of_getElem? (i := 1428) (by decide +kernel)
theorem wd1429 : Cond.static yX9_check ∈ wsL_law := List.mem_of_getElem? (i := 1429) (by decide +kernel)
theorem wd1430 : Cond.code yX9_check cX9_check 4 (some .int) ∈ wsL_law := List.mem_of_getElem? (i := 1430) (by decide +kernel)
theorem wd1435 : Cond.fieldLink RX10 699 "PressAndWaitModel" "octets" "I" ∈ wsL_law := List.mem_of_getElem? (i := 1435) (by decide +kernel)
theorem wd1436 : Cond.methodLink RX10 702 yX10_writes ∈ wsL_law := List.mem_of_getElem? (i := 1436) (by decide +kernel)
theorem wd1437 : Cond.instanceMethod yX10_writes ∈ wsL_law := List.mem_of_getElem? (i := 1437) (by decide +kernel)
theorem wd1438 : Cond.selects RX10 yX10_writes yX10_writes ∈ wsL_law := List.mem_of_getElem? (i := 1438) (by decide +kernel)
theorem wd1439 : Cond.code yX10_writes cX10_writes 2 none ∈ wsL_law := List.mem_of_getElem? (i := 1439) (by decide +kernel)
theorem wd1440 : Cond.methodLink RX10 705 yX10_checked ∈ wsL_law := List.mem_of_getElem? (i := 1440) (by decide +kernel)
theorem wd1441 : Cond.static yX10_checked ∈ wsL_law := List.mem_of_getElem? (i := 1441) (by decide +kernel)
theorem wd1442 : Cond.code yX10_checked cX10_checked 4 (some .int) ∈ wsL_law := List.mem_of_getElem? (i := 1442) (by decide +kernel)
theorem wd1456 : Cond.methodLink RX9 322 yX9_isImage ∈ wsL_law := List.mem_of_getElem? (i := 1456) (by decide +kernel)
theorem wd1457 : Cond.instanceMethod yX9_isImage ∈ wsL_law := List.mem_of_getElem? (i := 1457) (by decide +kernel)
theorem wd1458 : Cond.selects RX9 yX9_isImage yX9_isImage ∈ wsL_law := List.mem_of_getElem? (i := 1458) (by decide +kernel)
theorem wd1459 : Cond.code yX9_isImage cX9_isImage 3 (some .boolean) ∈ wsL_law := List.mem_of_getElem? (i := 1459) (by decide +kernel)
theorem wd1464 : Cond.methodLink RX10 709 yX10_isImage ∈ wsL_law := List.mem_of_getElem? (i := 1464) (by decide +kernel)
theorem wd1465 : Cond.instanceMethod yX10_isImage ∈ wsL_law := List.mem_of_getElem? (i := 1465) (by decide +kernel)
theorem wd1466 : Cond.selects RX10 yX10_isImage yX10_isImage ∈ wsL_law := List.mem_of_getElem? (i := 1466) (by decide +kernel)
theorem wd1467 : Cond.code yX10_isImage cX10_isImage 3 (some .boolean) ∈ wsL_law := List.mem_of_getElem? (i := 1467) (by decide +kernel)
theorem cl_X0 : k_cl 0 RX0 TX0 5 tyX0 := ⟨rfl, inlX0, tyX0_ok, nmX0⟩
theorem cl_X1 : k_cl 1 RX1 TX1 3 tyX1 := ⟨rfl, inlX1, tyX1_ok, nmX1⟩
theorem cl_X2 : k_cl 2 RX2 TX2 3 tyX2 := ⟨rfl, inlX2, tyX2_ok, nmX2⟩
theorem cl_X3 : k_cl 3 RX3 TX3 2 tyX3 := ⟨rfl, inlX3, tyX3_ok, nmX3⟩
theorem cl_X4 : k_cl 4 RX4 TX4 18 tyX4 := ⟨rfl, inlX4, tyX4_ok, nmX4⟩
theorem cl_X5 : k_cl 5 RX5 TX5 9 tyX5 := ⟨rfl, inlX5, tyX5_ok, nmX5⟩
theorem cl_X6 : k_cl 6 RX6 TX6 4 tyX6 := ⟨rfl, inlX6, tyX6_ok, nmX6⟩
theorem cl_X7 : k_cl 7 RX7 TX7 17 tyX7 := ⟨rfl, inlX7, tyX7_ok, nmX7⟩
theorem cl_X8 : k_cl 8 RX8 TX8 11 tyX8 := ⟨rfl, inlX8, tyX8_ok, nmX8⟩
theorem cl_X9 : k_cl 9 RX9 TX9 16 tyX9 := ⟨rfl, inlX9, tyX9_ok, nmX9⟩
theorem cl_X10 : k_cl 10 RX10 TX10 122 tyX10 := ⟨rfl, inlX10, tyX10_ok, nmX10⟩
theorem fp_X9_9 : k_fl RX9 9 9 0 true (.array .int) := ⟨RX9, TX9, 16, tyX9, cl_X9, by decide, wd13, rfl, tyX9_ok 0 (by decide), fun h => rfl⟩
theorem fp_X9_13 : k_fl RX9 13 9 1 false .int := ⟨RX9, TX9, 16, tyX9, cl_X9, by decide, wd14, rfl, tyX9_ok 1 (by decide), fun h => by cases h⟩
theorem z_X4 : ∀ j, j < 18 → defaultValue (tyX4 j) = vp_V [.int 0, .int 0, .int 0, .int 0, .int 0, .int 0, .int 0, .null, .null, .null, .int 0, .null, .null, .null, .null, .null, .int 0, .null] j := by decide +kernel
theorem n_X9_17 : k_nw RX9 17 4 18 [.int 0, .int 0, .int 0, .int 0, .int 0, .int 0, .int 0, .null, .null, .null, .int 0, .null, .null, .null, .null, .null, .int 0, .null] := ⟨RX4, TX4, tyX4, cl_X4, wd15, wd16, wd17, z_X4⟩
theorem mN_X4_init : k_mn yX4_init cX4_init 1 0 := ⟨wd56, wd17, wd57, rfl, by decide +kernel⟩
theorem fp_X4_9 : k_fl RX4 9 4 7 true (.array .int) := ⟨RX4, TX4, 18, tyX4, cl_X4, by decide, wd59, rfl, tyX4_ok 7 (by decide), fun h => rfl⟩
theorem fp_X4_15 : k_fl RX4 15 4 8 true (.array .int) := ⟨RX4, TX4, 18, tyX4, cl_X4, by decide, wd60, rfl, tyX4_ok 8 (by decide), fun h => rfl⟩
theorem fp_X4_18 : k_fl RX4 18 4 9 true (.array .int) := ⟨RX4, TX4, 18, tyX4, cl_X4, by decide, wd61, rfl, tyX4_ok 9 (by decide), fun h => rfl⟩
theorem fp_X4_21 : k_fl RX4 21 4 11 true (.array .int) := ⟨RX4, TX4, 18, tyX4, cl_X4, by decide, wd62, rfl, tyX4_ok 11 (by decide), fun h => rfl⟩
theorem fp_X4_24 : k_fl RX4 24 4 12 true (.array .int) := ⟨RX4, TX4, 18, tyX4, cl_X4, by decide, wd63, rfl, tyX4_ok 12 (by decide), fun h => rfl⟩
theorem fp_X4_27 : k_fl RX4 27 4 13 true (.array .int) := ⟨RX4, TX4, 18, tyX4, cl_X4, by decide, wd64, rfl, tyX4_ok 13 (by decide), fun h => rfl⟩
theorem fp_X4_30 : k_fl RX4 30 4 14 true (.array .int) := ⟨RX4, TX4, 18, tyX4, cl_X4, by decide, wd65, rfl, tyX4_ok 14 (by decide), fun h => rfl⟩
theorem fp_X4_33 : k_fl RX4 33 4 15 true (.array .int) := ⟨RX4, TX4, 18, tyX4, cl_X4, by decide, wd66, rfl, tyX4_ok 15 (by decide), fun h => rfl⟩
theorem fp_X4_36 : k_fl RX4 36 4 17 true (.array .int) := ⟨RX4, TX4, 18, tyX4, cl_X4, by decide, wd67, rfl, tyX4_ok 17 (by decide), fun h => rfl⟩
theorem fp_X9_20 : k_fl RX9 20 9 2 false (.object "PressAndWait$Plan") := ⟨RX9, TX9, 16, tyX9, cl_X9, by decide, wd18, rfl, tyX9_ok 2 (by decide), fun h => by cases h⟩
theorem fp_X9_24 : k_fl RX9 24 9 3 false (.object "PressAndWait$Plan") := ⟨RX9, TX9, 16, tyX9, cl_X9, by decide, wd19, rfl, tyX9_ok 3 (by decide), fun h => by cases h⟩
theorem z_X6 : ∀ j, j < 4 → defaultValue (tyX6 j) = vp_V [.int 0, .int 0, .int 0, .null] j := by decide +kernel
theorem n_X9_27 : k_nw RX9 27 6 4 [.int 0, .int 0, .int 0, .null] := ⟨RX6, TX6, tyX6, cl_X6, wd20, wd21, wd22, z_X6⟩
theorem mN_X6_init : k_mn yX6_init cX6_init 1 0 := ⟨wd68, wd22, wd69, rfl, by decide +kernel⟩
theorem fp_X6_9 : k_fl RX6 9 6 0 false .int := ⟨RX6, TX6, 4, tyX6, cl_X6, by decide, wd71, rfl, tyX6_ok 0 (by decide), fun h => by cases h⟩
theorem fp_X6_15 : k_fl RX6 15 6 1 false .int := ⟨RX6, TX6, 4, tyX6, cl_X6, by decide, wd72, rfl, tyX6_ok 1 (by decide), fun h => by cases h⟩
theorem fp_X6_18 : k_fl RX6 18 6 2 false .int := ⟨RX6, TX6, 4, tyX6, cl_X6, by decide, wd73, rfl, tyX6_ok 2 (by decide), fun h => by cases h⟩
theorem fp_X6_21 : k_fl RX6 21 6 3 true (.array .int) := ⟨RX6, TX6, 4, tyX6, cl_X6, by decide, wd74, rfl, tyX6_ok 3 (by decide), fun h => rfl⟩
theorem fp_X9_30 : k_fl RX9 30 9 4 true (.object "PressAndWait$State") := ⟨RX9, TX9, 16, tyX9, cl_X9, by decide, wd23, rfl, tyX9_ok 4 (by decide), fun h => rfl⟩
theorem z_X2 : ∀ j, j < 3 → defaultValue (tyX2 j) = vp_V [.null, .int 0, .int 0] j := by decide +kernel
theorem n_X9_34 : k_nw RX9 34 2 3 [.null, .int 0, .int 0] := ⟨RX2, TX2, tyX2, cl_X2, wd24, wd25, wd26, z_X2⟩
theorem mI_X9_36 : k_mi RX9 36 yX2_init cX2_init 2 0 := ⟨wd75, wd76, wd26, wd77, rfl, by decide +kernel⟩
theorem fp_X2_11 : k_fl RX2 11 2 0 true (.array (.object "PressAndWait$State")) := ⟨RX2, TX2, 3, tyX2, cl_X2, by decide, wd80, rfl, tyX2_ok 0 (by decide), fun h => rfl⟩
theorem fp_X2_17 : k_fl RX2 17 2 1 false .int := ⟨RX2, TX2, 3, tyX2, cl_X2, by decide, wd81, rfl, tyX2_ok 1 (by decide), fun h => by cases h⟩
theorem fp_X2_21 : k_fl RX2 21 2 2 false .int := ⟨RX2, TX2, 3, tyX2, cl_X2, by decide, wd82, rfl, tyX2_ok 2 (by decide), fun h => by cases h⟩
theorem fg_X2_11 : k_fg RX2 11 2 0 := ⟨RX2, TX2, 3, tyX2, cl_X2, by decide, wd80⟩
theorem n_X2_9 : k_nw RX2 9 6 4 [.int 0, .int 0, .int 0, .null] := ⟨RX6, TX6, tyX6, cl_X6, wd79, wd21, wd22, z_X6⟩
theorem fp_X9_37 : k_fl RX9 37 9 5 true (.object "PressAndWait$History") := ⟨RX9, TX9, 16, tyX9, cl_X9, by decide, wd27, rfl, tyX9_ok 5 (by decide), fun h => rfl⟩
theorem z_X3 : ∀ j, j < 2 → defaultValue (tyX3 j) = vp_V [.null, .null] j := by decide +kernel
theorem n_X9_41 : k_nw RX9 41 3 2 [.null, .null] := ⟨RX3, TX3, tyX3, cl_X3, wd28, wd29, wd30, z_X3⟩
theorem mN_X3_init : k_mn yX3_init cX3_init 1 0 := ⟨wd83, wd30, wd84, rfl, by decide +kernel⟩
theorem fp_X3_9 : k_fl RX3 9 3 0 true (.array .int) := ⟨RX3, TX3, 2, tyX3, cl_X3, by decide, wd86, rfl, tyX3_ok 0 (by decide), fun h => rfl⟩
theorem fp_X3_15 : k_fl RX3 15 3 1 true (.array .int) := ⟨RX3, TX3, 2, tyX3, cl_X3, by decide, wd87, rfl, tyX3_ok 1 (by decide), fun h => rfl⟩
theorem fp_X9_44 : k_fl RX9 44 9 6 true (.object "PressAndWait$Machine") := ⟨RX9, TX9, 16, tyX9, cl_X9, by decide, wd31, rfl, tyX9_ok 6 (by decide), fun h => rfl⟩
theorem z_X5 : ∀ j, j < 9 → defaultValue (tyX5 j) = vp_V [.null, .int 0, .int 0, .int 0, .int 0, .int 0, .null, .int 0, .int 0] j := by decide +kernel
theorem n_X9_48 : k_nw RX9 48 5 9 [.null, .int 0, .int 0, .int 0, .int 0, .int 0, .null, .int 0, .int 0] := ⟨RX5, TX5, tyX5, cl_X5, wd32, wd33, wd34, z_X5⟩
theorem fg_X9_9 : k_fg RX9 9 9 0 := ⟨RX9, TX9, 16, tyX9, cl_X9, by decide, wd13⟩
theorem fg_X9_24 : k_fg RX9 24 9 3 := ⟨RX9, TX9, 16, tyX9, cl_X9, by decide, wd19⟩
theorem mI_X9_50 : k_mi RX9 50 yX5_init cX5_init 3 2 := ⟨wd88, wd89, wd34, wd90, rfl, by decide +kernel⟩
theorem fp_X5_11 : k_fl RX5 11 5 1 false .int := ⟨RX5, TX5, 9, tyX5, cl_X5, by decide, wd92, rfl, tyX5_ok 1 (by decide), fun h => by cases h⟩
theorem fp_X5_15 : k_fl RX5 15 5 2 false .int := ⟨RX5, TX5, 9, tyX5, cl_X5, by decide, wd93, rfl, tyX5_ok 2 (by decide), fun h => by cases h⟩
theorem fp_X5_18 : k_fl RX5 18 5 3 false .int := ⟨RX5, TX5, 9, tyX5, cl_X5, by decide, wd94, rfl, tyX5_ok 3 (by decide), fun h => by cases h⟩
theorem fp_X5_21 : k_fl RX5 21 5 4 false .int := ⟨RX5, TX5, 9, tyX5, cl_X5, by decide, wd95, rfl, tyX5_ok 4 (by decide), fun h => by cases h⟩
theorem fp_X5_24 : k_fl RX5 24 5 5 false .int := ⟨RX5, TX5, 9, tyX5, cl_X5, by decide, wd96, rfl, tyX5_ok 5 (by decide), fun h => by cases h⟩
theorem fp_X5_27 : k_fl RX5 27 5 7 false .int := ⟨RX5, TX5, 9, tyX5, cl_X5, by decide, wd97, rfl, tyX5_ok 7 (by decide), fun h => by cases h⟩
theorem fp_X5_30 : k_fl RX5 30 5 8 false .int := ⟨RX5, TX5, 9, tyX5, cl_X5, by decide, wd98, rfl, tyX5_ok 8 (by decide), fun h => by cases h⟩
theorem fp_X5_33 : k_fl RX5 33 5 0 true (.array .int) := ⟨RX5, TX5, 9, tyX5, cl_X5, by decide, wd99, rfl, tyX5_ok 0 (by decide), fun h => rfl⟩
theorem fp_X5_37 : k_fl RX5 37 5 6 false (.object "PressAndWait$Plan") := ⟨RX5, TX5, 9, tyX5, cl_X5, by decide, wd100, rfl, tyX5_ok 6 (by decide), fun h => by cases h⟩
theorem fp_X9_53 : k_fl RX9 53 9 7 true (.object "PressAndWait$Reader") := ⟨RX9, TX9, 16, tyX9, cl_X9, by decide, wd35, rfl, tyX9_ok 7 (by decide), fun h => rfl⟩
theorem z_X7 : ∀ j, j < 17 → defaultValue (tyX7 j) = vp_V [.null, .null, .int 0, .null, .int 0, .int 0, .int 0, .int 0, .null, .null, .null, .null, .null, .int 0, .int 0, .int 0, .int 0] j := by decide +kernel
theorem n_X9_57 : k_nw RX9 57 7 17 [.null, .null, .int 0, .null, .int 0, .int 0, .int 0, .int 0, .null, .null, .null, .null, .null, .int 0, .int 0, .int 0, .int 0] := ⟨RX7, TX7, tyX7, cl_X7, wd36, wd37, wd38, z_X7⟩
theorem fg_X9_44 : k_fg RX9 44 9 6 := ⟨RX9, TX9, 16, tyX9, cl_X9, by decide, wd31⟩
theorem fg_X9_20 : k_fg RX9 20 9 2 := ⟨RX9, TX9, 16, tyX9, cl_X9, by decide, wd18⟩
theorem mI_X9_59 : k_mi RX9 59 yX7_init cX7_init 3 2 := ⟨wd101, wd102, wd38, wd103, rfl, by decide +kernel⟩
theorem fp_X7_9 : k_fl RX7 9 7 2 false .int := ⟨RX7, TX7, 17, tyX7, cl_X7, by decide, wd105, rfl, tyX7_ok 2 (by decide), fun h => by cases h⟩
theorem fp_X7_15 : k_fl RX7 15 7 3 true (.array .int) := ⟨RX7, TX7, 17, tyX7, cl_X7, by decide, wd106, rfl, tyX7_ok 3 (by decide), fun h => rfl⟩
theorem fp_X7_19 : k_fl RX7 19 7 4 false .int := ⟨RX7, TX7, 17, tyX7, cl_X7, by decide, wd107, rfl, tyX7_ok 4 (by decide), fun h => by cases h⟩
theorem fp_X7_22 : k_fl RX7 22 7 5 false .int := ⟨RX7, TX7, 17, tyX7, cl_X7, by decide, wd108, rfl, tyX7_ok 5 (by decide), fun h => by cases h⟩
theorem fp_X7_25 : k_fl RX7 25 7 6 false .int := ⟨RX7, TX7, 17, tyX7, cl_X7, by decide, wd109, rfl, tyX7_ok 6 (by decide), fun h => by cases h⟩
theorem fp_X7_28 : k_fl RX7 28 7 7 false .boolean := ⟨RX7, TX7, 17, tyX7, cl_X7, by decide, wd110, rfl, tyX7_ok 7 (by decide), fun h => by cases h⟩
theorem fp_X7_32 : k_fl RX7 32 7 8 true (.array .int) := ⟨RX7, TX7, 17, tyX7, cl_X7, by decide, wd111, rfl, tyX7_ok 8 (by decide), fun h => rfl⟩
theorem fp_X7_35 : k_fl RX7 35 7 9 true (.array .int) := ⟨RX7, TX7, 17, tyX7, cl_X7, by decide, wd112, rfl, tyX7_ok 9 (by decide), fun h => rfl⟩
theorem fp_X7_38 : k_fl RX7 38 7 10 true (.array .int) := ⟨RX7, TX7, 17, tyX7, cl_X7, by decide, wd113, rfl, tyX7_ok 10 (by decide), fun h => rfl⟩
theorem fp_X7_41 : k_fl RX7 41 7 11 true (.array .int) := ⟨RX7, TX7, 17, tyX7, cl_X7, by decide, wd114, rfl, tyX7_ok 11 (by decide), fun h => rfl⟩
theorem fp_X7_44 : k_fl RX7 44 7 12 true (.array .int) := ⟨RX7, TX7, 17, tyX7, cl_X7, by decide, wd115, rfl, tyX7_ok 12 (by decide), fun h => rfl⟩
theorem fp_X7_47 : k_fl RX7 47 7 13 false .int := ⟨RX7, TX7, 17, tyX7, cl_X7, by decide, wd116, rfl, tyX7_ok 13 (by decide), fun h => by cases h⟩
theorem fp_X7_50 : k_fl RX7 50 7 14 false .int := ⟨RX7, TX7, 17, tyX7, cl_X7, by decide, wd117, rfl, tyX7_ok 14 (by decide), fun h => by cases h⟩
theorem fp_X7_53 : k_fl RX7 53 7 15 false .int := ⟨RX7, TX7, 17, tyX7, cl_X7, by decide, wd118, rfl, tyX7_ok 15 (by decide), fun h => by cases h⟩
theorem fp_X7_56 : k_fl RX7 56 7 16 false .int := ⟨RX7, TX7, 17, tyX7, cl_X7, by decide, wd119, rfl, tyX7_ok 16 (by decide), fun h => by cases h⟩
theorem fp_X7_59 : k_fl RX7 59 7 0 true (.object "PressAndWait$Machine") := ⟨RX7, TX7, 17, tyX7, cl_X7, by decide, wd120, rfl, tyX7_ok 0 (by decide), fun h => rfl⟩
theorem fp_X7_63 : k_fl RX7 63 7 1 false (.object "PressAndWait$Plan") := ⟨RX7, TX7, 17, tyX7, cl_X7, by decide, wd121, rfl, tyX7_ok 1 (by decide), fun h => by cases h⟩
theorem fp_X9_62 : k_fl RX9 62 9 8 true (.object "PressAndWait$Street") := ⟨RX9, TX9, 16, tyX9, cl_X9, by decide, wd39, rfl, tyX9_ok 8 (by decide), fun h => rfl⟩
theorem z_X1 : ∀ j, j < 3 → defaultValue (tyX1 j) = vp_V [.null, .null, .int 0] j := by decide +kernel
theorem n_X9_66 : k_nw RX9 66 1 3 [.null, .null, .int 0] := ⟨RX1, TX1, tyX1, cl_X1, wd40, wd41, wd42, z_X1⟩
theorem fg_X9_62 : k_fg RX9 62 9 8 := ⟨RX9, TX9, 16, tyX9, cl_X9, by decide, wd39⟩
theorem mI_X9_68 : k_mi RX9 68 yX1_init cX1_init 2 1 := ⟨wd122, wd123, wd42, wd124, rfl, by decide +kernel⟩
theorem fp_X1_11 : k_fl RX1 11 1 1 true (.array .int) := ⟨RX1, TX1, 3, tyX1, cl_X1, by decide, wd126, rfl, tyX1_ok 1 (by decide), fun h => rfl⟩
theorem fp_X1_15 : k_fl RX1 15 1 2 false .boolean := ⟨RX1, TX1, 3, tyX1, cl_X1, by decide, wd127, rfl, tyX1_ok 2 (by decide), fun h => by cases h⟩
theorem fp_X1_19 : k_fl RX1 19 1 0 true (.object "PressAndWait$Street") := ⟨RX1, TX1, 3, tyX1, cl_X1, by decide, wd128, rfl, tyX1_ok 0 (by decide), fun h => rfl⟩
theorem fp_X9_71 : k_fl RX9 71 9 9 true (.object "PressAndWait$Choice") := ⟨RX9, TX9, 16, tyX9, cl_X9, by decide, wd43, rfl, tyX9_ok 9 (by decide), fun h => rfl⟩
theorem z_X0 : ∀ j, j < 5 → defaultValue (tyX0 j) = vp_V [.null, .null, .null, .null, .int 0] j := by decide +kernel
theorem n_X9_75 : k_nw RX9 75 0 5 [.null, .null, .null, .null, .int 0] := ⟨RX0, TX0, tyX0, cl_X0, wd44, wd45, wd46, z_X0⟩
theorem mI_X9_77 : k_mi RX9 77 yX0_init cX0_init 2 1 := ⟨wd129, wd130, wd46, wd131, rfl, by decide +kernel⟩
theorem n_X0_9 : k_nw RX0 9 6 4 [.int 0, .int 0, .int 0, .null] := ⟨RX6, TX6, tyX6, cl_X6, wd133, wd21, wd22, z_X6⟩
theorem fp_X0_12 : k_fl RX0 12 0 1 true (.object "PressAndWait$State") := ⟨RX0, TX0, 5, tyX0, cl_X0, by decide, wd134, rfl, tyX0_ok 1 (by decide), fun h => rfl⟩
theorem fp_X0_18 : k_fl RX0 18 0 2 true (.array .int) := ⟨RX0, TX0, 5, tyX0, cl_X0, by decide, wd135, rfl, tyX0_ok 2 (by decide), fun h => rfl⟩
theorem fp_X0_22 : k_fl RX0 22 0 3 true (.array .int) := ⟨RX0, TX0, 5, tyX0, cl_X0, by decide, wd136, rfl, tyX0_ok 3 (by decide), fun h => rfl⟩
theorem fp_X0_25 : k_fl RX0 25 0 4 false .int := ⟨RX0, TX0, 5, tyX0, cl_X0, by decide, wd137, rfl, tyX0_ok 4 (by decide), fun h => by cases h⟩
theorem fp_X0_29 : k_fl RX0 29 0 0 true (.object "PressAndWait$Street") := ⟨RX0, TX0, 5, tyX0, cl_X0, by decide, wd138, rfl, tyX0_ok 0 (by decide), fun h => rfl⟩
theorem fp_X9_78 : k_fl RX9 78 9 10 true (.object "PressAndWait$Ahead") := ⟨RX9, TX9, 16, tyX9, cl_X9, by decide, wd47, rfl, tyX9_ok 10 (by decide), fun h => rfl⟩
theorem z_X8 : ∀ j, j < 11 → defaultValue (tyX8 j) = vp_V [.null, .null, .null, .int 0, .int 0, .null, .int 0, .int 0, .int 0, .int 0, .int 0] j := by decide +kernel
theorem n_X9_82 : k_nw RX9 82 8 11 [.null, .null, .null, .int 0, .int 0, .null, .int 0, .int 0, .int 0, .int 0, .int 0] := ⟨RX8, TX8, tyX8, cl_X8, wd48, wd49, wd50, z_X8⟩
theorem mI_X9_84 : k_mi RX9 84 yX8_init cX8_init 2 1 := ⟨wd139, wd140, wd50, wd141, rfl, by decide +kernel⟩
theorem fp_X8_9 : k_fl RX8 9 8 1 true (.array .int) := ⟨RX8, TX8, 11, tyX8, cl_X8, by decide, wd143, rfl, tyX8_ok 1 (by decide), fun h => rfl⟩
theorem fp_X8_15 : k_fl RX8 15 8 2 true (.array .int) := ⟨RX8, TX8, 11, tyX8, cl_X8, by decide, wd144, rfl, tyX8_ok 2 (by decide), fun h => rfl⟩
theorem fp_X8_18 : k_fl RX8 18 8 3 false .int := ⟨RX8, TX8, 11, tyX8, cl_X8, by decide, wd145, rfl, tyX8_ok 3 (by decide), fun h => by cases h⟩
theorem fp_X8_22 : k_fl RX8 22 8 4 false .boolean := ⟨RX8, TX8, 11, tyX8, cl_X8, by decide, wd146, rfl, tyX8_ok 4 (by decide), fun h => by cases h⟩
theorem fp_X8_26 : k_fl RX8 26 8 5 true (.array .int) := ⟨RX8, TX8, 11, tyX8, cl_X8, by decide, wd147, rfl, tyX8_ok 5 (by decide), fun h => rfl⟩
theorem fp_X8_29 : k_fl RX8 29 8 6 false .int := ⟨RX8, TX8, 11, tyX8, cl_X8, by decide, wd148, rfl, tyX8_ok 6 (by decide), fun h => by cases h⟩
theorem fp_X8_32 : k_fl RX8 32 8 7 false .int := ⟨RX8, TX8, 11, tyX8, cl_X8, by decide, wd149, rfl, tyX8_ok 7 (by decide), fun h => by cases h⟩
theorem fp_X8_35 : k_fl RX8 35 8 8 false .int := ⟨RX8, TX8, 11, tyX8, cl_X8, by decide, wd150, rfl, tyX8_ok 8 (by decide), fun h => by cases h⟩
theorem fp_X8_38 : k_fl RX8 38 8 9 false .int := ⟨RX8, TX8, 11, tyX8, cl_X8, by decide, wd151, rfl, tyX8_ok 9 (by decide), fun h => by cases h⟩
theorem fp_X8_41 : k_fl RX8 41 8 10 false .int := ⟨RX8, TX8, 11, tyX8, cl_X8, by decide, wd152, rfl, tyX8_ok 10 (by decide), fun h => by cases h⟩
theorem fp_X8_44 : k_fl RX8 44 8 0 true (.object "PressAndWait$Street") := ⟨RX8, TX8, 11, tyX8, cl_X8, by decide, wd153, rfl, tyX8_ok 0 (by decide), fun h => rfl⟩
theorem fp_X9_85 : k_fl RX9 85 9 11 true (.object "PressAndWait$Watch") := ⟨RX9, TX9, 16, tyX9, cl_X9, by decide, wd51, rfl, tyX9_ok 11 (by decide), fun h => rfl⟩
theorem fp_X9_89 : k_fl RX9 89 9 12 true (.array .int) := ⟨RX9, TX9, 16, tyX9, cl_X9, by decide, wd52, rfl, tyX9_ok 12 (by decide), fun h => rfl⟩
theorem fp_X9_92 : k_fl RX9 92 9 13 false .int := ⟨RX9, TX9, 16, tyX9, cl_X9, by decide, wd53, rfl, tyX9_ok 13 (by decide), fun h => by cases h⟩
theorem fp_X9_95 : k_fl RX9 95 9 14 true (.array .int) := ⟨RX9, TX9, 16, tyX9, cl_X9, by decide, wd54, rfl, tyX9_ok 14 (by decide), fun h => rfl⟩
theorem fp_X9_98 : k_fl RX9 98 9 15 false .long := ⟨RX9, TX9, 16, tyX9, cl_X9, by decide, wd55, rfl, tyX9_ok 15 (by decide), fun h => by cases h⟩
theorem fp_X10_7 : k_fl RX10 7 10 0 true (.array .int) := ⟨RX10, TX10, 122, tyX10, cl_X10, by decide, wd158, rfl, tyX10_ok 0 (by decide), fun h => rfl⟩
theorem fp_X10_13 : k_fl RX10 13 10 8 false .int := ⟨RX10, TX10, 122, tyX10, cl_X10, by decide, wd159, rfl, tyX10_ok 8 (by decide), fun h => by cases h⟩
theorem fp_X10_17 : k_fl RX10 17 10 9 true (.array .int) := ⟨RX10, TX10, 122, tyX10, cl_X10, by decide, wd160, rfl, tyX10_ok 9 (by decide), fun h => rfl⟩
theorem fp_X10_20 : k_fl RX10 20 10 10 true (.array .char) := ⟨RX10, TX10, 122, tyX10, cl_X10, by decide, wd162, rfl, tyX10_ok 10 (by decide), fun h => rfl⟩
theorem fp_X10_24 : k_fl RX10 24 10 11 true (.array .char) := ⟨RX10, TX10, 122, tyX10, cl_X10, by decide, wd163, rfl, tyX10_ok 11 (by decide), fun h => rfl⟩
theorem fp_X10_27 : k_fl RX10 27 10 12 true (.array .char) := ⟨RX10, TX10, 122, tyX10, cl_X10, by decide, wd164, rfl, tyX10_ok 12 (by decide), fun h => rfl⟩
theorem fp_X10_30 : k_fl RX10 30 10 13 true (.array .char) := ⟨RX10, TX10, 122, tyX10, cl_X10, by decide, wd165, rfl, tyX10_ok 13 (by decide), fun h => rfl⟩
theorem fp_X10_33 : k_fl RX10 33 10 14 true (.array .char) := ⟨RX10, TX10, 122, tyX10, cl_X10, by decide, wd166, rfl, tyX10_ok 14 (by decide), fun h => rfl⟩
theorem fp_X10_36 : k_fl RX10 36 10 15 true (.array .char) := ⟨RX10, TX10, 122, tyX10, cl_X10, by decide, wd167, rfl, tyX10_ok 15 (by decide), fun h => rfl⟩
theorem fp_X10_39 : k_fl RX10 39 10 16 true (.array .char) := ⟨RX10, TX10, 122, tyX10, cl_X10, by decide, wd168, rfl, tyX10_ok 16 (by decide), fun h => rfl⟩
theorem fp_X10_42 : k_fl RX10 42 10 17 true (.array .char) := ⟨RX10, TX10, 122, tyX10, cl_X10, by decide, wd169, rfl, tyX10_ok 17 (by decide), fun h => rfl⟩
theorem fp_X10_45 : k_fl RX10 45 10 18 true (.array .char) := ⟨RX10, TX10, 122, tyX10, cl_X10, by decide, wd170, rfl, tyX10_ok 18 (by decide), fun h => rfl⟩
theorem fp_X10_48 : k_fl RX10 48 10 19 true (.array .char) := ⟨RX10, TX10, 122, tyX10, cl_X10, by decide, wd171, rfl, tyX10_ok 19 (by decide), fun h => rfl⟩
theorem fp_X10_51 : k_fl RX10 51 10 20 true (.array .char) := ⟨RX10, TX10, 122, tyX10, cl_X10, by decide, wd172, rfl, tyX10_ok 20 (by decide), fun h => rfl⟩
theorem fp_X10_54 : k_fl RX10 54 10 21 true (.array .char) := ⟨RX10, TX10, 122, tyX10, cl_X10, by decide, wd173, rfl, tyX10_ok 21 (by decide), fun h => rfl⟩
theorem fp_X10_57 : k_fl RX10 57 10 22 true (.array .char) := ⟨RX10, TX10, 122, tyX10, cl_X10, by decide, wd174, rfl, tyX10_ok 22 (by decide), fun h => rfl⟩
theorem fp_X10_60 : k_fl RX10 60 10 23 true (.array .char) := ⟨RX10, TX10, 122, tyX10, cl_X10, by decide, wd175, rfl, tyX10_ok 23 (by decide), fun h => rfl⟩
theorem fp_X10_63 : k_fl RX10 63 10 24 true (.array .char) := ⟨RX10, TX10, 122, tyX10, cl_X10, by decide, wd176, rfl, tyX10_ok 24 (by decide), fun h => rfl⟩
theorem fp_X10_66 : k_fl RX10 66 10 25 true (.array .char) := ⟨RX10, TX10, 122, tyX10, cl_X10, by decide, wd177, rfl, tyX10_ok 25 (by decide), fun h => rfl⟩
theorem fp_X10_69 : k_fl RX10 69 10 26 true (.array .char) := ⟨RX10, TX10, 122, tyX10, cl_X10, by decide, wd178, rfl, tyX10_ok 26 (by decide), fun h => rfl⟩
theorem fp_X10_72 : k_fl RX10 72 10 27 true (.array .char) := ⟨RX10, TX10, 122, tyX10, cl_X10, by decide, wd179, rfl, tyX10_ok 27 (by decide), fun h => rfl⟩
theorem fp_X10_75 : k_fl RX10 75 10 28 true (.array .char) := ⟨RX10, TX10, 122, tyX10, cl_X10, by decide, wd180, rfl, tyX10_ok 28 (by decide), fun h => rfl⟩
theorem fp_X10_78 : k_fl RX10 78 10 29 true (.array .char) := ⟨RX10, TX10, 122, tyX10, cl_X10, by decide, wd181, rfl, tyX10_ok 29 (by decide), fun h => rfl⟩
theorem fp_X10_81 : k_fl RX10 81 10 30 true (.array .char) := ⟨RX10, TX10, 122, tyX10, cl_X10, by decide, wd182, rfl, tyX10_ok 30 (by decide), fun h => rfl⟩
theorem fp_X10_84 : k_fl RX10 84 10 31 true (.array .char) := ⟨RX10, TX10, 122, tyX10, cl_X10, by decide, wd183, rfl, tyX10_ok 31 (by decide), fun h => rfl⟩
theorem fp_X10_87 : k_fl RX10 87 10 32 true (.array .char) := ⟨RX10, TX10, 122, tyX10, cl_X10, by decide, wd184, rfl, tyX10_ok 32 (by decide), fun h => rfl⟩
theorem fp_X10_90 : k_fl RX10 90 10 33 true (.array .char) := ⟨RX10, TX10, 122, tyX10, cl_X10, by decide, wd185, rfl, tyX10_ok 33 (by decide), fun h => rfl⟩
theorem fp_X10_93 : k_fl RX10 93 10 34 true (.array .char) := ⟨RX10, TX10, 122, tyX10, cl_X10, by decide, wd186, rfl, tyX10_ok 34 (by decide), fun h => rfl⟩
theorem fp_X10_96 : k_fl RX10 96 10 35 true (.array .char) := ⟨RX10, TX10, 122, tyX10, cl_X10, by decide, wd187, rfl, tyX10_ok 35 (by decide), fun h => rfl⟩
theorem fp_X10_99 : k_fl RX10 99 10 36 true (.array .char) := ⟨RX10, TX10, 122, tyX10, cl_X10, by decide, wd188, rfl, tyX10_ok 36 (by decide), fun h => rfl⟩
theorem fp_X10_102 : k_fl RX10 102 10 37 true (.array .char) := ⟨RX10, TX10, 122, tyX10, cl_X10, by decide, wd189, rfl, tyX10_ok 37 (by decide), fun h => rfl⟩
theorem fp_X10_105 : k_fl RX10 105 10 38 true (.array .char) := ⟨RX10, TX10, 122, tyX10, cl_X10, by decide, wd190, rfl, tyX10_ok 38 (by decide), fun h => rfl⟩
theorem fp_X10_108 : k_fl RX10 108 10 39 true (.array .char) := ⟨RX10, TX10, 122, tyX10, cl_X10, by decide, wd191, rfl, tyX10_ok 39 (by decide), fun h => rfl⟩
theorem fp_X10_111 : k_fl RX10 111 10 41 true (.array .int) := ⟨RX10, TX10, 122, tyX10, cl_X10, by decide, wd192, rfl, tyX10_ok 41 (by decide), fun h => rfl⟩
theorem fp_X10_114 : k_fl RX10 114 10 42 true (.array .long) := ⟨RX10, TX10, 122, tyX10, cl_X10, by decide, wd194, rfl, tyX10_ok 42 (by decide), fun h => rfl⟩
theorem fp_X10_118 : k_fl RX10 118 10 43 true (.array .int) := ⟨RX10, TX10, 122, tyX10, cl_X10, by decide, wd195, rfl, tyX10_ok 43 (by decide), fun h => rfl⟩
theorem fp_X10_121 : k_fl RX10 121 10 44 true (.array .int) := ⟨RX10, TX10, 122, tyX10, cl_X10, by decide, wd196, rfl, tyX10_ok 44 (by decide), fun h => rfl⟩
theorem fp_X10_124 : k_fl RX10 124 10 45 true (.array .int) := ⟨RX10, TX10, 122, tyX10, cl_X10, by decide, wd197, rfl, tyX10_ok 45 (by decide), fun h => rfl⟩
theorem fp_X10_127 : k_fl RX10 127 10 46 true (.array .int) := ⟨RX10, TX10, 122, tyX10, cl_X10, by decide, wd198, rfl, tyX10_ok 46 (by decide), fun h => rfl⟩
theorem fp_X10_130 : k_fl RX10 130 10 49 true (.array .int) := ⟨RX10, TX10, 122, tyX10, cl_X10, by decide, wd199, rfl, tyX10_ok 49 (by decide), fun h => rfl⟩
theorem fp_X10_133 : k_fl RX10 133 10 50 true (.array .int) := ⟨RX10, TX10, 122, tyX10, cl_X10, by decide, wd200, rfl, tyX10_ok 50 (by decide), fun h => rfl⟩
theorem fp_X10_136 : k_fl RX10 136 10 51 true (.array .int) := ⟨RX10, TX10, 122, tyX10, cl_X10, by decide, wd201, rfl, tyX10_ok 51 (by decide), fun h => rfl⟩
theorem fp_X10_139 : k_fl RX10 139 10 56 true (.array .int) := ⟨RX10, TX10, 122, tyX10, cl_X10, by decide, wd202, rfl, tyX10_ok 56 (by decide), fun h => rfl⟩
theorem fp_X10_142 : k_fl RX10 142 10 57 true (.array .int) := ⟨RX10, TX10, 122, tyX10, cl_X10, by decide, wd203, rfl, tyX10_ok 57 (by decide), fun h => rfl⟩
theorem fp_X10_145 : k_fl RX10 145 10 60 true (.array .boolean) := ⟨RX10, TX10, 122, tyX10, cl_X10, by decide, wd205, rfl, tyX10_ok 60 (by decide), fun h => rfl⟩
theorem fp_X10_149 : k_fl RX10 149 10 61 true (.array .int) := ⟨RX10, TX10, 122, tyX10, cl_X10, by decide, wd206, rfl, tyX10_ok 61 (by decide), fun h => rfl⟩
theorem fp_X10_152 : k_fl RX10 152 10 62 true (.array .boolean) := ⟨RX10, TX10, 122, tyX10, cl_X10, by decide, wd207, rfl, tyX10_ok 62 (by decide), fun h => rfl⟩
theorem fp_X10_155 : k_fl RX10 155 10 63 true (.array .boolean) := ⟨RX10, TX10, 122, tyX10, cl_X10, by decide, wd208, rfl, tyX10_ok 63 (by decide), fun h => rfl⟩
theorem fp_X10_158 : k_fl RX10 158 10 64 true (.array .int) := ⟨RX10, TX10, 122, tyX10, cl_X10, by decide, wd209, rfl, tyX10_ok 64 (by decide), fun h => rfl⟩
theorem fp_X10_161 : k_fl RX10 161 10 65 true (.array .int) := ⟨RX10, TX10, 122, tyX10, cl_X10, by decide, wd210, rfl, tyX10_ok 65 (by decide), fun h => rfl⟩
theorem fp_X10_164 : k_fl RX10 164 10 66 true (.array .boolean) := ⟨RX10, TX10, 122, tyX10, cl_X10, by decide, wd211, rfl, tyX10_ok 66 (by decide), fun h => rfl⟩
theorem fp_X10_167 : k_fl RX10 167 10 67 true (.array .boolean) := ⟨RX10, TX10, 122, tyX10, cl_X10, by decide, wd212, rfl, tyX10_ok 67 (by decide), fun h => rfl⟩
theorem fp_X10_170 : k_fl RX10 170 10 68 true (.array .boolean) := ⟨RX10, TX10, 122, tyX10, cl_X10, by decide, wd213, rfl, tyX10_ok 68 (by decide), fun h => rfl⟩
theorem fp_X10_173 : k_fl RX10 173 10 69 true (.array .boolean) := ⟨RX10, TX10, 122, tyX10, cl_X10, by decide, wd214, rfl, tyX10_ok 69 (by decide), fun h => rfl⟩
theorem fp_X10_176 : k_fl RX10 176 10 76 true (.array .int) := ⟨RX10, TX10, 122, tyX10, cl_X10, by decide, wd215, rfl, tyX10_ok 76 (by decide), fun h => rfl⟩
theorem fp_X10_179 : k_fl RX10 179 10 77 true (.array .int) := ⟨RX10, TX10, 122, tyX10, cl_X10, by decide, wd216, rfl, tyX10_ok 77 (by decide), fun h => rfl⟩
theorem fp_X10_182 : k_fl RX10 182 10 81 true (.array .int) := ⟨RX10, TX10, 122, tyX10, cl_X10, by decide, wd217, rfl, tyX10_ok 81 (by decide), fun h => rfl⟩
theorem fp_X10_185 : k_fl RX10 185 10 84 false .long := ⟨RX10, TX10, 122, tyX10, cl_X10, by decide, wd218, rfl, tyX10_ok 84 (by decide), fun h => by cases h⟩
theorem fp_X10_189 : k_fl RX10 189 10 85 true (.array .char) := ⟨RX10, TX10, 122, tyX10, cl_X10, by decide, wd219, rfl, tyX10_ok 85 (by decide), fun h => rfl⟩
theorem fp_X10_192 : k_fl RX10 192 10 86 true (.array .char) := ⟨RX10, TX10, 122, tyX10, cl_X10, by decide, wd220, rfl, tyX10_ok 86 (by decide), fun h => rfl⟩
theorem fp_X10_195 : k_fl RX10 195 10 87 true (.array .char) := ⟨RX10, TX10, 122, tyX10, cl_X10, by decide, wd221, rfl, tyX10_ok 87 (by decide), fun h => rfl⟩
theorem fp_X10_198 : k_fl RX10 198 10 88 true (.array .char) := ⟨RX10, TX10, 122, tyX10, cl_X10, by decide, wd222, rfl, tyX10_ok 88 (by decide), fun h => rfl⟩
theorem fp_X10_201 : k_fl RX10 201 10 89 true (.array .char) := ⟨RX10, TX10, 122, tyX10, cl_X10, by decide, wd223, rfl, tyX10_ok 89 (by decide), fun h => rfl⟩
theorem fp_X10_204 : k_fl RX10 204 10 90 true (.array .char) := ⟨RX10, TX10, 122, tyX10, cl_X10, by decide, wd224, rfl, tyX10_ok 90 (by decide), fun h => rfl⟩
theorem fp_X10_207 : k_fl RX10 207 10 91 true (.array .char) := ⟨RX10, TX10, 122, tyX10, cl_X10, by decide, wd225, rfl, tyX10_ok 91 (by decide), fun h => rfl⟩
theorem fp_X10_210 : k_fl RX10 210 10 92 true (.array .char) := ⟨RX10, TX10, 122, tyX10, cl_X10, by decide, wd226, rfl, tyX10_ok 92 (by decide), fun h => rfl⟩
theorem fp_X10_213 : k_fl RX10 213 10 93 true (.array .char) := ⟨RX10, TX10, 122, tyX10, cl_X10, by decide, wd227, rfl, tyX10_ok 93 (by decide), fun h => rfl⟩
theorem fp_X10_216 : k_fl RX10 216 10 94 true (.array .char) := ⟨RX10, TX10, 122, tyX10, cl_X10, by decide, wd228, rfl, tyX10_ok 94 (by decide), fun h => rfl⟩
theorem fp_X10_219 : k_fl RX10 219 10 95 true (.array .char) := ⟨RX10, TX10, 122, tyX10, cl_X10, by decide, wd229, rfl, tyX10_ok 95 (by decide), fun h => rfl⟩
theorem fp_X10_222 : k_fl RX10 222 10 96 true (.array .char) := ⟨RX10, TX10, 122, tyX10, cl_X10, by decide, wd230, rfl, tyX10_ok 96 (by decide), fun h => rfl⟩
theorem fp_X10_225 : k_fl RX10 225 10 97 true (.array .char) := ⟨RX10, TX10, 122, tyX10, cl_X10, by decide, wd231, rfl, tyX10_ok 97 (by decide), fun h => rfl⟩
theorem fp_X10_228 : k_fl RX10 228 10 98 true (.array .char) := ⟨RX10, TX10, 122, tyX10, cl_X10, by decide, wd232, rfl, tyX10_ok 98 (by decide), fun h => rfl⟩
theorem fp_X10_231 : k_fl RX10 231 10 99 true (.array .char) := ⟨RX10, TX10, 122, tyX10, cl_X10, by decide, wd233, rfl, tyX10_ok 99 (by decide), fun h => rfl⟩
theorem fp_X10_234 : k_fl RX10 234 10 100 true (.array .char) := ⟨RX10, TX10, 122, tyX10, cl_X10, by decide, wd234, rfl, tyX10_ok 100 (by decide), fun h => rfl⟩
theorem fp_X10_237 : k_fl RX10 237 10 101 true (.array .char) := ⟨RX10, TX10, 122, tyX10, cl_X10, by decide, wd235, rfl, tyX10_ok 101 (by decide), fun h => rfl⟩
theorem fp_X10_240 : k_fl RX10 240 10 102 true (.array .char) := ⟨RX10, TX10, 122, tyX10, cl_X10, by decide, wd236, rfl, tyX10_ok 102 (by decide), fun h => rfl⟩
theorem fp_X10_243 : k_fl RX10 243 10 103 true (.array .char) := ⟨RX10, TX10, 122, tyX10, cl_X10, by decide, wd237, rfl, tyX10_ok 103 (by decide), fun h => rfl⟩
theorem fp_X10_246 : k_fl RX10 246 10 104 true (.array .char) := ⟨RX10, TX10, 122, tyX10, cl_X10, by decide, wd238, rfl, tyX10_ok 104 (by decide), fun h => rfl⟩
theorem fp_X10_249 : k_fl RX10 249 10 105 true (.array .char) := ⟨RX10, TX10, 122, tyX10, cl_X10, by decide, wd239, rfl, tyX10_ok 105 (by decide), fun h => rfl⟩
theorem fp_X10_252 : k_fl RX10 252 10 106 true (.array .char) := ⟨RX10, TX10, 122, tyX10, cl_X10, by decide, wd240, rfl, tyX10_ok 106 (by decide), fun h => rfl⟩
theorem fp_X10_255 : k_fl RX10 255 10 107 true (.array .char) := ⟨RX10, TX10, 122, tyX10, cl_X10, by decide, wd241, rfl, tyX10_ok 107 (by decide), fun h => rfl⟩
theorem fp_X10_258 : k_fl RX10 258 10 108 true (.array .char) := ⟨RX10, TX10, 122, tyX10, cl_X10, by decide, wd242, rfl, tyX10_ok 108 (by decide), fun h => rfl⟩
theorem fp_X10_261 : k_fl RX10 261 10 109 true (.array .char) := ⟨RX10, TX10, 122, tyX10, cl_X10, by decide, wd243, rfl, tyX10_ok 109 (by decide), fun h => rfl⟩
theorem fp_X10_264 : k_fl RX10 264 10 110 true (.array .int) := ⟨RX10, TX10, 122, tyX10, cl_X10, by decide, wd244, rfl, tyX10_ok 110 (by decide), fun h => rfl⟩
theorem fp_X10_267 : k_fl RX10 267 10 112 true (.array .int) := ⟨RX10, TX10, 122, tyX10, cl_X10, by decide, wd245, rfl, tyX10_ok 112 (by decide), fun h => rfl⟩
theorem fp_X10_270 : k_fl RX10 270 10 116 true (.array .long) := ⟨RX10, TX10, 122, tyX10, cl_X10, by decide, wd246, rfl, tyX10_ok 116 (by decide), fun h => rfl⟩
theorem fp_X10_273 : k_fl RX10 273 10 120 true (.array .int) := ⟨RX10, TX10, 122, tyX10, cl_X10, by decide, wd247, rfl, tyX10_ok 120 (by decide), fun h => rfl⟩
theorem fg_X9_13 : k_fg RX9 13 9 1 := ⟨RX9, TX9, 16, tyX9, cl_X9, by decide, wd14⟩
theorem mV_X9_106 : k_mv RX9 106 RX9 yX9_putBytes cX9_putBytes 3 none 1 := ⟨wd256, wd257, wd258, wd2, wd259, by decide +kernel⟩
theorem mV_X9_110 : k_mv RX9 110 RX9 yX9_deny cX9_deny 2 (some .boolean) 1 := ⟨wd269, wd270, wd271, wd2, wd272, by decide +kernel⟩
theorem fg_X9_95 : k_fg RX9 95 9 14 := ⟨RX9, TX9, 16, tyX9, cl_X9, by decide, wd54⟩
theorem fg_X9_53 : k_fg RX9 53 9 7 := ⟨RX9, TX9, 16, tyX9, cl_X9, by decide, wd35⟩
theorem mV_X9_114 : k_mv RX9 114 RX9 yX9_takeTape cX9_takeTape 2 (some .int) 0 := ⟨wd283, wd284, wd285, wd2, wd286, by decide +kernel⟩
theorem mV_X9_118 : k_mv RX9 118 RX5 yX5_readCrossing cX5_readCrossing 4 none 2 := ⟨wd287, wd288, wd289, wd34, wd290, by decide +kernel⟩
theorem mV_X5_41 : k_mv RX5 41 RX5 yX5_begin cX5_begin 3 none 2 := ⟨wd293, wd294, wd295, wd34, wd296, by decide +kernel⟩
theorem mV_X5_96 : k_mv RX5 96 RX4 yX4_clear cX4_clear 1 none 0 := ⟨wd301, wd302, wd303, wd17, wd304, by decide +kernel⟩
theorem fp_X4_39 : k_fl RX4 39 4 0 false .int := ⟨RX4, TX4, 18, tyX4, cl_X4, by decide, wd305, rfl, tyX4_ok 0 (by decide), fun h => by cases h⟩
theorem fp_X4_43 : k_fl RX4 43 4 4 false .int := ⟨RX4, TX4, 18, tyX4, cl_X4, by decide, wd306, rfl, tyX4_ok 4 (by decide), fun h => by cases h⟩
theorem fp_X4_46 : k_fl RX4 46 4 5 false .int := ⟨RX4, TX4, 18, tyX4, cl_X4, by decide, wd307, rfl, tyX4_ok 5 (by decide), fun h => by cases h⟩
theorem fp_X4_49 : k_fl RX4 49 4 6 false .int := ⟨RX4, TX4, 18, tyX4, cl_X4, by decide, wd308, rfl, tyX4_ok 6 (by decide), fun h => by cases h⟩
theorem fp_X4_52 : k_fl RX4 52 4 10 false .int := ⟨RX4, TX4, 18, tyX4, cl_X4, by decide, wd309, rfl, tyX4_ok 10 (by decide), fun h => by cases h⟩
theorem fp_X4_55 : k_fl RX4 55 4 16 false .int := ⟨RX4, TX4, 18, tyX4, cl_X4, by decide, wd310, rfl, tyX4_ok 16 (by decide), fun h => by cases h⟩
theorem fg_X4_27 : k_fg RX4 27 4 13 := ⟨RX4, TX4, 18, tyX4, cl_X4, by decide, wd64⟩
theorem mS_X4_58 : k_ms RX4 58 yJ7_fill_53178 cJ7_fill_53178 4 none 2 := ⟨wd311, wd312, wd313, wd314, by decide +kernel⟩
theorem fg_X4_36 : k_fg RX4 36 4 17 := ⟨RX4, TX4, 18, tyX4, cl_X4, by decide, wd67⟩
theorem fg_X5_33 : k_fg RX5 33 5 0 := ⟨RX5, TX5, 9, tyX5, cl_X5, by decide, wd99⟩
theorem mV_X5_86 : k_mv RX5 86 RX5 yX5_moveTo cX5_moveTo 3 none 1 := ⟨wd315, wd316, wd317, wd34, wd318, by decide +kernel⟩
theorem fg_X5_15 : k_fg RX5 15 5 2 := ⟨RX5, TX5, 9, tyX5, cl_X5, by decide, wd93⟩
theorem fg_X5_11 : k_fg RX5 11 5 1 := ⟨RX5, TX5, 9, tyX5, cl_X5, by decide, wd92⟩
theorem mV_X5_252 : k_mv RX5 252 RX5 yX5_sortOf cX5_sortOf 2 (some .int) 1 := ⟨wd319, wd320, wd321, wd34, wd322, by decide +kernel⟩
theorem fg_X5_18 : k_fg RX5 18 5 3 := ⟨RX5, TX5, 9, tyX5, cl_X5, by decide, wd94⟩
theorem mV_X5_45 : k_mv RX5 45 RX5 yX5_firstStatement cX5_firstStatement 1 none 0 := ⟨wd323, wd324, wd325, wd34, wd326, by decide +kernel⟩
theorem fg_X5_37 : k_fg RX5 37 5 6 := ⟨RX5, TX5, 9, tyX5, cl_X5, by decide, wd100⟩
theorem mV_X5_70 : k_mv RX5 70 RX5 yX5_numberBehind cX5_numberBehind 4 (some .int) 3 := ⟨wd331, wd332, wd333, wd34, wd334, by decide +kernel⟩
theorem mV_X5_144 : k_mv RX5 144 RX5 yX5_needWord cX5_needWord 2 none 1 := ⟨wd335, wd336, wd337, wd34, wd338, by decide +kernel⟩
theorem mV_X5_54 : k_mv RX5 54 RX5 yX5_wordIn cX5_wordIn 6 (some .int) 1 := ⟨wd339, wd340, wd341, wd34, wd342, by decide +kernel⟩
theorem fg_X5_21 : k_fg RX5 21 5 4 := ⟨RX5, TX5, 9, tyX5, cl_X5, by decide, wd95⟩
theorem mV_X5_78 : k_mv RX5 78 RX5 yX5_fail cX5_fail 3 none 2 := ⟨wd392, wd393, wd394, wd34, wd395, by decide +kernel⟩
theorem fg_X5_27 : k_fg RX5 27 5 7 := ⟨RX5, TX5, 9, tyX5, cl_X5, by decide, wd97⟩
theorem mV_X5_168 : k_mv RX5 168 RX5 yX5_number cX5_number 5 (some .int) 2 := ⟨wd396, wd397, wd398, wd34, wd399, by decide +kernel⟩
theorem fp_X5_107 : k_fl RX5 107 4 0 false .int := ⟨RX4, TX4, 18, tyX4, cl_X4, by decide, wd327, rfl, tyX4_ok 0 (by decide), fun h => by cases h⟩
theorem fg_X5_107 : k_fg RX5 107 4 0 := ⟨RX4, TX4, 18, tyX4, cl_X4, by decide, wd327⟩
theorem fp_X5_111 : k_fl RX5 111 4 1 false .int := ⟨RX4, TX4, 18, tyX4, cl_X4, by decide, wd328, rfl, tyX4_ok 1 (by decide), fun h => by cases h⟩
theorem fp_X5_115 : k_fl RX5 115 4 2 false .int := ⟨RX4, TX4, 18, tyX4, cl_X4, by decide, wd329, rfl, tyX4_ok 2 (by decide), fun h => by cases h⟩
theorem fp_X5_119 : k_fl RX5 119 4 3 false .int := ⟨RX4, TX4, 18, tyX4, cl_X4, by decide, wd330, rfl, tyX4_ok 3 (by decide), fun h => by cases h⟩
theorem mV_X5_48 : k_mv RX5 48 RX5 yX5_need cX5_need 2 none 1 := ⟨wd400, wd401, wd402, wd34, wd403, by decide +kernel⟩
theorem mV_X5_213 : k_mv RX5 213 RX5 yX5_sees cX5_sees 2 (some .boolean) 1 := ⟨wd404, wd405, wd406, wd34, wd407, by decide +kernel⟩
theorem fp_X5_81 : k_fl RX5 81 4 5 false .int := ⟨RX4, TX4, 18, tyX4, cl_X4, by decide, wd292, rfl, tyX4_ok 5 (by decide), fun h => by cases h⟩
theorem fg_X9_122 : k_fg RX9 122 5 7 := ⟨RX5, TX5, 9, tyX5, cl_X5, by decide, wd281⟩
theorem mV_X9_102 : k_mv RX9 102 RX9 yX9_refuse cX9_refuse 2 (some .int) 1 := ⟨wd252, wd253, wd254, wd2, wd255, by decide +kernel⟩
theorem fg_X9_142 : k_fg RX9 142 5 8 := ⟨RX5, TX5, 9, tyX5, cl_X5, by decide, wd743⟩
theorem fg_X9_145 : k_fg RX9 145 4 0 := ⟨RX4, TX4, 18, tyX4, cl_X4, by decide, wd752⟩
theorem fg_X9_148 : k_fg RX9 148 4 6 := ⟨RX4, TX4, 18, tyX4, cl_X4, by decide, wd753⟩
theorem fg_X9_151 : k_fg RX9 151 4 10 := ⟨RX4, TX4, 18, tyX4, cl_X4, by decide, wd754⟩
theorem fg_X9_30 : k_fg RX9 30 9 4 := ⟨RX9, TX9, 16, tyX9, cl_X9, by decide, wd23⟩
theorem fg_X9_154 : k_fg RX9 154 6 0 := ⟨RX6, TX6, 4, tyX6, cl_X6, by decide, wd755⟩
theorem fg_X9_157 : k_fg RX9 157 6 1 := ⟨RX6, TX6, 4, tyX6, cl_X6, by decide, wd756⟩
theorem fg_X9_160 : k_fg RX9 160 6 2 := ⟨RX6, TX6, 4, tyX6, cl_X6, by decide, wd757⟩
theorem fg_X9_85 : k_fg RX9 85 9 11 := ⟨RX9, TX9, 16, tyX9, cl_X9, by decide, wd51⟩
theorem fg_X9_163 : k_fg RX9 163 8 3 := ⟨RX8, TX8, 11, tyX8, cl_X8, by decide, wd758⟩
theorem fg_X9_37 : k_fg RX9 37 9 5 := ⟨RX9, TX9, 16, tyX9, cl_X9, by decide, wd27⟩
theorem fg_X9_166 : k_fg RX9 166 2 2 := ⟨RX2, TX2, 3, tyX2, cl_X2, by decide, wd759⟩
theorem mV_X9_172 : k_mv RX9 172 RX9 yX9_isWalker cX9_isWalker 2 (some .boolean) 1 := ⟨wd781, wd782, wd783, wd2, wd784, by decide +kernel⟩
theorem mV_X9_169 : k_mv RX9 169 RX9 yX9_isKind cX9_isKind 2 (some .boolean) 1 := ⟨wd777, wd778, wd779, wd2, wd780, by decide +kernel⟩
theorem mV_X9_218 : k_mv RX9 218 RX9 yX9_stands cX9_stands 1 (some .boolean) 0 := ⟨wd995, wd996, wd997, wd2, wd998, by decide +kernel⟩
theorem mV_X9_254 : k_mv RX9 254 RX8 yX8_accepts cX8_accepts 6 (some .boolean) 3 := ⟨wd1193, wd1194, wd1195, wd50, wd1196, by decide +kernel⟩
theorem mV_X9_284 : k_mv RX9 284 RX4 yX4_allowsGreen cX4_allowsGreen 2 (some .boolean) 1 := ⟨wd1303, wd1304, wd1305, wd17, wd1306, by decide +kernel⟩
theorem fg_X4_39 : k_fg RX4 39 4 0 := ⟨RX4, TX4, 18, tyX4, cl_X4, by decide, wd305⟩
theorem mV_X9_287 : k_mv RX9 287 RX9 yX9_canLive cX9_canLive 2 (some .boolean) 1 := ⟨wd1323, wd1324, wd1325, wd2, wd1326, by decide +kernel⟩
theorem mV_X9_305 : k_mv RX9 305 RX2 yX2_giveBack cX2_giveBack 2 (some .boolean) 1 := ⟨wd1363, wd1364, wd1365, wd26, wd1366, by decide +kernel⟩
theorem fg_X2_21 : k_fg RX2 21 2 2 := ⟨RX2, TX2, 3, tyX2, cl_X2, by decide, wd82⟩
theorem fg_X9_89 : k_fg RX9 89 9 12 := ⟨RX9, TX9, 16, tyX9, cl_X9, by decide, wd52⟩
theorem mS_X9_319 : k_ms RX9 319 yX9_check cX9_check 4 (some .int) 2 := ⟨wd1428, wd1429, wd2, wd1430, by decide +kernel⟩
theorem fg_X9_92 : k_fg RX9 92 9 13 := ⟨RX9, TX9, 16, tyX9, cl_X9, by decide, wd53⟩
theorem mV_X9_322 : k_mv RX9 322 RX9 yX9_isImage cX9_isImage 3 (some .boolean) 1 := ⟨wd1456, wd1457, wd1458, wd2, wd1459, by decide +kernel⟩
theorem fg_X10_276 : k_fg RX10 276 10 1 := ⟨RX10, TX10, 122, tyX10, cl_X10, by decide, wd264⟩
theorem fg_X10_7 : k_fg RX10 7 10 0 := ⟨RX10, TX10, 122, tyX10, cl_X10, by decide, wd158⟩
theorem fp_X10_276 : k_fl RX10 276 10 1 false .int := ⟨RX10, TX10, 122, tyX10, cl_X10, by decide, wd264, rfl, tyX10_ok 1 (by decide), fun h => by cases h⟩
theorem fg_X10_17 : k_fg RX10 17 10 9 := ⟨RX10, TX10, 122, tyX10, cl_X10, by decide, wd160⟩
theorem fp_X10_288 : k_fl RX10 288 10 3 false .int := ⟨RX10, TX10, 122, tyX10, cl_X10, by decide, wd551, rfl, tyX10_ok 3 (by decide), fun h => by cases h⟩
theorem fp_X10_285 : k_fl RX10 285 10 2 false .int := ⟨RX10, TX10, 122, tyX10, cl_X10, by decide, wd552, rfl, tyX10_ok 2 (by decide), fun h => by cases h⟩
theorem fp_X10_299 : k_fl RX10 299 10 4 false .int := ⟨RX10, TX10, 122, tyX10, cl_X10, by decide, wd553, rfl, tyX10_ok 4 (by decide), fun h => by cases h⟩
theorem fp_X10_279 : k_fl RX10 279 10 5 false .int := ⟨RX10, TX10, 122, tyX10, cl_X10, by decide, wd554, rfl, tyX10_ok 5 (by decide), fun h => by cases h⟩
theorem fp_X10_282 : k_fl RX10 282 10 6 false .int := ⟨RX10, TX10, 122, tyX10, cl_X10, by decide, wd555, rfl, tyX10_ok 6 (by decide), fun h => by cases h⟩
theorem fp_X10_387 : k_fl RX10 387 10 52 false .int := ⟨RX10, TX10, 122, tyX10, cl_X10, by decide, wd556, rfl, tyX10_ok 52 (by decide), fun h => by cases h⟩
theorem fg_X10_111 : k_fg RX10 111 10 41 := ⟨RX10, TX10, 122, tyX10, cl_X10, by decide, wd192⟩
theorem fg_X10_130 : k_fg RX10 130 10 49 := ⟨RX10, TX10, 122, tyX10, cl_X10, by decide, wd199⟩
theorem fp_X10_402 : k_fl RX10 402 10 47 false .int := ⟨RX10, TX10, 122, tyX10, cl_X10, by decide, wd557, rfl, tyX10_ok 47 (by decide), fun h => by cases h⟩
theorem mV_X10_405 : k_mv RX10 405 RX10 yX10_barTold cX10_barTold 1 none 0 := ⟨wd560, wd561, wd562, wd5, wd563, by decide +kernel⟩
theorem fg_X10_20 : k_fg RX10 20 10 10 := ⟨RX10, TX10, 122, tyX10, cl_X10, by decide, wd162⟩
theorem mV_X10_350 : k_mv RX10 350 RX10 yX10_asks cX10_asks 2 none 1 := ⟨wd564, wd565, wd566, wd5, wd567, by decide +kernel⟩
theorem fg_X10_279 : k_fg RX10 279 10 5 := ⟨RX10, TX10, 122, tyX10, cl_X10, by decide, wd554⟩
theorem mV_X10_305 : k_mv RX10 305 RX10 yX10_takes cX10_takes 2 (some .boolean) 1 := ⟨wd568, wd569, wd570, wd5, wd571, by decide +kernel⟩
theorem mV_X10_302 : k_mv RX10 302 RX10 yX10_isHere cX10_isHere 4 (some .boolean) 1 := ⟨wd572, wd573, wd574, wd5, wd575, by decide +kernel⟩
theorem mV_X10_291 : k_mv RX10 291 RX10 yX10_look cX10_look 1 (some .int) 0 := ⟨wd576, wd577, wd578, wd5, wd579, by decide +kernel⟩
theorem fg_X10_285 : k_fg RX10 285 10 2 := ⟨RX10, TX10, 122, tyX10, cl_X10, by decide, wd552⟩
theorem fg_X10_288 : k_fg RX10 288 10 3 := ⟨RX10, TX10, 122, tyX10, cl_X10, by decide, wd551⟩
theorem mS_X10_295 : k_ms RX10 295 yX10_isLetter cX10_isLetter 1 (some .boolean) 1 := ⟨wd580, wd581, wd5, wd582, by decide +kernel⟩
theorem mV_X10_308 : k_mv RX10 308 RX10 yX10_fail cX10_fail 3 none 2 := ⟨wd583, wd584, wd585, wd5, wd586, by decide +kernel⟩
theorem fg_X10_118 : k_fg RX10 118 10 43 := ⟨RX10, TX10, 122, tyX10, cl_X10, by decide, wd195⟩
theorem mV_X10_354 : k_mv RX10 354 RX10 yX10_number cX10_number 5 (some .int) 2 := ⟨wd587, wd588, wd589, wd5, wd590, by decide +kernel⟩
theorem fg_X10_24 : k_fg RX10 24 10 11 := ⟨RX10, TX10, 122, tyX10, cl_X10, by decide, wd163⟩
theorem fg_X10_27 : k_fg RX10 27 10 12 := ⟨RX10, TX10, 122, tyX10, cl_X10, by decide, wd164⟩
theorem fg_X10_30 : k_fg RX10 30 10 13 := ⟨RX10, TX10, 122, tyX10, cl_X10, by decide, wd165⟩
theorem mV_X10_358 : k_mv RX10 358 RX10 yX10_asksSign cX10_asksSign 2 none 1 := ⟨wd597, wd598, wd599, wd5, wd600, by decide +kernel⟩
theorem fp_X10_390 : k_fl RX10 390 10 53 false .int := ⟨RX10, TX10, 122, tyX10, cl_X10, by decide, wd558, rfl, tyX10_ok 53 (by decide), fun h => by cases h⟩
theorem fp_X10_411 : k_fl RX10 411 10 7 false .int := ⟨RX10, TX10, 122, tyX10, cl_X10, by decide, wd559, rfl, tyX10_ok 7 (by decide), fun h => by cases h⟩
theorem fg_X10_282 : k_fg RX10 282 10 6 := ⟨RX10, TX10, 122, tyX10, cl_X10, by decide, wd555⟩
theorem fg_X10_13 : k_fg RX10 13 10 8 := ⟨RX10, TX10, 122, tyX10, cl_X10, by decide, wd159⟩
theorem fg_X10_411 : k_fg RX10 411 10 7 := ⟨RX10, TX10, 122, tyX10, cl_X10, by decide, wd559⟩
theorem mV_X10_430 : k_mv RX10 430 RX10 yX10_kindMany cX10_kindMany 1 (some .int) 0 := ⟨wd764, wd765, wd766, wd5, wd767, by decide +kernel⟩
theorem mV_X10_433 : k_mv RX10 433 RX10 yX10_walkerMany cX10_walkerMany 1 (some .int) 0 := ⟨wd768, wd769, wd770, wd5, wd771, by decide +kernel⟩
theorem fg_X10_139 : k_fg RX10 139 10 56 := ⟨RX10, TX10, 122, tyX10, cl_X10, by decide, wd202⟩
theorem fg_X10_427 : k_fg RX10 427 10 75 := ⟨RX10, TX10, 122, tyX10, cl_X10, by decide, wd738⟩
theorem fg_X10_424 : k_fg RX10 424 10 82 := ⟨RX10, TX10, 122, tyX10, cl_X10, by decide, wd737⟩
theorem mS_X10_318 : k_ms RX10 318 yX10_isIn cX10_isIn 6 (some .boolean) 3 := ⟨wd594, wd595, wd5, wd596, by decide +kernel⟩
theorem mV_X10_528 : k_mv RX10 528 RX10 yX10_isKind cX10_isKind 2 (some .boolean) 1 := ⟨wd805, wd806, wd807, wd5, wd808, by decide +kernel⟩
theorem mV_X10_531 : k_mv RX10 531 RX10 yX10_isWalker cX10_isWalker 2 (some .boolean) 1 := ⟨wd918, wd919, wd920, wd5, wd921, by decide +kernel⟩
theorem fg_X10_417 : k_fg RX10 417 10 54 := ⟨RX10, TX10, 122, tyX10, cl_X10, by decide, wd735⟩
theorem mV_X10_554 : k_mv RX10 554 RX10 yX10_isAhead cX10_isAhead 4 (some .boolean) 3 := ⟨wd1158, wd1159, wd1160, wd5, wd1161, by decide +kernel⟩
theorem mV_X10_567 : k_mv RX10 567 RX10 yX10_refuses cX10_refuses 2 (some .int) 1 := ⟨wd1207, wd1208, wd1209, wd5, wd1210, by decide +kernel⟩
theorem mV_X10_591 : k_mv RX10 591 RX10 yX10_isRefused cX10_isRefused 1 (some .boolean) 0 := ⟨wd1290, wd1291, wd1292, wd5, wd1293, by decide +kernel⟩
theorem fp_X10_699 : k_fl RX10 699 10 121 false .int := ⟨RX10, TX10, 122, tyX10, cl_X10, by decide, wd1435, rfl, tyX10_ok 121 (by decide), fun h => by cases h⟩
theorem mV_X10_702 : k_mv RX10 702 RX10 yX10_writes cX10_writes 2 none 1 := ⟨wd1436, wd1437, wd1438, wd5, wd1439, by decide +kernel⟩
theorem fg_X10_273 : k_fg RX10 273 10 120 := ⟨RX10, TX10, 122, tyX10, cl_X10, by decide, wd247⟩
theorem fg_X10_699 : k_fg RX10 699 10 121 := ⟨RX10, TX10, 122, tyX10, cl_X10, by decide, wd1435⟩
theorem mS_X10_705 : k_ms RX10 705 yX10_checked cX10_checked 4 (some .int) 2 := ⟨wd1440, wd1441, wd5, wd1442, by decide +kernel⟩
theorem mV_X10_709 : k_mv RX10 709 RX10 yX10_isImage cX10_isImage 3 (some .boolean) 1 := ⟨wd1464, wd1465, wd1466, wd5, wd1467, by decide +kernel⟩
