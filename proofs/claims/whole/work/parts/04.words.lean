theorem goodIn_ap {big a b : List Cond} (ha : GoodIn big a) (hb : GoodIn big b) : GoodIn big (a ++ b) := fun w h => (List.mem_append.mp h).elim (ha w) (hb w)
/-- a method: name, bytes, locals, what it returns, its class, how many parameters, its kind (0 static, 1 instance, 2 constructor), its code -/
abbrev MI : Type := MethodName × ByteArray × Nat × Option FieldType × Nat × Nat × Nat × List (Nat × Ent)
def mi0 : MI := (yX0_init, cX0_init, 3, none, 0, 2, 2, ct0)
def mi1 : MI := (yX0_holdTalk, cX0_holdTalk, 6, some .int, 0, 3, 1, ct1)
def mi2 : MI := (yX0_developRoll, cX0_developRoll, 3, some .int, 0, 1, 1, ct2)
def mi3 : MI := (yX0_buryPerson, cX0_buryPerson, 2, some .int, 0, 1, 1, ct3)
def mi4 : MI := (yX0_passWeek, cX0_passWeek, 1, some .int, 0, 0, 1, ct4)
def mi5 : MI := (yX0_undoLatest, cX0_undoLatest, 4, some .int, 0, 0, 1, ct5)
def mi6 : MI := (yX0_forgetAll, cX0_forgetAll, 1, none, 0, 0, 1, ct6)
def mi7 : MI := (yX0_markPlace, cX0_markPlace, 1, none, 0, 0, 1, ct7)
def mi8 : MI := (yX0_returnToPlace, cX0_returnToPlace, 1, none, 0, 0, 1, ct8)
def mi9 : MI := (yX0_changed, cX0_changed, 2, some .int, 0, 2, 0, ct9)
def mi10 : MI := (yX0_keep, cX0_keep, 3, none, 0, 2, 1, ct10)
def mi11 : MI := (yX1_init, cX1_init, 3, none, 1, 2, 2, ct11)
def mi12 : MI := (yX1_outcome, cX1_outcome, 10, some .int, 1, 5, 1, ct12)
def mi13 : MI := (yX1_takenBy, cX1_takenBy, 6, some .int, 1, 3, 1, ct13)
def mi14 : MI := (yX1_swayOf, cX1_swayOf, 4, some .int, 1, 3, 1, ct14)
def mi15 : MI := (yX1_isBarred, cX1_isBarred, 4, some .boolean, 1, 3, 1, ct15)
def mi16 : MI := (yX1_hearNow, cX1_hearNow, 5, none, 1, 3, 1, ct16)
def mi17 : MI := (yX1_hear, cX1_hear, 11, none, 1, 5, 1, ct17)
def mi18 : MI := (yX1_setWords, cX1_setWords, 6, none, 1, 5, 1, ct18)
def mi19 : MI := (yX2_init, cX2_init, 4, none, 2, 3, 2, ct19)
def mi20 : MI := (yX2_run, cX2_run, 5, some .int, 2, 1, 1, ct20)
def mi21 : MI := (yX2_couldRun, cX2_couldRun, 9, some .boolean, 2, 2, 1, ct21)
def mi22 : MI := (yX2_sumOf, cX2_sumOf, 5, some .int, 2, 3, 1, ct22)
def mi23 : MI := (yX2_setWords, cX2_setWords, 3, none, 2, 0, 1, ct23)
def mi24 : MI := (yX3_init, cX3_init, 3, none, 3, 2, 2, ct24)
def mi25 : MI := (yX3_countGivings, cX3_countGivings, 4, some .int, 3, 0, 1, ct25)
def mi26 : MI := (yX3_markGiven, cX3_markGiven, 10, some .int, 3, 2, 1, ct26)
def mi27 : MI := (yX3_heapOf, cX3_heapOf, 7, some .int, 3, 2, 1, ct27)
def mi28 : MI := (yX3_chanceOf, cX3_chanceOf, 10, some .int, 3, 2, 1, ct28)
def mi29 : MI := (yX3_chanceOfSet, cX3_chanceOfSet, 7, some .long, 3, 3, 0, ct29)
def mi30 : MI := (yX3_drawYears, cX3_drawYears, 9, some .int, 3, 2, 1, ct30)
def mi31 : MI := (yX3_markDrawn, cX3_markDrawn, 3, some .int, 3, 2, 1, ct31)
def mi32 : MI := (yX3_draw, cX3_draw, 2, some .int, 3, 1, 1, ct32)
def mi33 : MI := (yX3_talkOnPaper, cX3_talkOnPaper, 7, some .int, 3, 4, 1, ct33)
def mi34 : MI := (yX4_init, cX4_init, 3, none, 4, 2, 2, ct34)
def mi35 : MI := (yX4_open, cX4_open, 2, none, 4, 1, 1, ct35)
def mi36 : MI := (yX4_rowAfter, cX4_rowAfter, 9, some .int, 4, 3, 1, ct36)
def mi37 : MI := (yX4_chatterRounds, cX4_chatterRounds, 3, some .int, 4, 1, 1, ct37)
def mi38 : MI := (yX4_hasRoundChanged, cX4_hasRoundChanged, 5, some .boolean, 4, 0, 1, ct38)
def mi39 : MI := (yX5_init, cX5_init, 1, none, 5, 0, 2, ct39)
def mi40 : MI := (yX5_read, cX5_read, 5, some .boolean, 5, 3, 1, ct40)
def mi41 : MI := (yX5_split, cX5_split, 5, none, 5, 2, 1, ct41)
def mi42 : MI := (yX5_add, cX5_add, 3, none, 5, 2, 1, ct42)
def mi43 : MI := (yX5_numberAt, cX5_numberAt, 5, some .int, 5, 3, 0, ct43)
def mi44 : MI := (yX5_wordAt, cX5_wordAt, 6, some .int, 5, 3, 0, ct44)
def mi45 : MI := (yX5_isSameWord, cX5_isSameWord, 5, some .boolean, 5, 4, 0, ct45)
def mi46 : MI := (yX5_isLetter, cX5_isLetter, 1, some .boolean, 5, 1, 0, ct46)
def mi47 : MI := (yX5_isDigit, cX5_isDigit, 1, some .boolean, 5, 1, 0, ct47)
def mi48 : MI := (yX5_token, cX5_token, 1, some .int, 5, 0, 1, ct48)
def mi49 : MI := (yX5_wrong, cX5_wrong, 1, some .boolean, 5, 0, 1, ct49)
def mi50 : MI := (yX5_passed, cX5_passed, 2, some .boolean, 5, 1, 1, ct50)
def mi51 : MI := (yX5_lawClause, cX5_lawClause, 2, some .boolean, 5, 0, 1, ct51)
def mi52 : MI := (yX5_orderClause, cX5_orderClause, 2, some .boolean, 5, 0, 1, ct52)
def mi53 : MI := (yX5_repetition, cX5_repetition, 2, some .boolean, 5, 0, 1, ct53)
def mi54 : MI := (yX5_condition, cX5_condition, 1, some .boolean, 5, 0, 1, ct54)
def mi55 : MI := (yX5_wholeSum, cX5_wholeSum, 2, some .boolean, 5, 1, 1, ct55)
def mi56 : MI := (yX5_test, cX5_test, 4, some .boolean, 5, 1, 1, ct56)
def mi57 : MI := (yX5_both, cX5_both, 4, some .boolean, 5, 1, 1, ct57)
def mi58 : MI := (yX5_plain, cX5_plain, 4, some .boolean, 5, 1, 1, ct58)
def mi59 : MI := (yX5_sum, cX5_sum, 4, some .boolean, 5, 1, 1, ct59)
def mi60 : MI := (yX5_term, cX5_term, 4, some .boolean, 5, 1, 1, ct60)
def mi61 : MI := (yX5_part, cX5_part, 3, some .boolean, 5, 1, 1, ct61)
def mi62 : MI := (yX5_orderWord, cX5_orderWord, 4, some .boolean, 5, 1, 1, ct62)
def mi63 : MI := (yX6_init, cX6_init, 3, none, 6, 2, 2, ct63)
def mi64 : MI := (yX6_gather, cX6_gather, 6, none, 6, 1, 1, ct64)
def mi65 : MI := (yX6_markIn, cX6_markIn, 3, some .int, 6, 2, 1, ct65)
def mi66 : MI := (yX6_bestToAsk, cX6_bestToAsk, 5, some .int, 6, 0, 1, ct66)
def mi67 : MI := (yX6_mostAlike, cX6_mostAlike, 5, some .int, 6, 1, 1, ct67)
def mi68 : MI := (yX6_digitsOfSilent, cX6_digitsOfSilent, 4, some .int, 6, 1, 1, ct68)
def mi69 : MI := (yX6_rowBehindTold, cX6_rowBehindTold, 6, some .int, 6, 2, 1, ct69)
def mi70 : MI := (yX7_init, cX7_init, 3, none, 7, 2, 2, ct70)
def mi71 : MI := (yX7_shortestWay, cX7_shortestWay, 7, some .int, 7, 2, 1, ct71)
def mi72 : MI := (yX7_endMarks, cX7_endMarks, 5, some .int, 7, 1, 1, ct72)
def mi73 : MI := (yX7_smallestCompany, cX7_smallestCompany, 4, some .int, 7, 1, 1, ct73)
def mi74 : MI := (yX7_open, cX7_open, 2, none, 7, 1, 1, ct74)
def mi75 : MI := (yX7_walk, cX7_walk, 8, some .int, 7, 2, 1, ct75)
def mi76 : MI := (yX8_init, cX8_init, 1, none, 8, 0, 2, ct76)
def mi77 : MI := (yX8_value, cX8_value, 10, some .int, 8, 3, 1, ct77)
def mi78 : MI := (yX8_joined, cX8_joined, 7, some .int, 8, 3, 0, ct78)
def mi79 : MI := (yX8_isSo, cX8_isSo, 1, some .boolean, 8, 1, 0, ct79)
def mi80 : MI := (yX9_init, cX9_init, 2, none, 9, 1, 2, ct80)
def mi81 : MI := (yX9_copy, cX9_copy, 2, some (.object "RollsAgree$Text"), 9, 0, 1, ct81)
def mi82 : MI := (yX9_clear, cX9_clear, 1, none, 9, 0, 1, ct82)
def mi83 : MI := (yX9_addClause, cX9_addClause, 3, none, 9, 1, 1, ct83)
def mi84 : MI := (yX9_head, cX9_head, 3, some .int, 9, 2, 1, ct84)
def mi85 : MI := (yX9_setLatestHead, cX9_setLatestHead, 3, none, 9, 2, 1, ct85)
def mi86 : MI := (yX9_put, cX9_put, 3, some .int, 9, 2, 1, ct86)
def mi87 : MI := (yX9_land, cX9_land, 2, none, 9, 1, 1, ct87)
def mi88 : MI := (yX10_init, cX10_init, 1, none, 10, 0, 2, ct88)
def mi89 : MI := (yX10_copyFrom, cX10_copyFrom, 3, none, 10, 1, 1, ct89)
def mi90 : MI := (yX10_canBePerson, cX10_canBePerson, 3, some .boolean, 10, 3, 0, ct90)
def mi91 : MI := (yX10_addPerson, cX10_addPerson, 6, some .int, 10, 3, 1, ct91)
def mi92 : MI := (yX10_addRoll, cX10_addRoll, 3, some .int, 10, 2, 1, ct92)
def mi93 : MI := (yX10_addTold, cX10_addTold, 4, some .int, 10, 3, 1, ct93)
def mi94 : MI := (yX10_addLaw, cX10_addLaw, 2, some .int, 10, 1, 1, ct94)
def mi95 : MI := (yX10_hasPerson, cX10_hasPerson, 2, some .boolean, 10, 1, 1, ct95)
def mi96 : MI := (yX10_hasRoll, cX10_hasRoll, 2, some .boolean, 10, 1, 1, ct96)
def mi97 : MI := (yX10_hasLaw, cX10_hasLaw, 2, some .boolean, 10, 1, 1, ct97)
def mi98 : MI := (yX10_lives, cX10_lives, 2, some .boolean, 10, 1, 1, ct98)
def mi99 : MI := (yX10_isDone, cX10_isDone, 2, some .boolean, 10, 1, 1, ct99)
def mi100 : MI := (yX10_lawInForce, cX10_lawInForce, 1, some (.object "RollsAgree$Text"), 10, 0, 1, ct100)
def mi101 : MI := (yX10_markOf, cX10_markOf, 3, some .int, 10, 2, 1, ct101)
def mi102 : MI := (yX10_setMark, cX10_setMark, 4, none, 10, 3, 1, ct102)
def mi103 : MI := (yX10_shiftOf, cX10_shiftOf, 2, some .int, 10, 1, 1, ct103)
def mi104 : MI := (yX10_markInRow, cX10_markInRow, 3, some .int, 10, 2, 1, ct104)
def mi105 : MI := (yX10_rowOf, cX10_rowOf, 4, some .int, 10, 1, 1, ct105)
def mi106 : MI := (yX10_accordInRow, cX10_accordInRow, 6, some .int, 10, 2, 1, ct106)
def mi107 : MI := (yX10_accord, cX10_accord, 2, some .int, 10, 1, 1, ct107)
def mi108 : MI := (yX11_init, cX11_init, 3, none, 11, 0, 2, ct108)
def mi109 : MI := (yX11_person, cX11_person, 4, some .int, 11, 3, 1, ct109)
def mi110 : MI := (yX11_of, cX11_of, 3, some .int, 11, 2, 1, ct110)
def mi111 : MI := (yX11_roll, cX11_roll, 3, some .int, 11, 2, 1, ct111)
def mi112 : MI := (yX11_at, cX11_at, 3, some .int, 11, 2, 1, ct112)
def mi113 : MI := (yX11_terms, cX11_terms, 4, some .int, 11, 2, 1, ct113)
def mi114 : MI := (yX11_feed, cX11_feed, 6, some .int, 11, 5, 1, ct114)
def mi115 : MI := (yX11_end, cX11_end, 2, some .int, 11, 1, 1, ct115)
def mi116 : MI := (yX11_row, cX11_row, 3, some .int, 11, 0, 1, ct116)
def mi117 : MI := (yX11_grain, cX11_grain, 1, some .int, 11, 0, 1, ct117)
def mi118 : MI := (yX11_law, cX11_law, 3, some .int, 11, 0, 1, ct118)
def mi119 : MI := (yX11_orders, cX11_orders, 3, some .int, 11, 0, 1, ct119)
def mi120 : MI := (yX11_fault, cX11_fault, 1, some .int, 11, 0, 1, ct120)
def mi121 : MI := (yX11_stopped, cX11_stopped, 1, some .int, 11, 0, 1, ct121)
def mi122 : MI := (yX11_force, cX11_force, 3, some .int, 11, 1, 1, ct122)
def mi123 : MI := (yX11_asks, cX11_asks, 5, some .int, 11, 4, 1, ct123)
def mi124 : MI := (yX11_talk, cX11_talk, 4, some .int, 11, 3, 1, ct124)
def mi125 : MI := (yX11_develop, cX11_develop, 2, some .int, 11, 1, 1, ct125)
def mi126 : MI := (yX11_bury, cX11_bury, 2, some .int, 11, 1, 1, ct126)
def mi127 : MI := (yX11_pass, cX11_pass, 1, some .int, 11, 0, 1, ct127)
def mi128 : MI := (yX11_undo, cX11_undo, 1, some .int, 11, 0, 1, ct128)
def mi129 : MI := (yX11_soonest, cX11_soonest, 3, some .int, 11, 2, 1, ct129)
def mi130 : MI := (yX11_ends, cX11_ends, 2, some .int, 11, 1, 1, ct130)
def mi131 : MI := (yX11_house, cX11_house, 4, some .int, 11, 2, 1, ct131)
def mi132 : MI := (yX11_givings, cX11_givings, 2, some .int, 11, 1, 1, ct132)
def mi133 : MI := (yX11_told, cX11_told, 4, some .int, 11, 3, 1, ct133)
def mi134 : MI := (yX11_forget, cX11_forget, 2, some .int, 11, 0, 1, ct134)
def mi135 : MI := (yX11_were, cX11_were, 4, some .int, 11, 3, 1, ct135)
def mi136 : MI := (yX11_ask, cX11_ask, 4, some .int, 11, 2, 1, ct136)
def mi137 : MI := (yX11_chatter, cX11_chatter, 4, some .int, 11, 2, 1, ct137)
def mi138 : MI := (yX11_chance, cX11_chance, 3, some .int, 11, 2, 1, ct138)
def mi139 : MI := (yX11_years, cX11_years, 3, some .int, 11, 2, 1, ct139)
def mi140 : MI := (yX11_drawn, cX11_drawn, 3, some .int, 11, 2, 1, ct140)
def mi141 : MI := (yX11_image, cX11_image, 2, some .int, 11, 1, 1, ct141)
def mi142 : MI := (yX11_back, cX11_back, 2, some .int, 11, 1, 1, ct142)
def mi143 : MI := (yX11_count, cX11_count, 2, some .int, 11, 1, 1, ct143)
def mi144 : MI := (yX11_status, cX11_status, 1, some .int, 11, 0, 1, ct144)
def mi145 : MI := (yX11_settled, cX11_settled, 2, some .int, 11, 1, 1, ct145)
def mi146 : MI := (yX11_refusedWith, cX11_refusedWith, 2, some .int, 11, 1, 1, ct146)
def mi147 : MI := (yX11_putFour, cX11_putFour, 3, none, 11, 1, 1, ct147)
def mi148 : MI := (yX11_takenTape, cX11_takenTape, 2, some .int, 11, 0, 1, ct148)
def mi149 : MI := (yX11_cameFromRow, cX11_cameFromRow, 2, some .boolean, 11, 1, 1, ct149)
def mi150 : MI := (yX11_isDay, cX11_isDay, 1, some .boolean, 11, 1, 0, ct150)
def mi151 : MI := (yX11_mostOfTerm, cX11_mostOfTerm, 1, some .int, 11, 1, 0, ct151)
def mi152 : MI := (yX12_lies, cX12_lies, 3, some .boolean, 12, 3, 0, ct152)
def mi153 : MI := (yX12_greater, cX12_greater, 2, some .int, 12, 2, 0, ct153)
def mi154 : MI := (yX12_refuses, cX12_refuses, 2, some .int, 12, 1, 1, ct154)
def mi155 : MI := (yX12_good, cX12_good, 2, some .int, 12, 1, 1, ct155)
def mi156 : MI := (yX12_settled, cX12_settled, 2, some .int, 12, 1, 1, ct156)
def mi157 : MI := (yX12_isIn, cX12_isIn, 2, some .boolean, 12, 2, 0, ct157)
def mi158 : MI := (yX12_ones, cX12_ones, 3, some .int, 12, 1, 0, ct158)
def mi159 : MI := (yX12_init, cX12_init, 1, none, 12, 0, 2, ct159)
def mi160 : MI := (yX12_laysAside, cX12_laysAside, 3, none, 12, 1, 1, ct160)
def mi161 : MI := (yX12_takesBack, cX12_takesBack, 3, none, 12, 1, 1, ct161)
def mi162 : MI := (yX12_image, cX12_image, 3, some .int, 12, 1, 1, ct162)
def mi163 : MI := (yX12_back, cX12_back, 3, some .int, 12, 1, 1, ct163)
def mi164 : MI := (yX12_isPerson, cX12_isPerson, 2, some .boolean, 12, 1, 1, ct164)
def mi165 : MI := (yX12_isRoll, cX12_isRoll, 2, some .boolean, 12, 1, 1, ct165)
def mi166 : MI := (yX12_isDay, cX12_isDay, 1, some .boolean, 12, 1, 0, ct166)
def mi167 : MI := (yX12_lives, cX12_lives, 2, some .boolean, 12, 1, 1, ct167)
def mi168 : MI := (yX12_markOf, cX12_markOf, 3, some .int, 12, 2, 1, ct168)
def mi169 : MI := (yX12_allPeople, cX12_allPeople, 1, some .int, 12, 0, 1, ct169)
def mi170 : MI := (yX12_living, cX12_living, 3, some .int, 12, 0, 1, ct170)
def mi171 : MI := (yX12_canBe, cX12_canBe, 3, some .boolean, 12, 3, 0, ct171)
def mi172 : MI := (yX12_adds, cX12_adds, 7, none, 12, 3, 1, ct172)
def mi173 : MI := (yX12_person, cX12_person, 4, some .int, 12, 3, 1, ct173)
def mi174 : MI := (yX12_of, cX12_of, 3, some .int, 12, 2, 1, ct174)
def mi175 : MI := (yX12_roll, cX12_roll, 4, some .int, 12, 2, 1, ct175)
def mi176 : MI := (yX12_livingOn, cX12_livingOn, 2, some .int, 12, 1, 1, ct176)
def mi177 : MI := (yX12_oneMark, cX12_oneMark, 5, some .int, 12, 2, 0, ct177)
def mi178 : MI := (yX12_placeOf, cX12_placeOf, 1, some .int, 12, 1, 0, ct178)
def mi179 : MI := (yX12_markIn, cX12_markIn, 2, some .int, 12, 2, 0, ct179)
def mi180 : MI := (yX12_rowWith, cX12_rowWith, 3, some .int, 12, 3, 0, ct180)
def mi181 : MI := (yX12_rowNow, cX12_rowNow, 4, some .int, 12, 1, 1, ct181)
def mi182 : MI := (yX12_agreement, cX12_agreement, 2, some .int, 12, 1, 1, ct182)
def mi183 : MI := (yX12_at, cX12_at, 3, some .int, 12, 2, 1, ct183)
def mi184 : MI := (yX12_isTerm, cX12_isTerm, 2, some .boolean, 12, 2, 0, ct184)
def mi185 : MI := (yX12_terms, cX12_terms, 5, some .int, 12, 2, 1, ct185)
def mi186 : MI := (yX12_row, cX12_row, 6, some .int, 12, 0, 1, ct186)
def mi187 : MI := (yX12_grain, cX12_grain, 1, some .int, 12, 0, 1, ct187)
def mi188 : MI := (yX12_feed, cX12_feed, 7, some .int, 12, 5, 1, ct188)
def mi189 : MI := (yX12_end, cX12_end, 2, some .int, 12, 1, 1, ct189)
def mi190 : MI := (yX12_isSmall, cX12_isSmall, 1, some .boolean, 12, 1, 0, ct190)
def mi191 : MI := (yX12_isDigit, cX12_isDigit, 1, some .boolean, 12, 1, 0, ct191)
def mi192 : MI := (yX12_wordOf, cX12_wordOf, 8, some .int, 12, 2, 1, ct192)
def mi193 : MI := (yX12_splits, cX12_splits, 6, none, 12, 1, 1, ct193)
def mi194 : MI := (yX12_fine, cX12_fine, 1, some .boolean, 12, 0, 1, ct194)
def mi195 : MI := (yX12_faults, cX12_faults, 1, none, 12, 0, 1, ct195)
def mi196 : MI := (yX12_takes0, cX12_takes0, 3, some .boolean, 12, 1, 1, ct196)
def mi197 : MI := (yX12_must, cX12_must, 2, none, 12, 1, 1, ct197)
def mi198 : MI := (yX12_leaf, cX12_leaf, 1, none, 12, 0, 1, ct198)
def mi199 : MI := (yX12_sign, cX12_sign, 1, some .int, 12, 1, 0, ct199)
def mi200 : MI := (yX12_mustNumber, cX12_mustNumber, 3, none, 12, 2, 1, ct200)
def mi201 : MI := (yX12_readClause, cX12_readClause, 1, none, 12, 0, 1, ct201)
def mi202 : MI := (yX12_readOrder, cX12_readOrder, 1, none, 12, 0, 1, ct202)
def mi203 : MI := (yX12_readOne, cX12_readOne, 1, none, 12, 0, 1, ct203)
def mi204 : MI := (yX12_readTest, cX12_readTest, 2, none, 12, 1, 1, ct204)
def mi205 : MI := (yX12_readBoth, cX12_readBoth, 2, none, 12, 1, 1, ct205)
def mi206 : MI := (yX12_readPlain, cX12_readPlain, 4, none, 12, 1, 1, ct206)
def mi207 : MI := (yX12_readSum, cX12_readSum, 2, none, 12, 1, 1, ct207)
def mi208 : MI := (yX12_readTerm, cX12_readTerm, 2, none, 12, 1, 1, ct208)
def mi209 : MI := (yX12_readPart, cX12_readPart, 3, none, 12, 1, 1, ct209)
def mi210 : MI := (yX12_reads, cX12_reads, 2, some .boolean, 12, 0, 1, ct210)
def mi211 : MI := (yX12_readsAs, cX12_readsAs, 2, some .boolean, 12, 1, 1, ct211)
def mi212 : MI := (yX12_lays, cX12_lays, 3, none, 12, 1, 1, ct212)
def mi213 : MI := (yX12_law, cX12_law, 1, some .int, 12, 0, 1, ct213)
def mi214 : MI := (yX12_fault, cX12_fault, 1, some .int, 12, 0, 1, ct214)
def mi215 : MI := (yX12_force, cX12_force, 3, some .int, 12, 1, 1, ct215)
def mi216 : MI := (yX12_codeAt, cX12_codeAt, 2, some .int, 12, 1, 1, ct216)
def mi217 : MI := (yX12_passes0, cX12_passes0, 3, some .boolean, 12, 1, 1, ct217)
def mi218 : MI := (yX12_bounded, cX12_bounded, 4, some .long, 12, 2, 1, ct218)
def mi219 : MI := (yX12_sumOf, cX12_sumOf, 7, some .long, 12, 1, 1, ct219)
def mi220 : MI := (yX12_termOf, cX12_termOf, 7, some .long, 12, 1, 1, ct220)
def mi221 : MI := (yX12_partOf, cX12_partOf, 4, some .long, 12, 1, 1, ct221)
def mi222 : MI := (yX12_orderValue, cX12_orderValue, 3, some .int, 12, 2, 1, ct222)
def mi223 : MI := (yX12_testOf, cX12_testOf, 4, some .boolean, 12, 1, 1, ct223)
def mi224 : MI := (yX12_bothOf, cX12_bothOf, 4, some .boolean, 12, 1, 1, ct224)
def mi225 : MI := (yX12_plainOf, cX12_plainOf, 3, some .boolean, 12, 1, 1, ct225)
def mi226 : MI := (yX12_positiveOf, cX12_positiveOf, 7, some .boolean, 12, 1, 1, ct226)
def mi227 : MI := (yX12_tells, cX12_tells, 16, some .int, 12, 8, 1, ct227)
def mi228 : MI := (yX12_swaysBy, cX12_swaysBy, 6, some .int, 12, 5, 1, ct228)
def mi229 : MI := (yX12_takesBy, cX12_takesBy, 8, some .int, 12, 5, 1, ct229)
def mi230 : MI := (yX12_isBarred, cX12_isBarred, 6, some .boolean, 12, 5, 1, ct230)
def mi231 : MI := (yX12_asks, cX12_asks, 7, some .int, 12, 4, 1, ct231)
def mi232 : MI := (yX12_talked, cX12_talked, 6, some .int, 12, 5, 1, ct232)
def mi233 : MI := (yX12_laysTalks, cX12_laysTalks, 5, none, 12, 1, 1, ct233)
def mi234 : MI := (yX12_rowBehind, cX12_rowBehind, 5, some .int, 12, 3, 1, ct234)
def mi235 : MI := (yX12_keeps, cX12_keeps, 4, none, 12, 1, 1, ct235)
def mi236 : MI := (yX12_undo, cX12_undo, 3, some .int, 12, 0, 1, ct236)
def mi237 : MI := (yX12_goodOr, cX12_goodOr, 2, some .int, 12, 1, 1, ct237)
def mi238 : MI := (yX12_talksNow, cX12_talksNow, 6, some .int, 12, 3, 1, ct238)
def mi239 : MI := (yX12_canTalk, cX12_canTalk, 4, some .boolean, 12, 3, 1, ct239)
def mi240 : MI := (yX12_talksKept, cX12_talksKept, 4, some .int, 12, 3, 1, ct240)
def mi241 : MI := (yX12_developsKept, cX12_developsKept, 3, some .int, 12, 1, 1, ct241)
def mi242 : MI := (yX12_buriesKept, cX12_buriesKept, 2, some .int, 12, 1, 1, ct242)
def mi243 : MI := (yX12_passesKept, cX12_passesKept, 1, some .int, 12, 0, 1, ct243)
def mi244 : MI := (yX12_talk, cX12_talk, 4, some .int, 12, 3, 1, ct244)
def mi245 : MI := (yX12_develop, cX12_develop, 2, some .int, 12, 1, 1, ct245)
def mi246 : MI := (yX12_bury, cX12_bury, 2, some .int, 12, 1, 1, ct246)
def mi247 : MI := (yX12_pass, cX12_pass, 1, some .int, 12, 0, 1, ct247)
def mi248 : MI := (yX12_reaches, cX12_reaches, 4, none, 12, 3, 1, ct248)
def mi249 : MI := (yX12_spreads, cX12_spreads, 10, some .int, 12, 3, 1, ct249)
def mi250 : MI := (yX12_spreadsAll, cX12_spreadsAll, 2, some .int, 12, 1, 1, ct250)
def mi251 : MI := (yX12_soonest, cX12_soonest, 5, some .int, 12, 2, 1, ct251)
def mi252 : MI := (yX12_ends, cX12_ends, 5, some .int, 12, 1, 1, ct252)
def mi253 : MI := (yX12_house, cX12_house, 5, some .int, 12, 2, 1, ct253)
def mi254 : MI := (yX12_heapOf, cX12_heapOf, 6, some .int, 12, 2, 1, ct254)
def mi255 : MI := (yX12_commonest, cX12_commonest, 5, some .int, 12, 2, 1, ct255)
def mi256 : MI := (yX12_laysGiven, cX12_laysGiven, 5, some .int, 12, 0, 1, ct256)
def mi257 : MI := (yX12_givings, cX12_givings, 3, some .int, 12, 1, 1, ct257)
def mi258 : MI := (yX12_told, cX12_told, 5, some .int, 12, 3, 1, ct258)
def mi259 : MI := (yX12_forget, cX12_forget, 2, some .int, 12, 0, 1, ct259)
def mi260 : MI := (yX12_canHaveBeen, cX12_canHaveBeen, 7, some .boolean, 12, 2, 1, ct260)
def mi261 : MI := (yX12_stepOf, cX12_stepOf, 1, some .int, 12, 0, 1, ct261)
def mi262 : MI := (yX12_were, cX12_were, 6, some .int, 12, 3, 1, ct262)
def mi263 : MI := (yX12_ask, cX12_ask, 9, some .int, 12, 2, 1, ct263)
def mi264 : MI := (yX12_chatter, cX12_chatter, 9, some .int, 12, 2, 1, ct264)
def mi265 : MI := (yX12_lifeBehind, cX12_lifeBehind, 4, some .int, 12, 1, 1, ct265)
def mi266 : MI := (yX12_partOfSet, cX12_partOfSet, 7, some .long, 12, 3, 1, ct266)
def mi267 : MI := (yX12_chance, cX12_chance, 9, some .int, 12, 2, 1, ct267)
def mi268 : MI := (yX12_stopped, cX12_stopped, 1, some .int, 12, 0, 1, ct268)
def mi269 : MI := (yX12_orders, cX12_orders, 5, some .int, 12, 0, 1, ct269)
def mi270 : MI := (yX12_goesAlong, cX12_goesAlong, 5, none, 12, 2, 1, ct270)
def mi271 : MI := (yX12_small, cX12_small, 2, some .int, 12, 1, 0, ct271)
def mi272 : MI := (yX12_obeys, cX12_obeys, 3, some .int, 12, 0, 1, ct272)
def mi273 : MI := (yX12_runs, cX12_runs, 5, some .boolean, 12, 1, 1, ct273)
def mi274 : MI := (yX12_draws, cX12_draws, 2, some .int, 12, 1, 1, ct274)
def mi275 : MI := (yX12_years, cX12_years, 8, some .int, 12, 2, 1, ct275)
def mi276 : MI := (yX12_drawn, cX12_drawn, 3, some .int, 12, 2, 1, ct276)
def mi277 : MI := (yX12_manyDone, cX12_manyDone, 3, some .int, 12, 0, 1, ct277)
def mi278 : MI := (yX12_count, cX12_count, 2, some .int, 12, 1, 1, ct278)
def mi279 : MI := (yX12_status, cX12_status, 1, some .int, 12, 0, 1, ct279)
def mi280 : MI := (yJ6_bitCount_0f7a4, cJ6_bitCount_0f7a4, 1, some .int, 13, 1, 0, ct280)
def mi281 : MI := (yJ9_max_7cf53, cJ9_max_7cf53, 2, some .int, 14, 2, 0, ct281)
def mi282 : MI := (yJ9_min_7cf53, cJ9_min_7cf53, 2, some .int, 14, 2, 0, ct282)
def mi283 : MI := (yJ7_fill_53178, cJ7_fill_53178, 4, none, 15, 2, 0, ct283)
def mi284 : MI := (yJ0_charAt_5068e, cJ0_charAt_5068e, 2, some .char, 16, 1, 1, ct284)
def mi285 : MI := (yJ1_charAt_3b067, cJ1_charAt_3b067, 2, some .char, 17, 2, 0, ct285)
def mi286 : MI := (yJ0_checkIndex_df160, cJ0_checkIndex_df160, 2, none, 16, 2, 0, ct286)
def mi287 : MI := (yJ3_checkIndex_8e157, cJ3_checkIndex_8e157, 3, some .int, 18, 3, 0, ct287)
def mi288 : MI := (yJ0_length_8abf5, cJ0_length_8abf5, 1, some .int, 16, 0, 1, ct288)
def mi289 : MI := (yJ0_coder_7d493, cJ0_coder_7d493, 1, some .byte, 16, 0, 1, ct289)
def mi290 : MI := (yJ0_isLatin1_aae02, cJ0_isLatin1_aae02, 1, some .boolean, 16, 0, 1, ct290)
def mi999 : MI := (x, code, 4, some .boolean, 19, 1, 0, ct999)
def mil_0 : List MI := [mi0, mi1, mi2, mi3, mi4, mi5, mi6, mi7, mi8, mi9, mi10, mi11, mi12, mi13, mi14, mi15, mi16, mi17, mi18, mi19]
def mil_1 : List MI := [mi20, mi21, mi22, mi23, mi24, mi25, mi26, mi27, mi28, mi29, mi30, mi31, mi32, mi33, mi34, mi35, mi36, mi37, mi38, mi39]
def mil_2 : List MI := [mi40, mi41, mi42, mi43, mi44, mi45, mi46, mi47, mi48, mi49, mi50, mi51, mi52, mi53, mi54, mi55, mi56, mi57, mi58, mi59]
def mil_3 : List MI := [mi60, mi61, mi62, mi63, mi64, mi65, mi66, mi67, mi68, mi69, mi70, mi71, mi72, mi73, mi74, mi75, mi76, mi77, mi78, mi79]
def mil_4 : List MI := [mi80, mi81, mi82, mi83, mi84, mi85, mi86, mi87, mi88, mi89, mi90, mi91, mi92, mi93, mi94, mi95, mi96, mi97, mi98, mi99]
def mil_5 : List MI := [mi100, mi101, mi102, mi103, mi104, mi105, mi106, mi107, mi108, mi109, mi110, mi111, mi112, mi113, mi114, mi115, mi116, mi117, mi118, mi119]
def mil_6 : List MI := [mi120, mi121, mi122, mi123, mi124, mi125, mi126, mi127, mi128, mi129, mi130, mi131, mi132, mi133, mi134, mi135, mi136, mi137, mi138, mi139]
def mil_7 : List MI := [mi140, mi141, mi142, mi143, mi144, mi145, mi146, mi147, mi148, mi149, mi150, mi151, mi152, mi153, mi154, mi155, mi156, mi157, mi158, mi159]
def mil_8 : List MI := [mi160, mi161, mi162, mi163, mi164, mi165, mi166, mi167, mi168, mi169, mi170, mi171, mi172, mi173, mi174, mi175, mi176, mi177, mi178, mi179]
def mil_9 : List MI := [mi180, mi181, mi182, mi183, mi184, mi185, mi186, mi187, mi188, mi189, mi190, mi191, mi192, mi193, mi194, mi195, mi196, mi197, mi198, mi199]
def mil_10 : List MI := [mi200, mi201, mi202, mi203, mi204, mi205, mi206, mi207, mi208, mi209, mi210, mi211, mi212, mi213, mi214, mi215, mi216, mi217, mi218, mi219]
def mil_11 : List MI := [mi220, mi221, mi222, mi223, mi224, mi225, mi226, mi227, mi228, mi229, mi230, mi231, mi232, mi233, mi234, mi235, mi236, mi237, mi238, mi239]
def mil_12 : List MI := [mi240, mi241, mi242, mi243, mi244, mi245, mi246, mi247, mi248, mi249, mi250, mi251, mi252, mi253, mi254, mi255, mi256, mi257, mi258, mi259]
def mil_13 : List MI := [mi260, mi261, mi262, mi263, mi264, mi265, mi266, mi267, mi268, mi269, mi270, mi271, mi272, mi273, mi274, mi275, mi276, mi277, mi278, mi279]
def mil_14 : List MI := [mi280, mi281, mi282, mi283, mi284, mi285, mi286, mi287, mi288, mi289, mi290]
def mil : List MI := mil_0 ++ (mil_1 ++ (mil_2 ++ (mil_3 ++ (mil_4 ++ (mil_5 ++ (mil_6 ++ (mil_7 ++ (mil_8 ++ (mil_9 ++ (mil_10 ++ (mil_11 ++ (mil_12 ++ (mil_13 ++ (mil_14))))))))))))))
def mi (k : Nat) : MI := mil.getD k mi283
def cn (ci : Nat) : String := match ci with
  | 0 => RX0
  | 1 => RX1
  | 2 => RX2
  | 3 => RX3
  | 4 => RX4
  | 5 => RX5
  | 6 => RX6
  | 7 => RX7
  | 8 => RX8
  | 9 => RX9
  | 10 => RX10
  | 11 => RX11
  | _ => RX12
def fT (ci : Nat) : u_T := match ci with
  | 0 => TX0
  | 1 => TX1
  | 2 => TX2
  | 3 => TX3
  | 4 => TX4
  | 5 => TX5
  | 6 => TX6
  | 7 => TX7
  | 8 => TX8
  | 9 => TX9
  | 10 => TX10
  | 11 => TX11
  | _ => TX12
def fls_0 : List (Nat × Nat × Nat × Nat) := [(0, 9, 0, 0), (0, 15, 0, 1), (0, 19, 0, 3), (0, 26, 0, 4), (0, 29, 0, 5), (0, 46, 10, 13), (0, 76, 10, 6), (0, 80, 10, 1), (0, 88, 0, 2), (0, 101, 0, 6), (1, 9, 1, 0), (1, 15, 1, 1), (1, 19, 1, 2), (1, 27, 1, 5), (1, 31, 1, 3), (1, 35, 1, 4), (1, 48, 10, 13), (1, 55, 10, 2), (1, 65, 9, 2), (1, 91, 10, 3), (2, 11, 2, 0), (2, 15, 2, 1), (2, 19, 2, 2), (2, 23, 2, 3), (2, 27, 2, 6), (2, 36, 2, 4), (2, 39, 2, 5), (2, 42, 9, 2), (2, 91, 10, 13), (2, 96, 10, 1), (3, 9, 3, 0), (3, 15, 3, 1), (3, 19, 3, 2), (3, 23, 10, 0), (3, 43, 10, 5), (3, 46, 10, 8), (3, 49, 10, 1), (3, 52, 10, 7), (3, 63, 10, 13), (3, 79, 3, 3), (3, 80, 10, 4), (3, 87, 3, 4), (4, 9, 4, 0), (4, 15, 4, 1), (4, 19, 4, 2), (4, 23, 4, 3), (4, 43, 10, 13), (4, 59, 4, 4), (4, 66, 10, 0), (5, 16, 5, 0), (5, 20, 5, 2), (5, 24, 5, 3), (5, 27, 5, 1), (5, 31, 5, 7), (5, 35, 5, 6), (5, 38, 5, 5), (5, 72, 5, 4), (5, 123, 9, 3), (6, 9, 6, 0), (6, 15, 6, 1), (6, 19, 6, 2), (6, 23, 6, 3), (6, 32, 6, 4), (6, 45, 10, 0), (6, 72, 10, 9), (6, 75, 10, 12), (6, 78, 10, 10), (6, 84, 10, 11), (7, 9, 7, 0), (7, 15, 7, 1), (7, 19, 7, 2), (7, 23, 7, 3), (7, 26, 7, 4), (7, 33, 10, 1), (7, 43, 7, 7), (7, 46, 7, 5), (7, 49, 7, 8), (7, 66, 10, 7), (7, 75, 10, 8), (7, 78, 7, 6)]
def fls_1 : List (Nat × Nat × Nat × Nat) := [(7, 81, 10, 0), (8, 11, 8, 0), (8, 15, 9, 1), (9, 11, 9, 0), (9, 21, 9, 1), (9, 24, 9, 3), (9, 37, 9, 2), (10, 9, 10, 2), (10, 15, 10, 3), (10, 18, 10, 4), (10, 21, 10, 7), (10, 24, 10, 8), (10, 27, 10, 10), (10, 30, 10, 11), (10, 33, 10, 12), (10, 36, 10, 13), (10, 41, 10, 16), (10, 45, 10, 15), (10, 49, 10, 0), (10, 52, 10, 1), (10, 55, 10, 5), (10, 58, 10, 6), (10, 61, 10, 9), (10, 64, 10, 14), (11, 13, 11, 0), (11, 19, 11, 1), (11, 26, 11, 2), (11, 35, 11, 3), (11, 44, 11, 4), (11, 53, 11, 5), (11, 60, 11, 6), (11, 69, 11, 7), (11, 76, 11, 8), (11, 83, 11, 9), (11, 87, 11, 10), (11, 91, 11, 11), (11, 94, 11, 14), (11, 98, 11, 16), (11, 109, 10, 0), (11, 123, 10, 2), (11, 126, 10, 3), (11, 139, 10, 5), (11, 148, 10, 7), (11, 151, 10, 8), (11, 163, 10, 13), (11, 166, 11, 13), (11, 173, 11, 15), (11, 183, 10, 14), (11, 190, 5, 1), (11, 193, 5, 0), (11, 210, 2, 6), (11, 216, 10, 15), (11, 219, 11, 17), (11, 266, 10, 9), (11, 275, 6, 4), (11, 290, 4, 4), (11, 310, 11, 12), (11, 313, 10, 1), (11, 316, 10, 6), (11, 319, 0, 2), (12, 3, 12, 0), (12, 7, 12, 1), (12, 11, 12, 32), (12, 24, 12, 2), (12, 27, 12, 3), (12, 30, 12, 4), (12, 34, 12, 5), (12, 37, 12, 7), (12, 41, 12, 11), (12, 44, 12, 12), (12, 47, 12, 14), (12, 50, 12, 15), (12, 53, 12, 16), (12, 56, 12, 17), (12, 59, 12, 26), (12, 62, 12, 29), (12, 65, 12, 30), (12, 68, 12, 31), (12, 71, 12, 33), (12, 74, 12, 34)]
def fls_2 : List (Nat × Nat × Nat × Nat) := [(12, 77, 12, 35), (12, 80, 12, 36), (12, 83, 12, 38), (12, 86, 12, 39), (12, 89, 12, 40), (12, 92, 12, 41), (12, 95, 12, 42), (12, 98, 12, 48), (12, 102, 12, 49), (12, 105, 12, 50), (12, 178, 12, 13), (12, 181, 12, 6), (12, 184, 12, 18), (12, 197, 12, 21), (12, 204, 12, 19), (12, 213, 12, 20), (12, 230, 12, 10), (12, 256, 12, 8), (12, 259, 12, 9), (12, 281, 12, 23), (12, 284, 12, 22), (12, 294, 12, 24), (12, 314, 12, 25), (12, 320, 12, 27), (12, 323, 12, 28), (12, 386, 12, 37), (12, 434, 12, 43), (12, 443, 12, 45), (12, 446, 12, 46), (12, 449, 12, 44), (12, 452, 12, 47), (12, 468, 12, 51)]
def fls : List (Nat × Nat × Nat × Nat) := fls_0 ++ (fls_1 ++ (fls_2))
def mls_0 : List (Nat × Nat × Nat × Nat) := [(0, 25, 88, 2), (0, 36, 95, 1), (0, 39, 98, 1), (0, 42, 101, 1), (0, 49, 12, 1), (0, 55, 10, 1), (0, 59, 102, 1), (0, 63, 9, 0), (0, 66, 96, 1), (0, 69, 107, 1), (0, 73, 99, 1), (0, 83, 280, 0), (0, 91, 89, 1), (1, 23, 17, 1), (1, 38, 16, 1), (1, 42, 101, 1), (1, 51, 95, 1), (1, 58, 100, 1), (1, 62, 18, 1), (1, 70, 84, 1), (1, 73, 77, 1), (1, 79, 79, 0), (1, 83, 282, 0), (1, 88, 281, 0), (2, 31, 7, 1), (2, 47, 84, 1), (2, 51, 21, 1), (2, 55, 8, 1), (2, 58, 23, 1), (2, 61, 77, 1), (2, 67, 79, 0), (2, 71, 22, 1), (2, 76, 1, 1), (2, 80, 2, 1), (2, 84, 3, 1), (2, 87, 4, 1), (2, 99, 280, 0), (2, 104, 107, 1), (2, 107, 96, 1), (2, 110, 101, 1), (3, 29, 26, 1), (3, 33, 101, 1), (3, 36, 98, 1), (3, 40, 27, 1), (3, 55, 99, 1), (3, 58, 96, 1), (3, 68, 105, 1), (3, 72, 106, 1), (3, 75, 29, 0), (3, 90, 32, 1), (3, 93, 33, 1), (3, 106, 31, 1), (3, 109, 12, 1), (3, 115, 9, 0), (4, 27, 283, 0), (4, 33, 95, 1), (4, 39, 103, 1), (4, 46, 12, 1), (4, 52, 35, 1), (4, 56, 105, 1), (4, 62, 38, 1), (4, 69, 98, 1), (4, 72, 36, 1), (5, 13, 80, 2), (5, 41, 82, 1), (5, 44, 282, 0), (5, 50, 41, 1), (5, 54, 52, 1), (5, 58, 51, 1), (5, 61, 48, 1), (5, 65, 50, 1), (5, 69, 49, 1), (5, 75, 46, 0), (5, 78, 44, 0), (5, 82, 42, 1), (5, 86, 47, 0), (5, 89, 43, 0), (5, 95, 288, 1), (5, 100, 284, 1), (5, 104, 45, 0)]
def mls_1 : List (Nat × Nat × Nat × Nat) := [(5, 108, 83, 1), (5, 111, 55, 1), (5, 114, 54, 1), (5, 117, 53, 1), (5, 120, 85, 1), (5, 125, 56, 1), (5, 128, 86, 1), (5, 131, 59, 1), (5, 134, 57, 1), (5, 137, 87, 1), (5, 140, 58, 1), (5, 143, 60, 1), (5, 146, 61, 1), (5, 149, 62, 1), (6, 26, 35, 1), (6, 36, 105, 1), (6, 42, 68, 1), (6, 48, 282, 0), (6, 54, 69, 1), (6, 57, 104, 1), (6, 60, 67, 1), (6, 63, 283, 0), (6, 69, 281, 0), (6, 81, 103, 1), (6, 87, 36, 1), (7, 29, 74, 1), (7, 39, 75, 1), (7, 52, 106, 1), (7, 56, 280, 0), (7, 62, 96, 1), (7, 69, 35, 1), (7, 72, 105, 1), (7, 84, 36, 1), (8, 21, 281, 0), (8, 27, 78, 0), (9, 15, 281, 0), (9, 28, 80, 2), (10, 73, 95, 1), (10, 77, 96, 1), (10, 80, 97, 1), (10, 86, 103, 1), (10, 90, 101, 1), (10, 94, 105, 1), (10, 97, 106, 1), (11, 9, 76, 2), (11, 12, 88, 2), (11, 25, 39, 2), (11, 32, 11, 2), (11, 41, 0, 2), (11, 50, 19, 2), (11, 59, 34, 2), (11, 66, 70, 2), (11, 75, 63, 2), (11, 82, 24, 2), (11, 101, 90, 0), (11, 105, 145, 1), (11, 112, 6, 1), (11, 115, 91, 1), (11, 119, 95, 1), (11, 129, 98, 1), (11, 132, 101, 1), (11, 136, 150, 0), (11, 142, 92, 1), (11, 145, 96, 1), (11, 154, 99, 1), (11, 157, 107, 1), (11, 160, 151, 0), (11, 169, 147, 1), (11, 176, 149, 1), (11, 179, 148, 1), (11, 186, 40, 1), (11, 197, 81, 1), (11, 203, 94, 1), (11, 207, 20, 1), (11, 213, 97, 1), (11, 222, 13, 1), (11, 225, 14, 1), (11, 228, 15, 1), (11, 231, 1, 1), (11, 234, 2, 1)]
def mls_2 : List (Nat × Nat × Nat × Nat) := [(11, 237, 3, 1), (11, 240, 4, 1), (11, 243, 5, 1), (11, 246, 71, 1), (11, 249, 72, 1), (11, 252, 73, 1), (11, 255, 280, 0), (11, 260, 25, 1), (11, 263, 26, 1), (11, 269, 93, 1), (11, 272, 64, 1), (11, 278, 65, 1), (11, 281, 66, 1), (11, 284, 67, 1), (11, 287, 37, 1), (11, 293, 104, 1), (11, 296, 28, 1), (11, 300, 30, 1), (11, 303, 31, 1), (11, 306, 89, 1), (11, 322, 146, 1), (11, 325, 282, 0), (12, 14, 155, 1), (12, 108, 152, 0), (12, 112, 154, 1), (12, 115, 156, 1), (12, 118, 167, 1), (12, 122, 171, 0), (12, 125, 172, 1), (12, 129, 164, 1), (12, 132, 166, 0), (12, 135, 168, 1), (12, 139, 169, 1), (12, 143, 170, 1), (12, 146, 157, 0), (12, 150, 179, 0), (12, 153, 178, 0), (12, 156, 180, 0), (12, 160, 181, 1), (12, 163, 176, 1), (12, 166, 177, 0), (12, 169, 165, 1), (12, 172, 182, 1), (12, 175, 184, 0), (12, 187, 190, 0), (12, 190, 191, 0), (12, 193, 192, 1), (12, 200, 194, 1), (12, 207, 196, 1), (12, 210, 195, 1), (12, 216, 207, 1), (12, 220, 197, 1), (12, 223, 204, 1), (12, 226, 200, 1), (12, 234, 202, 1), (12, 237, 201, 1), (12, 240, 205, 1), (12, 243, 206, 1), (12, 246, 199, 0), (12, 250, 208, 1), (12, 253, 209, 1), (12, 262, 198, 1), (12, 265, 193, 1), (12, 268, 203, 1), (12, 271, 210, 1), (12, 274, 211, 1), (12, 278, 212, 1), (12, 287, 216, 1), (12, 297, 220, 1), (12, 301, 218, 1), (12, 305, 221, 1), (12, 308, 217, 1), (12, 311, 219, 1), (12, 317, 222, 1), (12, 326, 158, 0), (12, 329, 183, 1), (12, 332, 224, 1), (12, 335, 225, 1), (12, 338, 226, 1), (12, 341, 223, 1)]
def mls_3 : List (Nat × Nat × Nat × Nat) := [(12, 344, 227, 1), (12, 348, 228, 1), (12, 352, 229, 1), (12, 355, 230, 1), (12, 359, 232, 1), (12, 362, 239, 1), (12, 365, 235, 1), (12, 368, 238, 1), (12, 371, 240, 1), (12, 374, 237, 1), (12, 377, 241, 1), (12, 380, 242, 1), (12, 383, 243, 1), (12, 389, 248, 1), (12, 392, 234, 1), (12, 395, 233, 1), (12, 398, 249, 1), (12, 401, 250, 1), (12, 404, 254, 1), (12, 407, 255, 1), (12, 410, 256, 1), (12, 413, 260, 1), (12, 416, 261, 1), (12, 419, 153, 0), (12, 424, 265, 1), (12, 427, 266, 1), (12, 431, 160, 1), (12, 437, 273, 1), (12, 440, 161, 1), (12, 455, 271, 0), (12, 459, 270, 1), (12, 463, 272, 1), (12, 475, 274, 1), (12, 478, 277, 1), (16, 335, 289, 1), (16, 492, 290, 1), (16, 495, 285, 0), (16, 1059, 287, 0), (17, 9, 286, 0), (19, 9, 108, 2), (19, 12, 159, 2), (19, 13, 109, 1), (19, 17, 173, 1), (19, 18, 110, 1), (19, 22, 174, 1), (19, 23, 111, 1), (19, 26, 175, 1), (19, 27, 112, 1), (19, 30, 183, 1), (19, 31, 113, 1), (19, 34, 185, 1), (19, 35, 114, 1), (19, 39, 188, 1), (19, 40, 115, 1), (19, 44, 189, 1), (19, 45, 116, 1), (19, 49, 186, 1), (19, 50, 117, 1), (19, 53, 187, 1), (19, 54, 118, 1), (19, 57, 213, 1), (19, 58, 119, 1), (19, 61, 269, 1), (19, 62, 120, 1), (19, 65, 214, 1), (19, 66, 121, 1), (19, 69, 268, 1), (19, 70, 122, 1), (19, 73, 215, 1), (19, 74, 123, 1), (19, 78, 231, 1), (19, 79, 124, 1), (19, 82, 244, 1), (19, 83, 125, 1), (19, 86, 245, 1), (19, 87, 126, 1), (19, 90, 246, 1), (19, 91, 127, 1), (19, 94, 247, 1), (19, 95, 128, 1)]
def mls_4 : List (Nat × Nat × Nat × Nat) := [(19, 98, 236, 1), (19, 99, 129, 1), (19, 102, 251, 1), (19, 103, 130, 1), (19, 106, 252, 1), (19, 107, 131, 1), (19, 110, 253, 1), (19, 111, 132, 1), (19, 114, 257, 1), (19, 115, 133, 1), (19, 118, 258, 1), (19, 119, 134, 1), (19, 122, 259, 1), (19, 123, 135, 1), (19, 126, 262, 1), (19, 127, 136, 1), (19, 130, 263, 1), (19, 131, 137, 1), (19, 134, 264, 1), (19, 135, 138, 1), (19, 138, 267, 1), (19, 139, 139, 1), (19, 142, 275, 1), (19, 143, 140, 1), (19, 146, 276, 1), (19, 147, 141, 1), (19, 150, 162, 1), (19, 151, 142, 1), (19, 154, 163, 1), (19, 155, 143, 1), (19, 158, 278, 1), (19, 159, 144, 1), (19, 162, 279, 1)]
def mls : List (Nat × Nat × Nat × Nat) := mls_0 ++ (mls_1 ++ (mls_2 ++ (mls_3 ++ (mls_4))))
def clk_0 : List (Nat × Nat × Nat × Nat) := [(0, 23, 10, 0), (5, 1, 9, 0), (9, 9, 9, 0), (10, 39, 9, 1), (11, 7, 8, 0), (11, 10, 10, 0), (11, 10, 10, 1), (11, 23, 5, 0), (11, 30, 1, 0), (11, 39, 0, 0), (11, 48, 2, 0), (11, 57, 4, 0), (11, 64, 7, 0), (11, 73, 6, 0), (11, 80, 3, 0), (19, 7, 11, 0), (19, 10, 12, 0)]
def clk : List (Nat × Nat × Nat × Nat) := clk_0
def cts_0 : List (Nat × Nat × Int32) := [(1, 82, -2000000000), (2, 75, -2000000000), (5, 92, 1000000), (8, 20, -2000000000), (11, 299, 1000000), (12, 196, 1000000), (13, 265, 1431655765), (13, 266, 858993459), (13, 267, 252645135)]
def cts : List (Nat × Nat × Int32) := cts_0
def ctls_0 : List (Nat × Nat × Int64) := [(3, 61, 1000000), (3, 66, 10), (3, 100, 1103), (3, 102, 12345), (3, 104, 1000003), (8, 31, -2000000000), (8, 33, 1000000000), (8, 35, -1000000000), (12, 290, 1000000000), (12, 292, -1000000000), (12, 422, 1000000), (12, 466, 1103), (12, 471, 12345), (12, 473, 1000003)]
def ctls : List (Nat × Nat × Int64) := ctls_0
def oil_0 : List (Nat × Nat) := [(0, 3), (1, 3), (2, 5), (3, 3), (4, 3), (5, 7), (6, 3), (7, 3), (8, 3), (9, 3), (10, 3), (11, 1), (12, 18)]
def oil : List (Nat × Nat) := oil_0
def acl_0 : List (Nat × Nat) := [(0, 95), (3, 81), (9, 31), (10, 67)]
def acl : List (Nat × Nat) := acl_0
def nls : List (Nat × Nat × Nat) := [(10, 83, 150), (0, 32, 150), (3, 97, 150)]
def mw (M : MI) : List Cond := [.code M.1 M.2.1 M.2.2.1 M.2.2.2.1, .initialized M.1.cls] ++ (match M.2.2.2.2.2.2.1 with | 0 => [.static M.1] | 1 => [.instanceMethod M.1, .selects M.1.cls M.1 M.1] | _ => [.instanceMethod M.1])
def fC (q : Nat × Nat × Nat × Nat) : Cond := .fieldLink (own q.1) q.2.1 (cn q.2.2.1) (fT q.2.2.1 q.2.2.2).2.1 (fT q.2.2.1 q.2.2.2).2.2.1
def mlC (q : Nat × Nat × Nat × Nat) : Cond := .methodLink (own q.1) q.2.1 (mi q.2.2.1).1
def clC (q : Nat × Nat × Nat × Nat) : Cond := .classLink (own q.1) q.2.1 (cn q.2.2.1)
def ctC (q : Nat × Nat × Int32) : Cond := .constant (own q.1) q.2.1 q.2.2
def ctlC (q : Nat × Nat × Int64) : Cond := .constantLong (own q.1) q.2.1 q.2.2
def oiC (q : Nat × Nat) : Cond := .methodLink (own q.1) q.2 objectInit
def acC (q : Nat × Nat) : Cond := .methodLink (own q.1) q.2 arraycopyName
def clW (ci : Nat) : List Cond := u_ws (cn ci) (fT ci) (cnf ci) ++ [.instantiable (cn ci) (cnf ci)]
def gwx : List Cond := [.arrayClass .int, .arrayClass .byte, .arrayClass .boolean, .arrayClass .long, .instanceMethod objectInit, .code objectInit ⟨#[0xb1]⟩ 1 none, .native arraycopyName, .static arraycopyName, .initialized "java/lang/System", .fieldLink "java/lang/String" 38 "java/lang/String" "COMPACT_STRINGS" "Z", .fieldLink "java/lang/String" 1053 "jdk/internal/util/Preconditions" "SIOOBE_FORMATTER" "Ljava/util/function/BiFunction;", .fieldLink "java/lang/String" 9 "java/lang/String" "value" "[B", .fieldLink "java/lang/String" 15 "java/lang/String" "coder" "B"]
set_option maxRecDepth 20000 in
theorem gw_0_in : GoodIn lw_tbl (mil_0.flatMap mw) := goodIn_r _ [341, 121, 340, 908, 121, 906, 907, 954, 121, 952, 953, 961, 121, 959, 960, 966, 121, 964, 965, 1032, 121, 1030, 1031, 571, 121, 569, 570, 857, 121, 855, 856, 970, 121, 968, 969, 950, 121, 949, 943, 121, 942, 26, 316, 120, 315, 916, 120, 914, 915, 991, 120, 989, 990, 1000, 120, 998, 999, 1004, 120, 1002, 1003, 995, 120, 994, 27, 920, 120, 919, 24, 933, 120, 932, 25, 372, 122, 371] rfl (by decide +kernel)
set_option maxRecDepth 20000 in
theorem gw_1_in : GoodIn lw_tbl (mil_1.flatMap mw) := goodIn_r _ [853, 122, 851, 852, 871, 122, 870, 21, 903, 122, 902, 23, 875, 122, 874, 22, 481, 126, 480, 1091, 126, 1089, 1090, 1095, 126, 1093, 1094, 1101, 126, 1100, 30, 1184, 126, 1182, 1183, 1192, 126, 1191, 1201, 126, 1199, 1200, 1217, 126, 1215, 1216, 1206, 126, 1205, 34, 1213, 126, 1212, 35, 401, 123, 400, 1049, 123, 1047, 1048, 1062, 123, 1060, 1061, 1167, 123, 1165, 1166, 1173, 123, 1172, 33, 257, 117, 256] rfl (by decide +kernel)
set_option maxRecDepth 20000 in
theorem gw_2_in : GoodIn lw_tbl (mil_2.flatMap mw) := goodIn_r _ [677, 117, 675, 676, 686, 117, 685, 4, 748, 117, 747, 5, 754, 117, 753, 692, 117, 691, 744, 117, 743, 689, 117, 688, 751, 117, 750, 763, 117, 762, 7, 767, 117, 766, 8, 795, 117, 794, 13, 831, 117, 830, 20, 759, 117, 758, 6, 807, 117, 806, 15, 811, 117, 810, 16, 775, 117, 774, 9, 815, 117, 814, 17, 819, 117, 818, 18, 823, 117, 822, 19, 783, 117, 782, 10] rfl (by decide +kernel)
set_option maxRecDepth 20000 in
theorem gw_3_in : GoodIn lw_tbl (mil_3.flatMap mw) := goodIn_r _ [787, 117, 786, 11, 791, 117, 790, 12, 803, 117, 802, 14, 458, 125, 457, 1123, 125, 1121, 1122, 1140, 125, 1138, 1139, 1152, 125, 1150, 1151, 1156, 125, 1154, 1155, 1129, 125, 1128, 31, 1135, 125, 1134, 32, 424, 124, 423, 1040, 124, 1038, 1039, 1073, 124, 1071, 1072, 1081, 124, 1079, 1080, 1044, 124, 1043, 28, 1057, 124, 1056, 29, 147, 115, 146, 888, 115, 886, 887, 893, 115, 892, 899, 115, 898] rfl (by decide +kernel)
set_option maxRecDepth 20000 in
theorem gw_4_in : GoodIn lw_tbl (mil_4.flatMap mw) := goodIn_r _ [263, 118, 262, 835, 118, 833, 834, 681, 118, 679, 680, 771, 118, 769, 770, 867, 118, 865, 866, 779, 118, 777, 778, 799, 118, 797, 798, 827, 118, 825, 826, 158, 116, 157, 861, 116, 859, 860, 560, 116, 559, 575, 116, 573, 574, 604, 116, 602, 603, 1111, 116, 1109, 1110, 844, 116, 842, 843, 583, 116, 581, 582, 612, 116, 610, 611, 929, 116, 927, 928, 587, 116, 585, 586, 616, 116, 614, 615] rfl (by decide +kernel)
set_option maxRecDepth 20000 in
theorem gw_5_in : GoodIn lw_tbl (mil_5.flatMap mw) := goodIn_r _ [925, 116, 923, 924, 592, 116, 590, 591, 947, 116, 945, 946, 634, 116, 632, 633, 1144, 116, 1142, 1143, 625, 116, 623, 624, 630, 116, 628, 629, 621, 116, 619, 620, 139, 114, 138, 557, 114, 555, 556, 579, 114, 577, 578, 599, 114, 597, 598, 608, 114, 606, 607, 638, 114, 636, 637, 645, 114, 643, 644, 653, 114, 651, 652, 657, 114, 655, 656, 665, 114, 663, 664, 669, 114, 667, 668, 849, 114, 847, 848] rfl (by decide +kernel)
set_option maxRecDepth 20000 in
theorem gw_6_in : GoodIn lw_tbl (mil_6.flatMap mw) := goodIn_r _ [974, 114, 972, 973, 978, 114, 976, 977, 982, 114, 980, 981, 987, 114, 985, 986, 1008, 114, 1006, 1007, 1013, 114, 1011, 1012, 1018, 114, 1016, 1017, 1023, 114, 1021, 1022, 1028, 114, 1026, 1027, 1036, 114, 1034, 1035, 1069, 114, 1067, 1068, 1077, 114, 1075, 1076, 1087, 114, 1085, 1086, 1107, 114, 1105, 1106, 1115, 114, 1113, 1114, 1119, 114, 1117, 1118, 1148, 114, 1146, 1147, 1163, 114, 1161, 1162, 1180, 114, 1178, 1179, 1196, 114, 1194, 1195] rfl (by decide +kernel)
set_option maxRecDepth 20000 in
theorem gw_7_in : GoodIn lw_tbl (mil_7.flatMap mw) := goodIn_r _ [1224, 114, 1222, 1223, 1229, 114, 1227, 1228, 1234, 114, 1232, 1233, 1238, 114, 1236, 1237, 1246, 114, 1244, 1245, 564, 114, 563, 0, 1242, 114, 1241, 36, 649, 114, 648, 1, 673, 114, 672, 3, 661, 114, 660, 2, 595, 114, 594, 641, 114, 640, 1418, 127, 1417, 1837, 127, 1836, 1422, 127, 1421, 37, 1426, 127, 1425, 38, 1434, 127, 1433, 39, 1508, 127, 1507, 1679, 127, 1678, 1251, 127, 1250] rfl (by decide +kernel)
set_option maxRecDepth 20000 in
theorem gw_8_in : GoodIn lw_tbl (mil_8.flatMap mw) := goodIn_r _ [1866, 127, 1865, 106, 1885, 127, 1884, 110, 1415, 127, 1413, 1414, 1430, 127, 1428, 1429, 1453, 127, 1452, 41, 1476, 127, 1475, 44, 1456, 127, 1455, 1502, 127, 1501, 49, 1460, 127, 1459, 42, 1468, 127, 1467, 43, 1498, 127, 1497, 48, 1441, 127, 1440, 1445, 127, 1444, 40, 1438, 127, 1436, 1437, 1449, 127, 1447, 1448, 1464, 127, 1462, 1463, 1494, 127, 1493, 47, 1505, 127, 1504, 1490, 127, 1489, 1511, 127, 1510] rfl (by decide +kernel)
set_option maxRecDepth 20000 in
theorem gw_9_in : GoodIn lw_tbl (mil_9.flatMap mw) := goodIn_r _ [1487, 127, 1486, 1484, 127, 1483, 46, 1480, 127, 1479, 45, 1472, 127, 1470, 1471, 1518, 127, 1517, 1515, 127, 1513, 1514, 1522, 127, 1520, 1521, 1526, 127, 1524, 1525, 1530, 127, 1528, 1529, 1534, 127, 1532, 1533, 1553, 127, 1552, 1556, 127, 1555, 1560, 127, 1559, 53, 1550, 127, 1549, 52, 1577, 127, 1576, 57, 1596, 127, 1595, 61, 1573, 127, 1572, 56, 1600, 127, 1599, 62, 1604, 127, 1603, 63, 1592, 127, 1591] rfl (by decide +kernel)
set_option maxRecDepth 20000 in
theorem gw_10_in : GoodIn lw_tbl (mil_10.flatMap mw) := goodIn_r _ [1608, 127, 1607, 64, 1624, 127, 1623, 68, 1569, 127, 1568, 55, 1565, 127, 1564, 54, 1612, 127, 1611, 65, 1616, 127, 1615, 66, 1620, 127, 1619, 67, 1581, 127, 1580, 58, 1585, 127, 1584, 59, 1589, 127, 1588, 60, 1546, 127, 1545, 51, 1542, 127, 1541, 50, 1628, 127, 1627, 69, 1538, 127, 1536, 1537, 1632, 127, 1630, 1631, 1636, 127, 1634, 1635, 1656, 127, 1655, 73, 1672, 127, 1671, 77, 1684, 127, 1683, 79, 1660, 127, 1659, 74] rfl (by decide +kernel)
set_option maxRecDepth 20000 in
theorem gw_11_in : GoodIn lw_tbl (mil_11.flatMap mw) := goodIn_r _ [1664, 127, 1663, 75, 1668, 127, 1667, 76, 1676, 127, 1675, 78, 1690, 127, 1689, 80, 1694, 127, 1693, 81, 1698, 127, 1697, 82, 1702, 127, 1701, 83, 1652, 127, 1651, 72, 1648, 127, 1647, 71, 1644, 127, 1643, 70, 1706, 127, 1705, 84, 1640, 127, 1638, 1639, 1726, 127, 1725, 87, 1774, 127, 1773, 95, 1786, 127, 1785, 98, 1730, 127, 1729, 88, 1710, 127, 1708, 1709, 1738, 127, 1737, 90, 1734, 127, 1733, 89, 1722, 127, 1721, 86] rfl (by decide +kernel)
set_option maxRecDepth 20000 in
theorem gw_12_in : GoodIn lw_tbl (mil_12.flatMap mw) := goodIn_r _ [1718, 127, 1717, 85, 1746, 127, 1745, 91, 1754, 127, 1753, 92, 1762, 127, 1761, 93, 1714, 127, 1712, 1713, 1742, 127, 1740, 1741, 1750, 127, 1748, 1749, 1758, 127, 1756, 1757, 1782, 127, 1781, 97, 1778, 127, 1777, 96, 1770, 127, 1769, 94, 1766, 127, 1764, 1765, 1790, 127, 1788, 1789, 1794, 127, 1792, 1793, 1806, 127, 1805, 100, 1810, 127, 1809, 101, 1802, 127, 1801, 99, 1798, 127, 1796, 1797, 1814, 127, 1812, 1813, 1818, 127, 1816, 1817] rfl (by decide +kernel)
set_option maxRecDepth 20000 in
theorem gw_13_in : GoodIn lw_tbl (mil_13.flatMap mw) := goodIn_r _ [1826, 127, 1825, 102, 1830, 127, 1829, 103, 1822, 127, 1820, 1821, 1834, 127, 1832, 1833, 1841, 127, 1839, 1840, 1849, 127, 1848, 104, 1853, 127, 1852, 105, 1845, 127, 1843, 1844, 1858, 127, 1856, 1857, 1862, 127, 1860, 1861, 1874, 127, 1873, 108, 1881, 127, 1880, 1878, 127, 1877, 109, 1870, 127, 1869, 107, 1893, 127, 1892, 111, 1889, 127, 1887, 1888, 1900, 127, 1898, 1899, 1908, 127, 1907, 112, 1904, 127, 1902, 1903, 1912, 127, 1910, 1911] rfl (by decide +kernel)
set_option maxRecDepth 20000 in
theorem gw_14_in : GoodIn lw_tbl (mil_14.flatMap mw) := goodIn_r _ [878, 133, 877, 267, 119, 266, 567, 119, 566, 1052, 134, 1051, 707, 128, 705, 706, 714, 129, 713, 717, 128, 716, 722, 130, 721, 697, 128, 695, 696, 701, 128, 699, 700, 711, 128, 709, 710] rfl (by decide +kernel)
set_option maxRecDepth 20000 in
theorem gw_15_in : GoodIn lw_tbl (mls_0.map mlC) := goodIn_r _ [344, 910, 911, 912, 913, 940, 944, 948, 955, 956, 957, 962, 858, 917, 992, 996, 921, 922, 930, 934, 935, 936, 938, 939, 854, 864, 868, 967, 872, 885, 897, 900, 905, 951, 958, 963, 876, 882, 883, 884, 1092, 1096, 1097, 1098, 1102, 1185, 1188, 1189, 1190, 1203, 1210, 1214, 1219, 1220, 1050, 1063, 1064, 1065, 1168, 1169, 1170, 1174, 1175, 261, 678, 682, 683, 756, 828, 760, 792, 764, 687, 690, 745, 749, 752, 694, 704, 742] rfl (by decide +kernel)
set_option maxRecDepth 20000 in
theorem gw_16_in : GoodIn lw_tbl (mls_1.map mlC) := goodIn_r _ [768, 772, 808, 804, 776, 812, 796, 780, 816, 824, 820, 784, 788, 800, 1124, 1125, 1126, 1131, 1132, 1141, 1153, 1157, 1158, 1130, 1136, 1041, 1054, 1058, 1082, 1045, 1046, 1053, 1059, 890, 891, 265, 837, 588, 617, 926, 631, 626, 622, 627, 145, 156, 255, 314, 339, 370, 399, 422, 456, 479, 558, 561, 568, 572, 580, 584, 589, 600, 601, 609, 613, 618, 639, 646, 658, 670, 674, 832, 841, 850, 983, 988, 997, 1001, 1009, 1014] rfl (by decide +kernel)
set_option maxRecDepth 20000 in
theorem gw_17_in : GoodIn lw_tbl (mls_2.map mlC) := goodIn_r _ [1019, 1024, 1029, 1037, 1070, 1078, 1083, 1088, 1103, 1108, 1120, 1137, 1149, 1159, 1164, 1176, 1181, 1198, 1225, 1230, 1239, 565, 1423, 1416, 1419, 1431, 1499, 1439, 1442, 1450, 1454, 1457, 1465, 1495, 1506, 1509, 1488, 1485, 1481, 1491, 1503, 1473, 1477, 1516, 1551, 1554, 1557, 1574, 1570, 1593, 1578, 1597, 1609, 1605, 1566, 1621, 1613, 1617, 1590, 1582, 1586, 1601, 1547, 1562, 1543, 1539, 1625, 1653, 1661, 1681, 1665, 1669, 1657, 1673, 1677, 1680, 1691, 1695, 1699, 1687] rfl (by decide +kernel)
set_option maxRecDepth 20000 in
theorem gw_18_in : GoodIn lw_tbl (mls_3.map mlC) := goodIn_r _ [1649, 1645, 1641, 1703, 1723, 1719, 1727, 1731, 1715, 1735, 1743, 1751, 1759, 1779, 1783, 1771, 1775, 1767, 1803, 1807, 1799, 1823, 1827, 1835, 1846, 1850, 1863, 1867, 1882, 1879, 1871, 1875, 1890, 1905, 698, 708, 712, 720, 715, 137, 1249, 554, 1435, 576, 1446, 596, 1461, 605, 1469, 635, 1512, 642, 1527, 650, 1531, 654, 1519, 662, 1523, 666, 1535, 846, 1859, 971, 1629, 975, 1855, 979, 1633, 984, 1637, 1005, 1711, 1010, 1739, 1015, 1747, 1020, 1755, 1025] rfl (by decide +kernel)
set_option maxRecDepth 20000 in
theorem gw_19_in : GoodIn lw_tbl (mls_4.map mlC) := goodIn_r _ [1707, 1033, 1763, 1066, 1787, 1074, 1791, 1084, 1795, 1104, 1811, 1112, 1815, 1116, 1819, 1145, 1831, 1160, 1838, 1177, 1842, 1193, 1886, 1221, 1897, 1226, 1412, 1231, 1427, 1235, 1901, 1243, 1909] rfl (by decide +kernel)
set_option maxRecDepth 20000 in
theorem gw_20_in : GoodIn lw_tbl (fls_0.map fC) := goodIn_r _ [345, 346, 349, 350, 351, 206, 186, 170, 347, 352, 318, 319, 320, 323, 321, 322, 210, 176, 273, 179, 374, 375, 376, 377, 380, 378, 379, 271, 208, 172, 483, 484, 485, 163, 183, 193, 171, 189, 209, 486, 181, 487, 403, 404, 405, 406, 207, 407, 166, 285, 289, 290, 287, 294, 293, 292, 291, 275, 460, 461, 462, 463, 464, 165, 197, 204, 200, 202, 426, 427, 428, 429, 430, 169, 433, 431, 434, 190, 194, 432] rfl (by decide +kernel)
set_option maxRecDepth 20000 in
theorem gw_21_in : GoodIn lw_tbl (fls_1.map fC) := goodIn_r _ [167, 149, 270, 268, 269, 274, 272, 174, 177, 180, 188, 192, 199, 201, 203, 205, 216, 214, 162, 168, 182, 185, 196, 212, 499, 500, 501, 502, 503, 504, 505, 506, 507, 508, 509, 510, 513, 515, 164, 175, 178, 184, 191, 195, 211, 512, 514, 213, 288, 286, 381, 215, 516, 198, 465, 408, 511, 173, 187, 348, 1253, 1254, 1285, 1255, 1256, 1257, 1258, 1260, 1264, 1265, 1267, 1268, 1269, 1270, 1279, 1282, 1283, 1284, 1286, 1287] rfl (by decide +kernel)
set_option maxRecDepth 20000 in
theorem gw_22_in : GoodIn lw_tbl (fls_2.map fC) := goodIn_r _ [1288, 1289, 1291, 1292, 1293, 1294, 1295, 1301, 1302, 1303, 1266, 1259, 1271, 1274, 1272, 1273, 1263, 1261, 1262, 1276, 1275, 1277, 1278, 1280, 1281, 1290, 1296, 1298, 1299, 1297, 1300, 1304] rfl (by decide +kernel)
set_option maxRecDepth 20000 in
theorem gw_23_in : GoodIn lw_tbl (clW 0) := goodIn_r _ [353, 355, 357, 359, 361, 363, 365, 338] rfl (by decide +kernel)
set_option maxRecDepth 20000 in
theorem gw_24_in : GoodIn lw_tbl (clW 1) := goodIn_r _ [324, 326, 328, 330, 332, 334, 313] rfl (by decide +kernel)
set_option maxRecDepth 20000 in
theorem gw_25_in : GoodIn lw_tbl (clW 2) := goodIn_r _ [382, 384, 386, 388, 390, 392, 394, 369] rfl (by decide +kernel)
set_option maxRecDepth 20000 in
theorem gw_26_in : GoodIn lw_tbl (clW 3) := goodIn_r _ [488, 490, 492, 494, 496, 478] rfl (by decide +kernel)
set_option maxRecDepth 20000 in
theorem gw_27_in : GoodIn lw_tbl (clW 4) := goodIn_r _ [409, 411, 413, 415, 417, 398] rfl (by decide +kernel)
set_option maxRecDepth 20000 in
theorem gw_28_in : GoodIn lw_tbl (clW 5) := goodIn_r _ [295, 297, 299, 301, 303, 305, 307, 309, 254] rfl (by decide +kernel)
set_option maxRecDepth 20000 in
theorem gw_29_in : GoodIn lw_tbl (clW 6) := goodIn_r _ [466, 468, 470, 472, 474, 455] rfl (by decide +kernel)
set_option maxRecDepth 20000 in
theorem gw_30_in : GoodIn lw_tbl (clW 7) := goodIn_r _ [435, 437, 439, 441, 443, 445, 447, 449, 451, 421] rfl (by decide +kernel)
set_option maxRecDepth 20000 in
theorem gw_31_in : GoodIn lw_tbl (clW 8) := goodIn_r _ [150, 144] rfl (by decide +kernel)
set_option maxRecDepth 20000 in
theorem gw_32_in : GoodIn lw_tbl (clW 9) := goodIn_r _ [276, 278, 280, 282, 260] rfl (by decide +kernel)
set_option maxRecDepth 20000 in
theorem gw_33_in : GoodIn lw_tbl (clW 10) := goodIn_r _ [217, 219, 221, 223, 225, 227, 229, 231, 233, 235, 237, 239, 241, 243, 245, 247, 249, 155] rfl (by decide +kernel)
set_option maxRecDepth 20000 in
theorem gw_34_in : GoodIn lw_tbl (clW 11) := goodIn_r _ [517, 519, 521, 523, 525, 527, 529, 531, 533, 535, 537, 539, 541, 543, 545, 547, 549, 551, 136] rfl (by decide +kernel)
set_option maxRecDepth 20000 in
theorem gw_35_in : GoodIn lw_tbl (clW 12) := goodIn_r _ [1305, 1307, 1309, 1311, 1313, 1315, 1317, 1319, 1321, 1323, 1325, 1327, 1329, 1331, 1333, 1335, 1337, 1339, 1341, 1343, 1345, 1347, 1349, 1351, 1353, 1355, 1357, 1359, 1361, 1363, 1365, 1367, 1369, 1371, 1373, 1375, 1377, 1379, 1381, 1383, 1385, 1387, 1389, 1391, 1393, 1395, 1397, 1399, 1401, 1403, 1405, 1407, 1248] rfl (by decide +kernel)
set_option maxRecDepth 20000 in
theorem gw_36_in : GoodIn lw_tbl (clk.map clC) := goodIn_r _ [343, 259, 836, 160, 143, 154, 154, 253, 312, 337, 368, 397, 420, 454, 477, 135, 1247] rfl (by decide +kernel)
set_option maxRecDepth 20000 in
theorem gw_37_in : GoodIn lw_tbl (cts.map ctC) := goodIn_r _ [937, 904, 755, 889, 1197, 1561, 879, 880, 881] rfl (by decide +kernel)
set_option maxRecDepth 20000 in
theorem gw_38_in : GoodIn lw_tbl (ctls.map ctlC) := goodIn_r _ [1186, 1187, 1207, 1208, 1209, 894, 895, 896, 1685, 1686, 1854, 1894, 1895, 1896] rfl (by decide +kernel)
set_option maxRecDepth 20000 in
theorem gw_39_in : GoodIn lw_tbl (oil.map oiC) := goodIn_r _ [342, 317, 373, 482, 402, 258, 459, 425, 148, 264, 159, 140, 1252] rfl (by decide +kernel)
set_option maxRecDepth 20000 in
theorem gw_40_in : GoodIn lw_tbl (acl.map acC) := goodIn_r _ [863, 1202, 838, 862] rfl (by decide +kernel)
set_option maxRecDepth 20000 in
theorem gw_41_in : GoodIn lw_tbl (gwx) := goodIn_r _ [153, 845, 1410, 1411, 141, 142, 840, 839, 132, 702, 718, 1913, 1914] rfl (by decide +kernel)
def gw : List Cond := (mil_0.flatMap mw) ++ ((mil_1.flatMap mw) ++ ((mil_2.flatMap mw) ++ ((mil_3.flatMap mw) ++ ((mil_4.flatMap mw) ++ ((mil_5.flatMap mw) ++ ((mil_6.flatMap mw) ++ ((mil_7.flatMap mw) ++ ((mil_8.flatMap mw) ++ ((mil_9.flatMap mw) ++ ((mil_10.flatMap mw) ++ ((mil_11.flatMap mw) ++ ((mil_12.flatMap mw) ++ ((mil_13.flatMap mw) ++ ((mil_14.flatMap mw) ++ ((mls_0.map mlC) ++ ((mls_1.map mlC) ++ ((mls_2.map mlC) ++ ((mls_3.map mlC) ++ ((mls_4.map mlC) ++ ((fls_0.map fC) ++ ((fls_1.map fC) ++ ((fls_2.map fC) ++ ((clW 0) ++ ((clW 1) ++ ((clW 2) ++ ((clW 3) ++ ((clW 4) ++ ((clW 5) ++ ((clW 6) ++ ((clW 7) ++ ((clW 8) ++ ((clW 9) ++ ((clW 10) ++ ((clW 11) ++ ((clW 12) ++ ((clk.map clC) ++ ((cts.map ctC) ++ ((ctls.map ctlC) ++ ((oil.map oiC) ++ ((acl.map acC) ++ ((gwx))))))))))))))))))))))))))))))))))))))))))
theorem gw_in : GoodIn lw_tbl gw := goodIn_ap gw_0_in (goodIn_ap gw_1_in (goodIn_ap gw_2_in (goodIn_ap gw_3_in (goodIn_ap gw_4_in (goodIn_ap gw_5_in (goodIn_ap gw_6_in (goodIn_ap gw_7_in (goodIn_ap gw_8_in (goodIn_ap gw_9_in (goodIn_ap gw_10_in (goodIn_ap gw_11_in (goodIn_ap gw_12_in (goodIn_ap gw_13_in (goodIn_ap gw_14_in (goodIn_ap gw_15_in (goodIn_ap gw_16_in (goodIn_ap gw_17_in (goodIn_ap gw_18_in (goodIn_ap gw_19_in (goodIn_ap gw_20_in (goodIn_ap gw_21_in (goodIn_ap gw_22_in (goodIn_ap gw_23_in (goodIn_ap gw_24_in (goodIn_ap gw_25_in (goodIn_ap gw_26_in (goodIn_ap gw_27_in (goodIn_ap gw_28_in (goodIn_ap gw_29_in (goodIn_ap gw_30_in (goodIn_ap gw_31_in (goodIn_ap gw_32_in (goodIn_ap gw_33_in (goodIn_ap gw_34_in (goodIn_ap gw_35_in (goodIn_ap gw_36_in (goodIn_ap gw_37_in (goodIn_ap gw_38_in (goodIn_ap gw_39_in (goodIn_ap gw_40_in (gw_41_in)))))))))))))))))))))))))))))))))))))))))
