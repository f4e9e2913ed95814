theorem okc37_0 : ct37_0.all (entOK cX4_chatterRounds 4) = true := by decide +kernel
theorem ok37 : mOKm mi37 := ⟨⟨fun q h => List.all_eq_true.mp okc37_0 q h, by decide +kernel⟩, List.mem_append_right _ (List.mem_append_left _ (List.mem_of_getElem? (i := 17) rfl))⟩
theorem okc38_0 : ct38_0.all (entOK cX4_hasRoundChanged 4) = true := by decide +kernel
theorem ok38 : mOKm mi38 := ⟨⟨fun q h => List.all_eq_true.mp okc38_0 q h, by decide +kernel⟩, List.mem_append_right _ (List.mem_append_left _ (List.mem_of_getElem? (i := 18) rfl))⟩
theorem okc39_0 : ct39_0.all (entOK cX5_init 5) = true := by decide +kernel
theorem ok39 : mOKm mi39 := ⟨⟨fun q h => List.all_eq_true.mp okc39_0 q h, by decide +kernel⟩, List.mem_append_right _ (List.mem_append_left _ (List.mem_of_getElem? (i := 19) rfl))⟩
theorem okc40_0 : ct40_0.all (entOK cX5_read 5) = true := by decide +kernel
theorem ok40 : mOKm mi40 := ⟨⟨fun q h => List.all_eq_true.mp okc40_0 q h, by decide +kernel⟩, List.mem_append_right _ (List.mem_append_right _ (List.mem_append_left _ (List.mem_of_getElem? (i := 0) rfl)))⟩
theorem okc41_0 : ct41_0.all (entOK cX5_split 5) = true := by decide +kernel
theorem okc41_1 : ct41_1.all (entOK cX5_split 5) = true := by decide +kernel
theorem ok41 : mOKm mi41 := ⟨⟨fun q h => (List.mem_append.mp h).elim (fun h => List.all_eq_true.mp okc41_0 q h) (fun h => List.all_eq_true.mp okc41_1 q h), by decide +kernel⟩, List.mem_append_right _ (List.mem_append_right _ (List.mem_append_left _ (List.mem_of_getElem? (i := 1) rfl)))⟩
theorem okc42_0 : ct42_0.all (entOK cX5_add 5) = true := by decide +kernel
theorem ok42 : mOKm mi42 := ⟨⟨fun q h => List.all_eq_true.mp okc42_0 q h, by decide +kernel⟩, List.mem_append_right _ (List.mem_append_right _ (List.mem_append_left _ (List.mem_of_getElem? (i := 2) rfl)))⟩
theorem okc43_0 : ct43_0.all (entOK cX5_numberAt 5) = true := by decide +kernel
theorem ok43 : mOKm mi43 := ⟨⟨fun q h => List.all_eq_true.mp okc43_0 q h, by decide +kernel⟩, List.mem_append_right _ (List.mem_append_right _ (List.mem_append_left _ (List.mem_of_getElem? (i := 3) rfl)))⟩
theorem okc44_0 : ct44_0.all (entOK cX5_wordAt 5) = true := by decide +kernel
theorem ok44 : mOKm mi44 := ⟨⟨fun q h => List.all_eq_true.mp okc44_0 q h, by decide +kernel⟩, List.mem_append_right _ (List.mem_append_right _ (List.mem_append_left _ (List.mem_of_getElem? (i := 4) rfl)))⟩
theorem okc45_0 : ct45_0.all (entOK cX5_isSameWord 5) = true := by decide +kernel
theorem ok45 : mOKm mi45 := ⟨⟨fun q h => List.all_eq_true.mp okc45_0 q h, by decide +kernel⟩, List.mem_append_right _ (List.mem_append_right _ (List.mem_append_left _ (List.mem_of_getElem? (i := 5) rfl)))⟩
theorem okc46_0 : ct46_0.all (entOK cX5_isLetter 5) = true := by decide +kernel
theorem ok46 : mOKm mi46 := ⟨⟨fun q h => List.all_eq_true.mp okc46_0 q h, by decide +kernel⟩, List.mem_append_right _ (List.mem_append_right _ (List.mem_append_left _ (List.mem_of_getElem? (i := 6) rfl)))⟩
theorem okc47_0 : ct47_0.all (entOK cX5_isDigit 5) = true := by decide +kernel
theorem ok47 : mOKm mi47 := ⟨⟨fun q h => List.all_eq_true.mp okc47_0 q h, by decide +kernel⟩, List.mem_append_right _ (List.mem_append_right _ (List.mem_append_left _ (List.mem_of_getElem? (i := 7) rfl)))⟩
theorem okc48_0 : ct48_0.all (entOK cX5_token 5) = true := by decide +kernel
theorem ok48 : mOKm mi48 := ⟨⟨fun q h => List.all_eq_true.mp okc48_0 q h, by decide +kernel⟩, List.mem_append_right _ (List.mem_append_right _ (List.mem_append_left _ (List.mem_of_getElem? (i := 8) rfl)))⟩
theorem okc49_0 : ct49_0.all (entOK cX5_wrong 5) = true := by decide +kernel
theorem ok49 : mOKm mi49 := ⟨⟨fun q h => List.all_eq_true.mp okc49_0 q h, by decide +kernel⟩, List.mem_append_right _ (List.mem_append_right _ (List.mem_append_left _ (List.mem_of_getElem? (i := 9) rfl)))⟩
theorem okc50_0 : ct50_0.all (entOK cX5_passed 5) = true := by decide +kernel
theorem ok50 : mOKm mi50 := ⟨⟨fun q h => List.all_eq_true.mp okc50_0 q h, by decide +kernel⟩, List.mem_append_right _ (List.mem_append_right _ (List.mem_append_left _ (List.mem_of_getElem? (i := 10) rfl)))⟩
theorem okc51_0 : ct51_0.all (entOK cX5_lawClause 5) = true := by decide +kernel
theorem ok51 : mOKm mi51 := ⟨⟨fun q h => List.all_eq_true.mp okc51_0 q h, by decide +kernel⟩, List.mem_append_right _ (List.mem_append_right _ (List.mem_append_left _ (List.mem_of_getElem? (i := 11) rfl)))⟩
theorem okc52_0 : ct52_0.all (entOK cX5_orderClause 5) = true := by decide +kernel
theorem okc52_1 : ct52_1.all (entOK cX5_orderClause 5) = true := by decide +kernel
theorem ok52 : mOKm mi52 := ⟨⟨fun q h => (List.mem_append.mp h).elim (fun h => List.all_eq_true.mp okc52_0 q h) (fun h => List.all_eq_true.mp okc52_1 q h), by decide +kernel⟩, List.mem_append_right _ (List.mem_append_right _ (List.mem_append_left _ (List.mem_of_getElem? (i := 12) rfl)))⟩
theorem okc53_0 : ct53_0.all (entOK cX5_repetition 5) = true := by decide +kernel
theorem ok53 : mOKm mi53 := ⟨⟨fun q h => List.all_eq_true.mp okc53_0 q h, by decide +kernel⟩, List.mem_append_right _ (List.mem_append_right _ (List.mem_append_left _ (List.mem_of_getElem? (i := 13) rfl)))⟩
theorem okc54_0 : ct54_0.all (entOK cX5_condition 5) = true := by decide +kernel
theorem ok54 : mOKm mi54 := ⟨⟨fun q h => List.all_eq_true.mp okc54_0 q h, by decide +kernel⟩, List.mem_append_right _ (List.mem_append_right _ (List.mem_append_left _ (List.mem_of_getElem? (i := 14) rfl)))⟩
theorem okc55_0 : ct55_0.all (entOK cX5_wholeSum 5) = true := by decide +kernel
theorem ok55 : mOKm mi55 := ⟨⟨fun q h => List.all_eq_true.mp okc55_0 q h, by decide +kernel⟩, List.mem_append_right _ (List.mem_append_right _ (List.mem_append_left _ (List.mem_of_getElem? (i := 15) rfl)))⟩
theorem okc56_0 : ct56_0.all (entOK cX5_test 5) = true := by decide +kernel
theorem ok56 : mOKm mi56 := ⟨⟨fun q h => List.all_eq_true.mp okc56_0 q h, by decide +kernel⟩, List.mem_append_right _ (List.mem_append_right _ (List.mem_append_left _ (List.mem_of_getElem? (i := 16) rfl)))⟩
theorem okc57_0 : ct57_0.all (entOK cX5_both 5) = true := by decide +kernel
theorem ok57 : mOKm mi57 := ⟨⟨fun q h => List.all_eq_true.mp okc57_0 q h, by decide +kernel⟩, List.mem_append_right _ (List.mem_append_right _ (List.mem_append_left _ (List.mem_of_getElem? (i := 17) rfl)))⟩
theorem okc58_0 : ct58_0.all (entOK cX5_plain 5) = true := by decide +kernel
theorem okc58_1 : ct58_1.all (entOK cX5_plain 5) = true := by decide +kernel
theorem ok58 : mOKm mi58 := ⟨⟨fun q h => (List.mem_append.mp h).elim (fun h => List.all_eq_true.mp okc58_0 q h) (fun h => List.all_eq_true.mp okc58_1 q h), by decide +kernel⟩, List.mem_append_right _ (List.mem_append_right _ (List.mem_append_left _ (List.mem_of_getElem? (i := 18) rfl)))⟩
theorem okc59_0 : ct59_0.all (entOK cX5_sum 5) = true := by decide +kernel
theorem ok59 : mOKm mi59 := ⟨⟨fun q h => List.all_eq_true.mp okc59_0 q h, by decide +kernel⟩, List.mem_append_right _ (List.mem_append_right _ (List.mem_append_left _ (List.mem_of_getElem? (i := 19) rfl)))⟩
theorem okc60_0 : ct60_0.all (entOK cX5_term 5) = true := by decide +kernel
theorem ok60 : mOKm mi60 := ⟨⟨fun q h => List.all_eq_true.mp okc60_0 q h, by decide +kernel⟩, List.mem_append_right _ (List.mem_append_right _ (List.mem_append_right _ (List.mem_append_left _ (List.mem_of_getElem? (i := 0) rfl))))⟩
theorem okc61_0 : ct61_0.all (entOK cX5_part 5) = true := by decide +kernel
theorem okc61_1 : ct61_1.all (entOK cX5_part 5) = true := by decide +kernel
theorem ok61 : mOKm mi61 := ⟨⟨fun q h => (List.mem_append.mp h).elim (fun h => List.all_eq_true.mp okc61_0 q h) (fun h => List.all_eq_true.mp okc61_1 q h), by decide +kernel⟩, List.mem_append_right _ (List.mem_append_right _ (List.mem_append_right _ (List.mem_append_left _ (List.mem_of_getElem? (i := 1) rfl))))⟩
theorem okc62_0 : ct62_0.all (entOK cX5_orderWord 5) = true := by decide +kernel
theorem okc62_1 : ct62_1.all (entOK cX5_orderWord 5) = true := by decide +kernel
theorem ok62 : mOKm mi62 := ⟨⟨fun q h => (List.mem_append.mp h).elim (fun h => List.all_eq_true.mp okc62_0 q h) (fun h => List.all_eq_true.mp okc62_1 q h), by decide +kernel⟩, List.mem_append_right _ (List.mem_append_right _ (List.mem_append_right _ (List.mem_append_left _ (List.mem_of_getElem? (i := 2) rfl))))⟩
theorem okc63_0 : ct63_0.all (entOK cX6_init 6) = true := by decide +kernel
theorem ok63 : mOKm mi63 := ⟨⟨fun q h => List.all_eq_true.mp okc63_0 q h, by decide +kernel⟩, List.mem_append_right _ (List.mem_append_right _ (List.mem_append_right _ (List.mem_append_left _ (List.mem_of_getElem? (i := 3) rfl))))⟩
theorem okc64_0 : ct64_0.all (entOK cX6_gather 6) = true := by decide +kernel
theorem ok64 : mOKm mi64 := ⟨⟨fun q h => List.all_eq_true.mp okc64_0 q h, by decide +kernel⟩, List.mem_append_right _ (List.mem_append_right _ (List.mem_append_right _ (List.mem_append_left _ (List.mem_of_getElem? (i := 4) rfl))))⟩
theorem okc65_0 : ct65_0.all (entOK cX6_markIn 6) = true := by decide +kernel
theorem ok65 : mOKm mi65 := ⟨⟨fun q h => List.all_eq_true.mp okc65_0 q h, by decide +kernel⟩, List.mem_append_right _ (List.mem_append_right _ (List.mem_append_right _ (List.mem_append_left _ (List.mem_of_getElem? (i := 5) rfl))))⟩
theorem okc66_0 : ct66_0.all (entOK cX6_bestToAsk 6) = true := by decide +kernel
theorem ok66 : mOKm mi66 := ⟨⟨fun q h => List.all_eq_true.mp okc66_0 q h, by decide +kernel⟩, List.mem_append_right _ (List.mem_append_right _ (List.mem_append_right _ (List.mem_append_left _ (List.mem_of_getElem? (i := 6) rfl))))⟩
theorem okc67_0 : ct67_0.all (entOK cX6_mostAlike 6) = true := by decide +kernel
theorem ok67 : mOKm mi67 := ⟨⟨fun q h => List.all_eq_true.mp okc67_0 q h, by decide +kernel⟩, List.mem_append_right _ (List.mem_append_right _ (List.mem_append_right _ (List.mem_append_left _ (List.mem_of_getElem? (i := 7) rfl))))⟩
theorem okc68_0 : ct68_0.all (entOK cX6_digitsOfSilent 6) = true := by decide +kernel
theorem ok68 : mOKm mi68 := ⟨⟨fun q h => List.all_eq_true.mp okc68_0 q h, by decide +kernel⟩, List.mem_append_right _ (List.mem_append_right _ (List.mem_append_right _ (List.mem_append_left _ (List.mem_of_getElem? (i := 8) rfl))))⟩
theorem okc69_0 : ct69_0.all (entOK cX6_rowBehindTold 6) = true := by decide +kernel
theorem ok69 : mOKm mi69 := ⟨⟨fun q h => List.all_eq_true.mp okc69_0 q h, by decide +kernel⟩, List.mem_append_right _ (List.mem_append_right _ (List.mem_append_right _ (List.mem_append_left _ (List.mem_of_getElem? (i := 9) rfl))))⟩
theorem okc70_0 : ct70_0.all (entOK cX7_init 7) = true := by decide +kernel
theorem ok70 : mOKm mi70 := ⟨⟨fun q h => List.all_eq_true.mp okc70_0 q h, by decide +kernel⟩, List.mem_append_right _ (List.mem_append_right _ (List.mem_append_right _ (List.mem_append_left _ (List.mem_of_getElem? (i := 10) rfl))))⟩
theorem okc71_0 : ct71_0.all (entOK cX7_shortestWay 7) = true := by decide +kernel
theorem okc71_1 : ct71_1.all (entOK cX7_shortestWay 7) = true := by decide +kernel
theorem ok71 : mOKm mi71 := ⟨⟨fun q h => (List.mem_append.mp h).elim (fun h => List.all_eq_true.mp okc71_0 q h) (fun h => List.all_eq_true.mp okc71_1 q h), by decide +kernel⟩, List.mem_append_right _ (List.mem_append_right _ (List.mem_append_right _ (List.mem_append_left _ (List.mem_of_getElem? (i := 11) rfl))))⟩
theorem okc72_0 : ct72_0.all (entOK cX7_endMarks 7) = true := by decide +kernel
theorem ok72 : mOKm mi72 := ⟨⟨fun q h => List.all_eq_true.mp okc72_0 q h, by decide +kernel⟩, List.mem_append_right _ (List.mem_append_right _ (List.mem_append_right _ (List.mem_append_left _ (List.mem_of_getElem? (i := 12) rfl))))⟩
theorem okc73_0 : ct73_0.all (entOK cX7_smallestCompany 7) = true := by decide +kernel
theorem okc73_1 : ct73_1.all (entOK cX7_smallestCompany 7) = true := by decide +kernel
theorem ok73 : mOKm mi73 := ⟨⟨fun q h => (List.mem_append.mp h).elim (fun h => List.all_eq_true.mp okc73_0 q h) (fun h => List.all_eq_true.mp okc73_1 q h), by decide +kernel⟩, List.mem_append_right _ (List.mem_append_right _ (List.mem_append_right _ (List.mem_append_left _ (List.mem_of_getElem? (i := 13) rfl))))⟩
theorem okc74_0 : ct74_0.all (entOK cX7_open 7) = true := by decide +kernel
theorem ok74 : mOKm mi74 := ⟨⟨fun q h => List.all_eq_true.mp okc74_0 q h, by decide +kernel⟩, List.mem_append_right _ (List.mem_append_right _ (List.mem_append_right _ (List.mem_append_left _ (List.mem_of_getElem? (i := 14) rfl))))⟩
theorem okc75_0 : ct75_0.all (entOK cX7_walk 7) = true := by decide +kernel
theorem okc75_1 : ct75_1.all (entOK cX7_walk 7) = true := by decide +kernel
theorem okc75_2 : ct75_2.all (entOK cX7_walk 7) = true := by decide +kernel
theorem ok75 : mOKm mi75 := ⟨⟨fun q h => (List.mem_append.mp h).elim (fun h => (List.mem_append.mp h).elim (fun h => List.all_eq_true.mp okc75_0 q h) (fun h => List.all_eq_true.mp okc75_1 q h)) (fun h => List.all_eq_true.mp okc75_2 q h), by decide +kernel⟩, List.mem_append_right _ (List.mem_append_right _ (List.mem_append_right _ (List.mem_append_left _ (List.mem_of_getElem? (i := 15) rfl))))⟩
