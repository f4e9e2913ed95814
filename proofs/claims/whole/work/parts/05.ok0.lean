theorem okc0_0 : ct0_0.all (entOK cX0_init 0) = true := by decide +kernel
theorem ok0 : mOKm mi0 := ⟨⟨fun q h => List.all_eq_true.mp okc0_0 q h, by decide +kernel⟩, List.mem_append_left _ (List.mem_of_getElem? (i := 0) rfl)⟩
theorem okc1_0 : ct1_0.all (entOK cX0_holdTalk 0) = true := by decide +kernel
theorem okc1_1 : ct1_1.all (entOK cX0_holdTalk 0) = true := by decide +kernel
theorem ok1 : mOKm mi1 := ⟨⟨fun q h => (List.mem_append.mp h).elim (fun h => List.all_eq_true.mp okc1_0 q h) (fun h => List.all_eq_true.mp okc1_1 q h), by decide +kernel⟩, List.mem_append_left _ (List.mem_of_getElem? (i := 1) rfl)⟩
theorem okc2_0 : ct2_0.all (entOK cX0_developRoll 0) = true := by decide +kernel
theorem ok2 : mOKm mi2 := ⟨⟨fun q h => List.all_eq_true.mp okc2_0 q h, by decide +kernel⟩, List.mem_append_left _ (List.mem_of_getElem? (i := 2) rfl)⟩
theorem okc3_0 : ct3_0.all (entOK cX0_buryPerson 0) = true := by decide +kernel
theorem ok3 : mOKm mi3 := ⟨⟨fun q h => List.all_eq_true.mp okc3_0 q h, by decide +kernel⟩, List.mem_append_left _ (List.mem_of_getElem? (i := 3) rfl)⟩
theorem okc4_0 : ct4_0.all (entOK cX0_passWeek 0) = true := by decide +kernel
theorem ok4 : mOKm mi4 := ⟨⟨fun q h => List.all_eq_true.mp okc4_0 q h, by decide +kernel⟩, List.mem_append_left _ (List.mem_of_getElem? (i := 4) rfl)⟩
theorem okc5_0 : ct5_0.all (entOK cX0_undoLatest 0) = true := by decide +kernel
theorem okc5_1 : ct5_1.all (entOK cX0_undoLatest 0) = true := by decide +kernel
theorem ok5 : mOKm mi5 := ⟨⟨fun q h => (List.mem_append.mp h).elim (fun h => List.all_eq_true.mp okc5_0 q h) (fun h => List.all_eq_true.mp okc5_1 q h), by decide +kernel⟩, List.mem_append_left _ (List.mem_of_getElem? (i := 5) rfl)⟩
theorem okc6_0 : ct6_0.all (entOK cX0_forgetAll 0) = true := by decide +kernel
theorem ok6 : mOKm mi6 := ⟨⟨fun q h => List.all_eq_true.mp okc6_0 q h, by decide +kernel⟩, List.mem_append_left _ (List.mem_of_getElem? (i := 6) rfl)⟩
theorem okc7_0 : ct7_0.all (entOK cX0_markPlace 0) = true := by decide +kernel
theorem ok7 : mOKm mi7 := ⟨⟨fun q h => List.all_eq_true.mp okc7_0 q h, by decide +kernel⟩, List.mem_append_left _ (List.mem_of_getElem? (i := 7) rfl)⟩
theorem okc8_0 : ct8_0.all (entOK cX0_returnToPlace 0) = true := by decide +kernel
theorem ok8 : mOKm mi8 := ⟨⟨fun q h => List.all_eq_true.mp okc8_0 q h, by decide +kernel⟩, List.mem_append_left _ (List.mem_of_getElem? (i := 8) rfl)⟩
theorem okc9_0 : ct9_0.all (entOK cX0_changed 0) = true := by decide +kernel
theorem ok9 : mOKm mi9 := ⟨⟨fun q h => List.all_eq_true.mp okc9_0 q h, by decide +kernel⟩, List.mem_append_left _ (List.mem_of_getElem? (i := 9) rfl)⟩
theorem okc10_0 : ct10_0.all (entOK cX0_keep 0) = true := by decide +kernel
theorem ok10 : mOKm mi10 := ⟨⟨fun q h => List.all_eq_true.mp okc10_0 q h, by decide +kernel⟩, List.mem_append_left _ (List.mem_of_getElem? (i := 10) rfl)⟩
theorem okc11_0 : ct11_0.all (entOK cX1_init 1) = true := by decide +kernel
theorem ok11 : mOKm mi11 := ⟨⟨fun q h => List.all_eq_true.mp okc11_0 q h, by decide +kernel⟩, List.mem_append_left _ (List.mem_of_getElem? (i := 11) rfl)⟩
theorem okc12_0 : ct12_0.all (entOK cX1_outcome 1) = true := by decide +kernel
theorem okc12_1 : ct12_1.all (entOK cX1_outcome 1) = true := by decide +kernel
theorem ok12 : mOKm mi12 := ⟨⟨fun q h => (List.mem_append.mp h).elim (fun h => List.all_eq_true.mp okc12_0 q h) (fun h => List.all_eq_true.mp okc12_1 q h), by decide +kernel⟩, List.mem_append_left _ (List.mem_of_getElem? (i := 12) rfl)⟩
theorem okc13_0 : ct13_0.all (entOK cX1_takenBy 1) = true := by decide +kernel
theorem ok13 : mOKm mi13 := ⟨⟨fun q h => List.all_eq_true.mp okc13_0 q h, by decide +kernel⟩, List.mem_append_left _ (List.mem_of_getElem? (i := 13) rfl)⟩
theorem okc14_0 : ct14_0.all (entOK cX1_swayOf 1) = true := by decide +kernel
theorem ok14 : mOKm mi14 := ⟨⟨fun q h => List.all_eq_true.mp okc14_0 q h, by decide +kernel⟩, List.mem_append_left _ (List.mem_of_getElem? (i := 14) rfl)⟩
theorem okc15_0 : ct15_0.all (entOK cX1_isBarred 1) = true := by decide +kernel
theorem ok15 : mOKm mi15 := ⟨⟨fun q h => List.all_eq_true.mp okc15_0 q h, by decide +kernel⟩, List.mem_append_left _ (List.mem_of_getElem? (i := 15) rfl)⟩
theorem okc16_0 : ct16_0.all (entOK cX1_hearNow 1) = true := by decide +kernel
theorem ok16 : mOKm mi16 := ⟨⟨fun q h => List.all_eq_true.mp okc16_0 q h, by decide +kernel⟩, List.mem_append_left _ (List.mem_of_getElem? (i := 16) rfl)⟩
theorem okc17_0 : ct17_0.all (entOK cX1_hear 1) = true := by decide +kernel
theorem okc17_1 : ct17_1.all (entOK cX1_hear 1) = true := by decide +kernel
theorem ok17 : mOKm mi17 := ⟨⟨fun q h => (List.mem_append.mp h).elim (fun h => List.all_eq_true.mp okc17_0 q h) (fun h => List.all_eq_true.mp okc17_1 q h), by decide +kernel⟩, List.mem_append_left _ (List.mem_of_getElem? (i := 17) rfl)⟩
theorem okc18_0 : ct18_0.all (entOK cX1_setWords 1) = true := by decide +kernel
theorem okc18_1 : ct18_1.all (entOK cX1_setWords 1) = true := by decide +kernel
theorem ok18 : mOKm mi18 := ⟨⟨fun q h => (List.mem_append.mp h).elim (fun h => List.all_eq_true.mp okc18_0 q h) (fun h => List.all_eq_true.mp okc18_1 q h), by decide +kernel⟩, List.mem_append_left _ (List.mem_of_getElem? (i := 18) rfl)⟩
theorem okc19_0 : ct19_0.all (entOK cX2_init 2) = true := by decide +kernel
theorem ok19 : mOKm mi19 := ⟨⟨fun q h => List.all_eq_true.mp okc19_0 q h, by decide +kernel⟩, List.mem_append_left _ (List.mem_of_getElem? (i := 19) rfl)⟩
theorem okc20_0 : ct20_0.all (entOK cX2_run 2) = true := by decide +kernel
theorem ok20 : mOKm mi20 := ⟨⟨fun q h => List.all_eq_true.mp okc20_0 q h, by decide +kernel⟩, List.mem_append_right _ (List.mem_append_left _ (List.mem_of_getElem? (i := 0) rfl))⟩
theorem okc21_0 : ct21_0.all (entOK cX2_couldRun 2) = true := by decide +kernel
theorem okc21_1 : ct21_1.all (entOK cX2_couldRun 2) = true := by decide +kernel
theorem ok21 : mOKm mi21 := ⟨⟨fun q h => (List.mem_append.mp h).elim (fun h => List.all_eq_true.mp okc21_0 q h) (fun h => List.all_eq_true.mp okc21_1 q h), by decide +kernel⟩, List.mem_append_right _ (List.mem_append_left _ (List.mem_of_getElem? (i := 1) rfl))⟩
theorem okc22_0 : ct22_0.all (entOK cX2_sumOf 2) = true := by decide +kernel
theorem ok22 : mOKm mi22 := ⟨⟨fun q h => List.all_eq_true.mp okc22_0 q h, by decide +kernel⟩, List.mem_append_right _ (List.mem_append_left _ (List.mem_of_getElem? (i := 2) rfl))⟩
theorem okc23_0 : ct23_0.all (entOK cX2_setWords 2) = true := by decide +kernel
theorem okc23_1 : ct23_1.all (entOK cX2_setWords 2) = true := by decide +kernel
theorem ok23 : mOKm mi23 := ⟨⟨fun q h => (List.mem_append.mp h).elim (fun h => List.all_eq_true.mp okc23_0 q h) (fun h => List.all_eq_true.mp okc23_1 q h), by decide +kernel⟩, List.mem_append_right _ (List.mem_append_left _ (List.mem_of_getElem? (i := 3) rfl))⟩
theorem okc24_0 : ct24_0.all (entOK cX3_init 3) = true := by decide +kernel
theorem ok24 : mOKm mi24 := ⟨⟨fun q h => List.all_eq_true.mp okc24_0 q h, by decide +kernel⟩, List.mem_append_right _ (List.mem_append_left _ (List.mem_of_getElem? (i := 4) rfl))⟩
theorem okc25_0 : ct25_0.all (entOK cX3_countGivings 3) = true := by decide +kernel
theorem ok25 : mOKm mi25 := ⟨⟨fun q h => List.all_eq_true.mp okc25_0 q h, by decide +kernel⟩, List.mem_append_right _ (List.mem_append_left _ (List.mem_of_getElem? (i := 5) rfl))⟩
theorem okc26_0 : ct26_0.all (entOK cX3_markGiven 3) = true := by decide +kernel
theorem okc26_1 : ct26_1.all (entOK cX3_markGiven 3) = true := by decide +kernel
theorem ok26 : mOKm mi26 := ⟨⟨fun q h => (List.mem_append.mp h).elim (fun h => List.all_eq_true.mp okc26_0 q h) (fun h => List.all_eq_true.mp okc26_1 q h), by decide +kernel⟩, List.mem_append_right _ (List.mem_append_left _ (List.mem_of_getElem? (i := 6) rfl))⟩
theorem okc27_0 : ct27_0.all (entOK cX3_heapOf 3) = true := by decide +kernel
theorem ok27 : mOKm mi27 := ⟨⟨fun q h => List.all_eq_true.mp okc27_0 q h, by decide +kernel⟩, List.mem_append_right _ (List.mem_append_left _ (List.mem_of_getElem? (i := 7) rfl))⟩
theorem okc28_0 : ct28_0.all (entOK cX3_chanceOf 3) = true := by decide +kernel
theorem okc28_1 : ct28_1.all (entOK cX3_chanceOf 3) = true := by decide +kernel
theorem ok28 : mOKm mi28 := ⟨⟨fun q h => (List.mem_append.mp h).elim (fun h => List.all_eq_true.mp okc28_0 q h) (fun h => List.all_eq_true.mp okc28_1 q h), by decide +kernel⟩, List.mem_append_right _ (List.mem_append_left _ (List.mem_of_getElem? (i := 8) rfl))⟩
theorem okc29_0 : ct29_0.all (entOK cX3_chanceOfSet 3) = true := by decide +kernel
theorem ok29 : mOKm mi29 := ⟨⟨fun q h => List.all_eq_true.mp okc29_0 q h, by decide +kernel⟩, List.mem_append_right _ (List.mem_append_left _ (List.mem_of_getElem? (i := 9) rfl))⟩
theorem okc30_0 : ct30_0.all (entOK cX3_drawYears 3) = true := by decide +kernel
theorem okc30_1 : ct30_1.all (entOK cX3_drawYears 3) = true := by decide +kernel
theorem ok30 : mOKm mi30 := ⟨⟨fun q h => (List.mem_append.mp h).elim (fun h => List.all_eq_true.mp okc30_0 q h) (fun h => List.all_eq_true.mp okc30_1 q h), by decide +kernel⟩, List.mem_append_right _ (List.mem_append_left _ (List.mem_of_getElem? (i := 10) rfl))⟩
theorem okc31_0 : ct31_0.all (entOK cX3_markDrawn 3) = true := by decide +kernel
theorem ok31 : mOKm mi31 := ⟨⟨fun q h => List.all_eq_true.mp okc31_0 q h, by decide +kernel⟩, List.mem_append_right _ (List.mem_append_left _ (List.mem_of_getElem? (i := 11) rfl))⟩
theorem okc32_0 : ct32_0.all (entOK cX3_draw 3) = true := by decide +kernel
theorem ok32 : mOKm mi32 := ⟨⟨fun q h => List.all_eq_true.mp okc32_0 q h, by decide +kernel⟩, List.mem_append_right _ (List.mem_append_left _ (List.mem_of_getElem? (i := 12) rfl))⟩
theorem okc33_0 : ct33_0.all (entOK cX3_talkOnPaper 3) = true := by decide +kernel
theorem ok33 : mOKm mi33 := ⟨⟨fun q h => List.all_eq_true.mp okc33_0 q h, by decide +kernel⟩, List.mem_append_right _ (List.mem_append_left _ (List.mem_of_getElem? (i := 13) rfl))⟩
theorem okc34_0 : ct34_0.all (entOK cX4_init 4) = true := by decide +kernel
theorem ok34 : mOKm mi34 := ⟨⟨fun q h => List.all_eq_true.mp okc34_0 q h, by decide +kernel⟩, List.mem_append_right _ (List.mem_append_left _ (List.mem_of_getElem? (i := 14) rfl))⟩
theorem okc35_0 : ct35_0.all (entOK cX4_open 4) = true := by decide +kernel
theorem ok35 : mOKm mi35 := ⟨⟨fun q h => List.all_eq_true.mp okc35_0 q h, by decide +kernel⟩, List.mem_append_right _ (List.mem_append_left _ (List.mem_of_getElem? (i := 15) rfl))⟩
theorem okc36_0 : ct36_0.all (entOK cX4_rowAfter 4) = true := by decide +kernel
theorem okc36_1 : ct36_1.all (entOK cX4_rowAfter 4) = true := by decide +kernel
theorem ok36 : mOKm mi36 := ⟨⟨fun q h => (List.mem_append.mp h).elim (fun h => List.all_eq_true.mp okc36_0 q h) (fun h => List.all_eq_true.mp okc36_1 q h), by decide +kernel⟩, List.mem_append_right _ (List.mem_append_left _ (List.mem_of_getElem? (i := 16) rfl))⟩
