theorem okc76_0 : ct76_0.all (entOK cX8_init 8) = true := by decide +kernel
theorem ok76 : mOKm mi76 := ⟨⟨fun q h => List.all_eq_true.mp okc76_0 q h, by decide +kernel⟩, List.mem_append_right _ (List.mem_append_right _ (List.mem_append_right _ (List.mem_append_left _ (List.mem_of_getElem? (i := 16) rfl))))⟩
theorem okc77_0 : ct77_0.all (entOK cX8_value 8) = true := by decide +kernel
theorem okc77_1 : ct77_1.all (entOK cX8_value 8) = true := by decide +kernel
theorem okc77_2 : ct77_2.all (entOK cX8_value 8) = true := by decide +kernel
theorem ok77 : mOKm mi77 := ⟨⟨fun q h => (List.mem_append.mp h).elim (fun h => (List.mem_append.mp h).elim (fun h => List.all_eq_true.mp okc77_0 q h) (fun h => List.all_eq_true.mp okc77_1 q h)) (fun h => List.all_eq_true.mp okc77_2 q h), by decide +kernel⟩, List.mem_append_right _ (List.mem_append_right _ (List.mem_append_right _ (List.mem_append_left _ (List.mem_of_getElem? (i := 17) rfl))))⟩
theorem okc78_0 : ct78_0.all (entOK cX8_joined 8) = true := by decide +kernel
theorem okc78_1 : ct78_1.all (entOK cX8_joined 8) = true := by decide +kernel
theorem ok78 : mOKm mi78 := ⟨⟨fun q h => (List.mem_append.mp h).elim (fun h => List.all_eq_true.mp okc78_0 q h) (fun h => List.all_eq_true.mp okc78_1 q h), by decide +kernel⟩, List.mem_append_right _ (List.mem_append_right _ (List.mem_append_right _ (List.mem_append_left _ (List.mem_of_getElem? (i := 18) rfl))))⟩
theorem okc79_0 : ct79_0.all (entOK cX8_isSo 8) = true := by decide +kernel
theorem ok79 : mOKm mi79 := ⟨⟨fun q h => List.all_eq_true.mp okc79_0 q h, by decide +kernel⟩, List.mem_append_right _ (List.mem_append_right _ (List.mem_append_right _ (List.mem_append_left _ (List.mem_of_getElem? (i := 19) rfl))))⟩
theorem okc80_0 : ct80_0.all (entOK cX9_init 9) = true := by decide +kernel
theorem ok80 : mOKm mi80 := ⟨⟨fun q h => List.all_eq_true.mp okc80_0 q h, by decide +kernel⟩, List.mem_append_right _ (List.mem_append_right _ (List.mem_append_right _ (List.mem_append_right _ (List.mem_append_left _ (List.mem_of_getElem? (i := 0) rfl)))))⟩
theorem okc81_0 : ct81_0.all (entOK cX9_copy 9) = true := by decide +kernel
theorem ok81 : mOKm mi81 := ⟨⟨fun q h => List.all_eq_true.mp okc81_0 q h, by decide +kernel⟩, List.mem_append_right _ (List.mem_append_right _ (List.mem_append_right _ (List.mem_append_right _ (List.mem_append_left _ (List.mem_of_getElem? (i := 1) rfl)))))⟩
theorem okc82_0 : ct82_0.all (entOK cX9_clear 9) = true := by decide +kernel
theorem ok82 : mOKm mi82 := ⟨⟨fun q h => List.all_eq_true.mp okc82_0 q h, by decide +kernel⟩, List.mem_append_right _ (List.mem_append_right _ (List.mem_append_right _ (List.mem_append_right _ (List.mem_append_left _ (List.mem_of_getElem? (i := 2) rfl)))))⟩
theorem okc83_0 : ct83_0.all (entOK cX9_addClause 9) = true := by decide +kernel
theorem ok83 : mOKm mi83 := ⟨⟨fun q h => List.all_eq_true.mp okc83_0 q h, by decide +kernel⟩, List.mem_append_right _ (List.mem_append_right _ (List.mem_append_right _ (List.mem_append_right _ (List.mem_append_left _ (List.mem_of_getElem? (i := 3) rfl)))))⟩
theorem okc84_0 : ct84_0.all (entOK cX9_head 9) = true := by decide +kernel
theorem ok84 : mOKm mi84 := ⟨⟨fun q h => List.all_eq_true.mp okc84_0 q h, by decide +kernel⟩, List.mem_append_right _ (List.mem_append_right _ (List.mem_append_right _ (List.mem_append_right _ (List.mem_append_left _ (List.mem_of_getElem? (i := 4) rfl)))))⟩
theorem okc85_0 : ct85_0.all (entOK cX9_setLatestHead 9) = true := by decide +kernel
theorem ok85 : mOKm mi85 := ⟨⟨fun q h => List.all_eq_true.mp okc85_0 q h, by decide +kernel⟩, List.mem_append_right _ (List.mem_append_right _ (List.mem_append_right _ (List.mem_append_right _ (List.mem_append_left _ (List.mem_of_getElem? (i := 5) rfl)))))⟩
theorem okc86_0 : ct86_0.all (entOK cX9_put 9) = true := by decide +kernel
theorem ok86 : mOKm mi86 := ⟨⟨fun q h => List.all_eq_true.mp okc86_0 q h, by decide +kernel⟩, List.mem_append_right _ (List.mem_append_right _ (List.mem_append_right _ (List.mem_append_right _ (List.mem_append_left _ (List.mem_of_getElem? (i := 6) rfl)))))⟩
theorem okc87_0 : ct87_0.all (entOK cX9_land 9) = true := by decide +kernel
theorem ok87 : mOKm mi87 := ⟨⟨fun q h => List.all_eq_true.mp okc87_0 q h, by decide +kernel⟩, List.mem_append_right _ (List.mem_append_right _ (List.mem_append_right _ (List.mem_append_right _ (List.mem_append_left _ (List.mem_of_getElem? (i := 7) rfl)))))⟩
theorem okc88_0 : ct88_0.all (entOK cX10_init 10) = true := by decide +kernel
theorem ok88 : mOKm mi88 := ⟨⟨fun q h => List.all_eq_true.mp okc88_0 q h, by decide +kernel⟩, List.mem_append_right _ (List.mem_append_right _ (List.mem_append_right _ (List.mem_append_right _ (List.mem_append_left _ (List.mem_of_getElem? (i := 8) rfl)))))⟩
theorem okc89_0 : ct89_0.all (entOK cX10_copyFrom 10) = true := by decide +kernel
theorem okc89_1 : ct89_1.all (entOK cX10_copyFrom 10) = true := by decide +kernel
theorem ok89 : mOKm mi89 := ⟨⟨fun q h => (List.mem_append.mp h).elim (fun h => List.all_eq_true.mp okc89_0 q h) (fun h => List.all_eq_true.mp okc89_1 q h), by decide +kernel⟩, List.mem_append_right _ (List.mem_append_right _ (List.mem_append_right _ (List.mem_append_right _ (List.mem_append_left _ (List.mem_of_getElem? (i := 9) rfl)))))⟩
theorem okc90_0 : ct90_0.all (entOK cX10_canBePerson 10) = true := by decide +kernel
theorem ok90 : mOKm mi90 := ⟨⟨fun q h => List.all_eq_true.mp okc90_0 q h, by decide +kernel⟩, List.mem_append_right _ (List.mem_append_right _ (List.mem_append_right _ (List.mem_append_right _ (List.mem_append_left _ (List.mem_of_getElem? (i := 10) rfl)))))⟩
theorem okc91_0 : ct91_0.all (entOK cX10_addPerson 10) = true := by decide +kernel
theorem ok91 : mOKm mi91 := ⟨⟨fun q h => List.all_eq_true.mp okc91_0 q h, by decide +kernel⟩, List.mem_append_right _ (List.mem_append_right _ (List.mem_append_right _ (List.mem_append_right _ (List.mem_append_left _ (List.mem_of_getElem? (i := 11) rfl)))))⟩
theorem okc92_0 : ct92_0.all (entOK cX10_addRoll 10) = true := by decide +kernel
theorem ok92 : mOKm mi92 := ⟨⟨fun q h => List.all_eq_true.mp okc92_0 q h, by decide +kernel⟩, List.mem_append_right _ (List.mem_append_right _ (List.mem_append_right _ (List.mem_append_right _ (List.mem_append_left _ (List.mem_of_getElem? (i := 12) rfl)))))⟩
theorem okc93_0 : ct93_0.all (entOK cX10_addTold 10) = true := by decide +kernel
theorem ok93 : mOKm mi93 := ⟨⟨fun q h => List.all_eq_true.mp okc93_0 q h, by decide +kernel⟩, List.mem_append_right _ (List.mem_append_right _ (List.mem_append_right _ (List.mem_append_right _ (List.mem_append_left _ (List.mem_of_getElem? (i := 13) rfl)))))⟩
theorem okc94_0 : ct94_0.all (entOK cX10_addLaw 10) = true := by decide +kernel
theorem ok94 : mOKm mi94 := ⟨⟨fun q h => List.all_eq_true.mp okc94_0 q h, by decide +kernel⟩, List.mem_append_right _ (List.mem_append_right _ (List.mem_append_right _ (List.mem_append_right _ (List.mem_append_left _ (List.mem_of_getElem? (i := 14) rfl)))))⟩
theorem okc95_0 : ct95_0.all (entOK cX10_hasPerson 10) = true := by decide +kernel
theorem ok95 : mOKm mi95 := ⟨⟨fun q h => List.all_eq_true.mp okc95_0 q h, by decide +kernel⟩, List.mem_append_right _ (List.mem_append_right _ (List.mem_append_right _ (List.mem_append_right _ (List.mem_append_left _ (List.mem_of_getElem? (i := 15) rfl)))))⟩
theorem okc96_0 : ct96_0.all (entOK cX10_hasRoll 10) = true := by decide +kernel
theorem ok96 : mOKm mi96 := ⟨⟨fun q h => List.all_eq_true.mp okc96_0 q h, by decide +kernel⟩, List.mem_append_right _ (List.mem_append_right _ (List.mem_append_right _ (List.mem_append_right _ (List.mem_append_left _ (List.mem_of_getElem? (i := 16) rfl)))))⟩
theorem okc97_0 : ct97_0.all (entOK cX10_hasLaw 10) = true := by decide +kernel
theorem ok97 : mOKm mi97 := ⟨⟨fun q h => List.all_eq_true.mp okc97_0 q h, by decide +kernel⟩, List.mem_append_right _ (List.mem_append_right _ (List.mem_append_right _ (List.mem_append_right _ (List.mem_append_left _ (List.mem_of_getElem? (i := 17) rfl)))))⟩
theorem okc98_0 : ct98_0.all (entOK cX10_lives 10) = true := by decide +kernel
theorem ok98 : mOKm mi98 := ⟨⟨fun q h => List.all_eq_true.mp okc98_0 q h, by decide +kernel⟩, List.mem_append_right _ (List.mem_append_right _ (List.mem_append_right _ (List.mem_append_right _ (List.mem_append_left _ (List.mem_of_getElem? (i := 18) rfl)))))⟩
theorem okc99_0 : ct99_0.all (entOK cX10_isDone 10) = true := by decide +kernel
theorem ok99 : mOKm mi99 := ⟨⟨fun q h => List.all_eq_true.mp okc99_0 q h, by decide +kernel⟩, List.mem_append_right _ (List.mem_append_right _ (List.mem_append_right _ (List.mem_append_right _ (List.mem_append_left _ (List.mem_of_getElem? (i := 19) rfl)))))⟩
theorem okc100_0 : ct100_0.all (entOK cX10_lawInForce 10) = true := by decide +kernel
theorem ok100 : mOKm mi100 := ⟨⟨fun q h => List.all_eq_true.mp okc100_0 q h, by decide +kernel⟩, List.mem_append_right _ (List.mem_append_right _ (List.mem_append_right _ (List.mem_append_right _ (List.mem_append_right _ (List.mem_append_left _ (List.mem_of_getElem? (i := 0) rfl))))))⟩
theorem okc101_0 : ct101_0.all (entOK cX10_markOf 10) = true := by decide +kernel
theorem ok101 : mOKm mi101 := ⟨⟨fun q h => List.all_eq_true.mp okc101_0 q h, by decide +kernel⟩, List.mem_append_right _ (List.mem_append_right _ (List.mem_append_right _ (List.mem_append_right _ (List.mem_append_right _ (List.mem_append_left _ (List.mem_of_getElem? (i := 1) rfl))))))⟩
theorem okc102_0 : ct102_0.all (entOK cX10_setMark 10) = true := by decide +kernel
theorem ok102 : mOKm mi102 := ⟨⟨fun q h => List.all_eq_true.mp okc102_0 q h, by decide +kernel⟩, List.mem_append_right _ (List.mem_append_right _ (List.mem_append_right _ (List.mem_append_right _ (List.mem_append_right _ (List.mem_append_left _ (List.mem_of_getElem? (i := 2) rfl))))))⟩
theorem okc103_0 : ct103_0.all (entOK cX10_shiftOf 10) = true := by decide +kernel
theorem ok103 : mOKm mi103 := ⟨⟨fun q h => List.all_eq_true.mp okc103_0 q h, by decide +kernel⟩, List.mem_append_right _ (List.mem_append_right _ (List.mem_append_right _ (List.mem_append_right _ (List.mem_append_right _ (List.mem_append_left _ (List.mem_of_getElem? (i := 3) rfl))))))⟩
theorem okc104_0 : ct104_0.all (entOK cX10_markInRow 10) = true := by decide +kernel
theorem ok104 : mOKm mi104 := ⟨⟨fun q h => List.all_eq_true.mp okc104_0 q h, by decide +kernel⟩, List.mem_append_right _ (List.mem_append_right _ (List.mem_append_right _ (List.mem_append_right _ (List.mem_append_right _ (List.mem_append_left _ (List.mem_of_getElem? (i := 4) rfl))))))⟩
theorem okc105_0 : ct105_0.all (entOK cX10_rowOf 10) = true := by decide +kernel
theorem ok105 : mOKm mi105 := ⟨⟨fun q h => List.all_eq_true.mp okc105_0 q h, by decide +kernel⟩, List.mem_append_right _ (List.mem_append_right _ (List.mem_append_right _ (List.mem_append_right _ (List.mem_append_right _ (List.mem_append_left _ (List.mem_of_getElem? (i := 5) rfl))))))⟩
theorem okc106_0 : ct106_0.all (entOK cX10_accordInRow 10) = true := by decide +kernel
theorem ok106 : mOKm mi106 := ⟨⟨fun q h => List.all_eq_true.mp okc106_0 q h, by decide +kernel⟩, List.mem_append_right _ (List.mem_append_right _ (List.mem_append_right _ (List.mem_append_right _ (List.mem_append_right _ (List.mem_append_left _ (List.mem_of_getElem? (i := 6) rfl))))))⟩
theorem okc107_0 : ct107_0.all (entOK cX10_accord 10) = true := by decide +kernel
theorem ok107 : mOKm mi107 := ⟨⟨fun q h => List.all_eq_true.mp okc107_0 q h, by decide +kernel⟩, List.mem_append_right _ (List.mem_append_right _ (List.mem_append_right _ (List.mem_append_right _ (List.mem_append_right _ (List.mem_append_left _ (List.mem_of_getElem? (i := 7) rfl))))))⟩
theorem okc108_0 : ct108_0.all (entOK cX11_init 11) = true := by decide +kernel
theorem okc108_1 : ct108_1.all (entOK cX11_init 11) = true := by decide +kernel
theorem ok108 : mOKm mi108 := ⟨⟨fun q h => (List.mem_append.mp h).elim (fun h => List.all_eq_true.mp okc108_0 q h) (fun h => List.all_eq_true.mp okc108_1 q h), by decide +kernel⟩, List.mem_append_right _ (List.mem_append_right _ (List.mem_append_right _ (List.mem_append_right _ (List.mem_append_right _ (List.mem_append_left _ (List.mem_of_getElem? (i := 8) rfl))))))⟩
theorem okc109_0 : ct109_0.all (entOK cX11_person 11) = true := by decide +kernel
theorem ok109 : mOKm mi109 := ⟨⟨fun q h => List.all_eq_true.mp okc109_0 q h, by decide +kernel⟩, List.mem_append_right _ (List.mem_append_right _ (List.mem_append_right _ (List.mem_append_right _ (List.mem_append_right _ (List.mem_append_left _ (List.mem_of_getElem? (i := 9) rfl))))))⟩
theorem okc110_0 : ct110_0.all (entOK cX11_of 11) = true := by decide +kernel
theorem ok110 : mOKm mi110 := ⟨⟨fun q h => List.all_eq_true.mp okc110_0 q h, by decide +kernel⟩, List.mem_append_right _ (List.mem_append_right _ (List.mem_append_right _ (List.mem_append_right _ (List.mem_append_right _ (List.mem_append_left _ (List.mem_of_getElem? (i := 10) rfl))))))⟩
theorem okc111_0 : ct111_0.all (entOK cX11_roll 11) = true := by decide +kernel
theorem ok111 : mOKm mi111 := ⟨⟨fun q h => List.all_eq_true.mp okc111_0 q h, by decide +kernel⟩, List.mem_append_right _ (List.mem_append_right _ (List.mem_append_right _ (List.mem_append_right _ (List.mem_append_right _ (List.mem_append_left _ (List.mem_of_getElem? (i := 11) rfl))))))⟩
theorem okc112_0 : ct112_0.all (entOK cX11_at 11) = true := by decide +kernel
theorem ok112 : mOKm mi112 := ⟨⟨fun q h => List.all_eq_true.mp okc112_0 q h, by decide +kernel⟩, List.mem_append_right _ (List.mem_append_right _ (List.mem_append_right _ (List.mem_append_right _ (List.mem_append_right _ (List.mem_append_left _ (List.mem_of_getElem? (i := 12) rfl))))))⟩
theorem okc113_0 : ct113_0.all (entOK cX11_terms 11) = true := by decide +kernel
theorem ok113 : mOKm mi113 := ⟨⟨fun q h => List.all_eq_true.mp okc113_0 q h, by decide +kernel⟩, List.mem_append_right _ (List.mem_append_right _ (List.mem_append_right _ (List.mem_append_right _ (List.mem_append_right _ (List.mem_append_left _ (List.mem_of_getElem? (i := 13) rfl))))))⟩
theorem okc114_0 : ct114_0.all (entOK cX11_feed 11) = true := by decide +kernel
theorem ok114 : mOKm mi114 := ⟨⟨fun q h => List.all_eq_true.mp okc114_0 q h, by decide +kernel⟩, List.mem_append_right _ (List.mem_append_right _ (List.mem_append_right _ (List.mem_append_right _ (List.mem_append_right _ (List.mem_append_left _ (List.mem_of_getElem? (i := 14) rfl))))))⟩
theorem okc115_0 : ct115_0.all (entOK cX11_end 11) = true := by decide +kernel
theorem ok115 : mOKm mi115 := ⟨⟨fun q h => List.all_eq_true.mp okc115_0 q h, by decide +kernel⟩, List.mem_append_right _ (List.mem_append_right _ (List.mem_append_right _ (List.mem_append_right _ (List.mem_append_right _ (List.mem_append_left _ (List.mem_of_getElem? (i := 15) rfl))))))⟩
theorem okc116_0 : ct116_0.all (entOK cX11_row 11) = true := by decide +kernel
theorem ok116 : mOKm mi116 := ⟨⟨fun q h => List.all_eq_true.mp okc116_0 q h, by decide +kernel⟩, List.mem_append_right _ (List.mem_append_right _ (List.mem_append_right _ (List.mem_append_right _ (List.mem_append_right _ (List.mem_append_left _ (List.mem_of_getElem? (i := 16) rfl))))))⟩
theorem okc117_0 : ct117_0.all (entOK cX11_grain 11) = true := by decide +kernel
theorem ok117 : mOKm mi117 := ⟨⟨fun q h => List.all_eq_true.mp okc117_0 q h, by decide +kernel⟩, List.mem_append_right _ (List.mem_append_right _ (List.mem_append_right _ (List.mem_append_right _ (List.mem_append_right _ (List.mem_append_left _ (List.mem_of_getElem? (i := 17) rfl))))))⟩
theorem okc118_0 : ct118_0.all (entOK cX11_law 11) = true := by decide +kernel
theorem ok118 : mOKm mi118 := ⟨⟨fun q h => List.all_eq_true.mp okc118_0 q h, by decide +kernel⟩, List.mem_append_right _ (List.mem_append_right _ (List.mem_append_right _ (List.mem_append_right _ (List.mem_append_right _ (List.mem_append_left _ (List.mem_of_getElem? (i := 18) rfl))))))⟩
theorem okc119_0 : ct119_0.all (entOK cX11_orders 11) = true := by decide +kernel
theorem ok119 : mOKm mi119 := ⟨⟨fun q h => List.all_eq_true.mp okc119_0 q h, by decide +kernel⟩, List.mem_append_right _ (List.mem_append_right _ (List.mem_append_right _ (List.mem_append_right _ (List.mem_append_right _ (List.mem_append_left _ (List.mem_of_getElem? (i := 19) rfl))))))⟩
theorem okc120_0 : ct120_0.all (entOK cX11_fault 11) = true := by decide +kernel
theorem ok120 : mOKm mi120 := ⟨⟨fun q h => List.all_eq_true.mp okc120_0 q h, by decide +kernel⟩, List.mem_append_right _ (List.mem_append_right _ (List.mem_append_right _ (List.mem_append_right _ (List.mem_append_right _ (List.mem_append_right _ (List.mem_append_left _ (List.mem_of_getElem? (i := 0) rfl)))))))⟩
theorem okc121_0 : ct121_0.all (entOK cX11_stopped 11) = true := by decide +kernel
theorem ok121 : mOKm mi121 := ⟨⟨fun q h => List.all_eq_true.mp okc121_0 q h, by decide +kernel⟩, List.mem_append_right _ (List.mem_append_right _ (List.mem_append_right _ (List.mem_append_right _ (List.mem_append_right _ (List.mem_append_right _ (List.mem_append_left _ (List.mem_of_getElem? (i := 1) rfl)))))))⟩
theorem okc122_0 : ct122_0.all (entOK cX11_force 11) = true := by decide +kernel
theorem ok122 : mOKm mi122 := ⟨⟨fun q h => List.all_eq_true.mp okc122_0 q h, by decide +kernel⟩, List.mem_append_right _ (List.mem_append_right _ (List.mem_append_right _ (List.mem_append_right _ (List.mem_append_right _ (List.mem_append_right _ (List.mem_append_left _ (List.mem_of_getElem? (i := 2) rfl)))))))⟩
theorem okc123_0 : ct123_0.all (entOK cX11_asks 11) = true := by decide +kernel
theorem ok123 : mOKm mi123 := ⟨⟨fun q h => List.all_eq_true.mp okc123_0 q h, by decide +kernel⟩, List.mem_append_right _ (List.mem_append_right _ (List.mem_append_right _ (List.mem_append_right _ (List.mem_append_right _ (List.mem_append_right _ (List.mem_append_left _ (List.mem_of_getElem? (i := 3) rfl)))))))⟩
theorem okc124_0 : ct124_0.all (entOK cX11_talk 11) = true := by decide +kernel
theorem ok124 : mOKm mi124 := ⟨⟨fun q h => List.all_eq_true.mp okc124_0 q h, by decide +kernel⟩, List.mem_append_right _ (List.mem_append_right _ (List.mem_append_right _ (List.mem_append_right _ (List.mem_append_right _ (List.mem_append_right _ (List.mem_append_left _ (List.mem_of_getElem? (i := 4) rfl)))))))⟩
theorem okc125_0 : ct125_0.all (entOK cX11_develop 11) = true := by decide +kernel
theorem ok125 : mOKm mi125 := ⟨⟨fun q h => List.all_eq_true.mp okc125_0 q h, by decide +kernel⟩, List.mem_append_right _ (List.mem_append_right _ (List.mem_append_right _ (List.mem_append_right _ (List.mem_append_right _ (List.mem_append_right _ (List.mem_append_left _ (List.mem_of_getElem? (i := 5) rfl)))))))⟩
theorem okc126_0 : ct126_0.all (entOK cX11_bury 11) = true := by decide +kernel
theorem ok126 : mOKm mi126 := ⟨⟨fun q h => List.all_eq_true.mp okc126_0 q h, by decide +kernel⟩, List.mem_append_right _ (List.mem_append_right _ (List.mem_append_right _ (List.mem_append_right _ (List.mem_append_right _ (List.mem_append_right _ (List.mem_append_left _ (List.mem_of_getElem? (i := 6) rfl)))))))⟩
theorem okc127_0 : ct127_0.all (entOK cX11_pass 11) = true := by decide +kernel
theorem ok127 : mOKm mi127 := ⟨⟨fun q h => List.all_eq_true.mp okc127_0 q h, by decide +kernel⟩, List.mem_append_right _ (List.mem_append_right _ (List.mem_append_right _ (List.mem_append_right _ (List.mem_append_right _ (List.mem_append_right _ (List.mem_append_left _ (List.mem_of_getElem? (i := 7) rfl)))))))⟩
theorem okc128_0 : ct128_0.all (entOK cX11_undo 11) = true := by decide +kernel
theorem ok128 : mOKm mi128 := ⟨⟨fun q h => List.all_eq_true.mp okc128_0 q h, by decide +kernel⟩, List.mem_append_right _ (List.mem_append_right _ (List.mem_append_right _ (List.mem_append_right _ (List.mem_append_right _ (List.mem_append_right _ (List.mem_append_left _ (List.mem_of_getElem? (i := 8) rfl)))))))⟩
theorem okc129_0 : ct129_0.all (entOK cX11_soonest 11) = true := by decide +kernel
theorem ok129 : mOKm mi129 := ⟨⟨fun q h => List.all_eq_true.mp okc129_0 q h, by decide +kernel⟩, List.mem_append_right _ (List.mem_append_right _ (List.mem_append_right _ (List.mem_append_right _ (List.mem_append_right _ (List.mem_append_right _ (List.mem_append_left _ (List.mem_of_getElem? (i := 9) rfl)))))))⟩
theorem okc130_0 : ct130_0.all (entOK cX11_ends 11) = true := by decide +kernel
theorem ok130 : mOKm mi130 := ⟨⟨fun q h => List.all_eq_true.mp okc130_0 q h, by decide +kernel⟩, List.mem_append_right _ (List.mem_append_right _ (List.mem_append_right _ (List.mem_append_right _ (List.mem_append_right _ (List.mem_append_right _ (List.mem_append_left _ (List.mem_of_getElem? (i := 10) rfl)))))))⟩
