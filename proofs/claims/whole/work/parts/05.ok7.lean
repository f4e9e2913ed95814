theorem okc999_0 : ct999_0.all (entOK code 19) = true := by decide +kernel
theorem okc999_1 : ct999_1.all (entOK code 19) = true := by decide +kernel
theorem okc999_2 : ct999_2.all (entOK code 19) = true := by decide +kernel
theorem okc999_3 : ct999_3.all (entOK code 19) = true := by decide +kernel
theorem okc999_4 : ct999_4.all (entOK code 19) = true := by decide +kernel
theorem okc999_5 : ct999_5.all (entOK code 19) = true := by decide +kernel
theorem okc999_6 : ct999_6.all (entOK code 19) = true := by decide +kernel
theorem okc999_7 : ct999_7.all (entOK code 19) = true := by decide +kernel
theorem okc999_8 : ct999_8.all (entOK code 19) = true := by decide +kernel
theorem okc999_9 : ct999_9.all (entOK code 19) = true := by decide +kernel
theorem okc999_10 : ct999_10.all (entOK code 19) = true := by decide +kernel
theorem okc999_11 : ct999_11.all (entOK code 19) = true := by decide +kernel
theorem okc999_12 : ct999_12.all (entOK code 19) = true := by decide +kernel
theorem okc999_13 : ct999_13.all (entOK code 19) = true := by decide +kernel
theorem ok999 : mOK mi999 := ⟨fun q h => (List.mem_append.mp h).elim (fun h => (List.mem_append.mp h).elim (fun h => (List.mem_append.mp h).elim (fun h => (List.mem_append.mp h).elim (fun h => (List.mem_append.mp h).elim (fun h => (List.mem_append.mp h).elim (fun h => (List.mem_append.mp h).elim (fun h => (List.mem_append.mp h).elim (fun h => (List.mem_append.mp h).elim (fun h => (List.mem_append.mp h).elim (fun h => (List.mem_append.mp h).elim (fun h => (List.mem_append.mp h).elim (fun h => (List.mem_append.mp h).elim (fun h => List.all_eq_true.mp okc999_0 q h) (fun h => List.all_eq_true.mp okc999_1 q h)) (fun h => List.all_eq_true.mp okc999_2 q h)) (fun h => List.all_eq_true.mp okc999_3 q h)) (fun h => List.all_eq_true.mp okc999_4 q h)) (fun h => List.all_eq_true.mp okc999_5 q h)) (fun h => List.all_eq_true.mp okc999_6 q h)) (fun h => List.all_eq_true.mp okc999_7 q h)) (fun h => List.all_eq_true.mp okc999_8 q h)) (fun h => List.all_eq_true.mp okc999_9 q h)) (fun h => List.all_eq_true.mp okc999_10 q h)) (fun h => List.all_eq_true.mp okc999_11 q h)) (fun h => List.all_eq_true.mp okc999_12 q h)) (fun h => List.all_eq_true.mp okc999_13 q h), by decide +kernel⟩
