/-! ===== the text of the words (mark 1), its bytes (mark 2), the script (mark 0) ===== -/
section XSt
variable {S : SPr} {d : Nat} {M M' : MI} {pc nx x y i : Nat} {v : Int32} {w : Int64} {ls ls' st st0 As : List Value} {lay : HL} {VI : VIT} {VL : VLT} {VR : VRT} {bc bs bc1 bs1 bc2 bs2 : Nat} {P : Post}
theorem x_aload_nF0 {j : Fin 4} (hc : lkp (mC M) pc = some (.aload_n j, 1, nx, x, y, v, w)) (hl0 : ls[x]? = some (.float 0)) (k : ExS S d M nx ls (.float 0 :: st) lay VI VL VR bc bs P) : ExS S d M pc ls st lay VI VL VR bc bs P := by
  intro p l e R s m args below meth c H locs cells slots base sa sv D dA lsC C hH hS hl h1 h2
  obtain ⟨g1, g2, g3⟩ := dec' C.2.2.2.2.2.2.2.2.2.2.2.1 hc
  subst g2
  simp only [insOK, beq_iff_eq] at g3
  exact lv_aload_n C.1 C.2.1 g1 g3 (hl.2.2 _ _ hl0 rfl) (k p l e R s m args below meth c H locs cells slots base sa sv D dA lsC C hH hS hl h1 h2)
theorem x_aloadF0 {j : Nat} (hc : lkp (mC M) pc = some (.aload j, 2, nx, x, y, v, w)) (hl0 : ls[x]? = some (.float 0)) (k : ExS S d M nx ls (.float 0 :: st) lay VI VL VR bc bs P) : ExS S d M pc ls st lay VI VL VR bc bs P := by
  intro p l e R s m args below meth c H locs cells slots base sa sv D dA lsC C hH hS hl h1 h2
  obtain ⟨g1, g2, g3⟩ := dec' C.2.2.2.2.2.2.2.2.2.2.2.1 hc
  subst g2
  simp only [insOK, beq_iff_eq] at g3
  exact lv_aload C.1 C.2.1 (g3 ▸ g1) (hl.2.2 _ _ hl0 rfl) (k p l e R s m args below meth c H locs cells slots base sa sv D dA lsC C hH hS hl h1 h2)
theorem x_aload_nF1 {j : Fin 4} (hc : lkp (mC M) pc = some (.aload_n j, 1, nx, x, y, v, w)) (hl0 : ls[x]? = some (.float 1)) (k : ExS S d M nx ls (.float 1 :: st) lay VI VL VR bc bs P) : ExS S d M pc ls st lay VI VL VR bc bs P := by
  intro p l e R s m args below meth c H locs cells slots base sa sv D dA lsC C hH hS hl h1 h2
  obtain ⟨g1, g2, g3⟩ := dec' C.2.2.2.2.2.2.2.2.2.2.2.1 hc
  subst g2
  simp only [insOK, beq_iff_eq] at g3
  exact lv_aload_n C.1 C.2.1 g1 g3 (hl.2.2 _ _ hl0 rfl) (k p l e R s m args below meth c H locs cells slots base sa sv D dA lsC C hH hS hl h1 h2)
theorem x_aloadF1 {j : Nat} (hc : lkp (mC M) pc = some (.aload j, 2, nx, x, y, v, w)) (hl0 : ls[x]? = some (.float 1)) (k : ExS S d M nx ls (.float 1 :: st) lay VI VL VR bc bs P) : ExS S d M pc ls st lay VI VL VR bc bs P := by
  intro p l e R s m args below meth c H locs cells slots base sa sv D dA lsC C hH hS hl h1 h2
  obtain ⟨g1, g2, g3⟩ := dec' C.2.2.2.2.2.2.2.2.2.2.2.1 hc
  subst g2
  simp only [insOK, beq_iff_eq] at g3
  exact lv_aload C.1 C.2.1 (g3 ▸ g1) (hl.2.2 _ _ hl0 rfl) (k p l e R s m args below meth c H locs cells slots base sa sv D dA lsC C hH hS hl h1 h2)
theorem x_aload_nF2 {j : Fin 4} (hc : lkp (mC M) pc = some (.aload_n j, 1, nx, x, y, v, w)) (hl0 : ls[x]? = some (.float 2)) (k : ExS S d M nx ls (.float 2 :: st) lay VI VL VR bc bs P) : ExS S d M pc ls st lay VI VL VR bc bs P := by
  intro p l e R s m args below meth c H locs cells slots base sa sv D dA lsC C hH hS hl h1 h2
  obtain ⟨g1, g2, g3⟩ := dec' C.2.2.2.2.2.2.2.2.2.2.2.1 hc
  subst g2
  simp only [insOK, beq_iff_eq] at g3
  exact lv_aload_n C.1 C.2.1 g1 g3 (hl.2.2 _ _ hl0 rfl) (k p l e R s m args below meth c H locs cells slots base sa sv D dA lsC C hH hS hl h1 h2)
theorem x_aloadF2 {j : Nat} (hc : lkp (mC M) pc = some (.aload j, 2, nx, x, y, v, w)) (hl0 : ls[x]? = some (.float 2)) (k : ExS S d M nx ls (.float 2 :: st) lay VI VL VR bc bs P) : ExS S d M pc ls st lay VI VL VR bc bs P := by
  intro p l e R s m args below meth c H locs cells slots base sa sv D dA lsC C hH hS hl h1 h2
  obtain ⟨g1, g2, g3⟩ := dec' C.2.2.2.2.2.2.2.2.2.2.2.1 hc
  subst g2
  simp only [insOK, beq_iff_eq] at g3
  exact lv_aload C.1 C.2.1 (g3 ▸ g1) (hl.2.2 _ _ hl0 rfl) (k p l e R s m args below meth c H locs cells slots base sa sv D dA lsC C hH hS hl h1 h2)
theorem x_ldcS (hc : lkp (mC M) pc = some (.ldc i, 2, nx, 1, y, v, w)) (hO : mO M = 5) (k : ExS S d M nx ls (.float 1 :: st) lay VI VL VR bc bs P) : ExS S d M pc ls st lay VI VL VR bc bs P := by
  intro p l e R s m args below meth c H locs cells slots base sa sv D dA lsC C hH hS hl h1 h2
  obtain ⟨g1, g2, g3⟩ := dec' C.2.2.2.2.2.2.2.2.2.2.2.1 hc
  subst g2
  have g4 : i = 93 := by
    have g5 := g3
    simp [insOK] at g5
    exact g5.2
  subst g4
  have hown : s.vm.findClass RX5 = some m.cls := by have := C.2.2.2.2.1; rw [hO] at this; exact this
  exact va_ldcS C.1 C.2.1 hown C.2.2.2.2.2.2.1.2.1.1 g1 (k p l e R s m args below meth c H locs cells slots base sa sv D dA lsC C hH hS hl h1 h2)
theorem x_getSV (hc : lkp (mC M) pc = some (.getfield i, 3, nx, 50, y, v, w)) (hO : mO M = 16) (k : ExS S d M nx ls (.float 2 :: st) lay VI VL VR bc bs P) : ExS S d M pc ls (.float 1 :: st) lay VI VL VR bc bs P := by
  intro p l e R s m args below meth c H locs cells slots base sa sv D dA lsC C hH hS hl h1 h2
  obtain ⟨g1, g2, g3⟩ := dec' C.2.2.2.2.2.2.2.2.2.2.2.1 hc
  subst g2
  have g4 : i = 9 := by
    have g5 := g3
    simp only [insOK, Bool.or_eq_true, Bool.and_eq_true, beq_iff_eq] at g5
    rcases g5 with (h0 | ⟨⟨h0, -⟩, h5⟩) | ⟨⟨h0, -⟩, h5⟩
    · have h9 := (fls_ok _ (in_fls h0)).1; simp at h9
    · exact h5
    · exact absurd h0 (by decide)
  subst g4
  have hown : s.vm.findClass "java/lang/String" = some m.cls := by have := C.2.2.2.2.1; rw [hO] at this; exact this
  have hts := C.2.2.2.2.2.1
  have hO4 := C.2.2.2.2.2.2.1.2.1
  exact vk_getf C.1 C.2.1 (hO4.2.1.1 0 (by decide)).2.2.1 hS hown (hts _ fl_sv) (fun _ h => h) g1 (k p l e R s m args below meth c H locs cells slots base sa sv D dA lsC C hH hS hl h1 h2)
theorem x_getSC (hc : lkp (mC M) pc = some (.getfield i, 3, nx, 51, y, v, w)) (hO : mO M = 16) (k : ExS S d M nx ls (.int 0 :: st) lay VI VL VR bc bs P) : ExS S d M pc ls (.float 1 :: st) lay VI VL VR bc bs P := by
  intro p l e R s m args below meth c H locs cells slots base sa sv D dA lsC C hH hS hl h1 h2
  obtain ⟨g1, g2, g3⟩ := dec' C.2.2.2.2.2.2.2.2.2.2.2.1 hc
  subst g2
  have g4 : i = 15 := by
    have g5 := g3
    simp only [insOK, Bool.or_eq_true, Bool.and_eq_true, beq_iff_eq] at g5
    rcases g5 with (h0 | ⟨⟨h0, -⟩, h5⟩) | ⟨⟨h0, -⟩, h5⟩
    · have h9 := (fls_ok _ (in_fls h0)).1; simp at h9
    · exact absurd h0 (by decide)
    · exact h5
  subst g4
  have hown : s.vm.findClass "java/lang/String" = some m.cls := by have := C.2.2.2.2.1; rw [hO] at this; exact this
  have hts := C.2.2.2.2.2.1
  have hO4 := C.2.2.2.2.2.2.1.2.1
  exact vk_getf C.1 C.2.1 (hO4.2.1.1 0 (by decide)).2.1 hS hown (hts _ fl_sc) (fun _ h => h) g1 (k p l e R s m args below meth c H locs cells slots base sa sv D dA lsC C hH hS hl h1 h2)
theorem x_gstC (hc : lkp (mC M) pc = some (.getstatic i, 3, nx, 0, y, v, w)) (hO : mO M = 16) (k : ExS S d M nx ls (.int 1 :: st) lay VI VL VR bc bs P) : ExS S d M pc ls st lay VI VL VR bc bs P := by
  intro p l e R s m args below meth c H locs cells slots base sa sv D dA lsC C hH hS hl h1 h2
  obtain ⟨g1, g2, g3⟩ := dec' C.2.2.2.2.2.2.2.2.2.2.2.1 hc
  subst g2
  have g4 : i = 38 := by
    have g5 := g3
    simp [insOK] at g5
    exact g5.2
  subst g4
  have hown : s.vm.findClass "java/lang/String" = some m.cls := by have := C.2.2.2.2.1; rw [hO] at this; exact this
  have hts := C.2.2.2.2.2.1
  have hO4 := C.2.2.2.2.2.2.1.2.1
  exact va_gets C.1 C.2.1 hO4.2.2.1 hS hown (hts _ fl_cs) (fun _ h => h) g1 (k p l e R s m args below meth c H locs cells slots base sa sv D dA lsC C hH hS hl h1 h2)
theorem x_gstF (hc : lkp (mC M) pc = some (.getstatic i, 3, nx, 1, y, v, w)) (hO : mO M = 16) (k : ExS S d M nx ls (.float 3 :: st) lay VI VL VR bc bs P) : ExS S d M pc ls st lay VI VL VR bc bs P := by
  intro p l e R s m args below meth c H locs cells slots base sa sv D dA lsC C hH hS hl h1 h2
  obtain ⟨g1, g2, g3⟩ := dec' C.2.2.2.2.2.2.2.2.2.2.2.1 hc
  subst g2
  have g4 : i = 1053 := by
    have g5 := g3
    simp [insOK] at g5
    exact g5.2
  subst g4
  have hown : s.vm.findClass "java/lang/String" = some m.cls := by have := C.2.2.2.2.1; rw [hO] at this; exact this
  have hts := C.2.2.2.2.2.1
  have hO4 := C.2.2.2.2.2.2.1.2.1
  exact va_gets C.1 C.2.1 hO4.2.2.2.2.2.2 hS hown (hts _ fl_sf) (fun _ h => h) g1 (k p l e R s m args below meth c H locs cells slots base sa sv D dA lsC C hH hS hl h1 h2)
theorem x_alenS (hc : lkp (mC M) pc = some (.arraylength, 1, nx, x, y, v, w)) (k : ExS S d M nx ls (.int (nI wordsLn) :: st) lay VI VL VR bc bs P) : ExS S d M pc ls (.float 2 :: st) lay VI VL VR bc bs P := by
  intro p l e R s m args below meth c H locs cells slots base sa sv D dA lsC C hH hS hl h1 h2
  obtain ⟨g1, g2, g3⟩ := dec' C.2.2.2.2.2.2.2.2.2.2.2.1 hc
  subst g2
  exact va_tlen C.1 C.2.1 (C.2.2.2.2.2.2.1.2.1.2.1.1 0 (by decide)).2.2.2 hS rfl g1 (k p l e R s m args below meth c H locs cells slots base sa sv D dA lsC C hH hS hl h1 h2)
theorem x_balS (hc : lkp (mC M) pc = some (.baload, 1, nx, x, y, v, w)) {j : Nat} {a : Int32} (ea : a = nI j) (hj : j < wordsLn) (k : ExS S d M nx ls (.int (wordsBy.getD j 0) :: st) lay VI VL VR bc bs P) : ExS S d M pc ls (.int a :: .float 2 :: st) lay VI VL VR bc bs P := by
  intro p l e R s m args below meth c H locs cells slots base sa sv D dA lsC C hH hS hl h1 h2
  obtain ⟨g1, g2, g3⟩ := dec' C.2.2.2.2.2.2.2.2.2.2.2.1 hc
  subst g2
  subst ea
  refine va_tb (v := .int (wordsBy.getD j 0)) C.1 C.2.1 (C.2.2.2.2.2.2.1.2.1.2.1.1 0 (by decide)).2.2.2 hS (vp_in_nI hj (by decide)) (by rw [nI_clamp (Nat.lt_trans hj (by decide))]; rfl) g1 (k p l e R s m args below meth c H locs cells slots base sa sv D dA lsC C hH hS hl h1 h2)
theorem x_i2c (hc : lkp (mC M) pc = some (.i2c, 1, nx, x, y, v, w)) {a : Int32} (k : ExS S d M nx ls (.int ((a.toUInt32 % 65536).toInt32) :: st) lay VI VL VR bc bs P) : ExS S d M pc ls (.int a :: st) lay VI VL VR bc bs P := by
  intro p l e R s m args below meth c H locs cells slots base sa sv D dA lsC C hH hS hl h1 h2
  obtain ⟨g1, g2, g3⟩ := dec' C.2.2.2.2.2.2.2.2.2.2.2.1 hc
  subst g2
  exact lv_i2c C.1 C.2.1 g1 rfl (k p l e R s m args below meth c H locs cells slots base sa sv D dA lsC C hH hS hl h1 h2)
theorem x_cret (hc : lkp (mC M) pc = some (.ireturn, 1, nx, x, y, v, w)) (hr : mR M = some .char) {a : Int32} (ha : narrow .char (.int a) = .int a) (hP : P (some (.int a)) lay VI VL VR) : ExS S d M pc ls [.int a] lay VI VL VR bc bs P := by
  intro p l e R s m args below meth c H locs cells slots base sa sv D dA lsC C hH hS hl h1 h2
  obtain ⟨g1, g2, g3⟩ := dec' C.2.2.2.2.2.2.2.2.2.2.2.1 hc
  subst g2
  exact W.widen (by omega) (by omega) (W.zret C.1 C.2.1 (C.2.2.1.trans hr) ha (fun t ht hW => ⟨⟨some (.int a), lay, VI, VL, VR, rfl, hP, by rw [ht]; exact hH⟩, hS.F ht⟩) (S_free hS) g1 C.2.2.2.2.2.2.2.1)
theorem x_bret (hc : lkp (mC M) pc = some (.ireturn, 1, nx, x, y, v, w)) (hr : mR M = some .byte) {a : Int32} (ha : narrow .byte (.int a) = .int a) (hP : P (some (.int a)) lay VI VL VR) : ExS S d M pc ls [.int a] lay VI VL VR bc bs P := by
  intro p l e R s m args below meth c H locs cells slots base sa sv D dA lsC C hH hS hl h1 h2
  obtain ⟨g1, g2, g3⟩ := dec' C.2.2.2.2.2.2.2.2.2.2.2.1 hc
  subst g2
  exact W.widen (by omega) (by omega) (W.zret C.1 C.2.1 (C.2.2.1.trans hr) ha (fun t ht hW => ⟨⟨some (.int a), lay, VI, VL, VR, rfl, hP, by rw [ht]; exact hH⟩, hS.F ht⟩) (S_free hS) g1 C.2.2.2.2.2.2.2.1)
theorem x_callF (hc : lkp (mC M) pc = some (.invokevirtual i, 3, nx, x, 1, v, w)) (hx : Nat.blt x 1000 = true) (hM : mi x = M') (hst : As.reverse ++ .float 1 :: st = st0) (hok : mOKm M') (hF : mF M' = 1) (hcn : (mY M').cls = "java/lang/String") (hn : As.length = mN M') (hfl : Nat.ble (flA (.float 1 :: As)).length (mL M') = true) (hcat : Nat.ble (st.map (fun v => v.category)).sum 8 = true) (hbc : bc = bc1 + bc2) (hbs : bs = bs1 + bs2) (k : Ex d M' 0 (entL (.float 1 :: As) (mL M')) [] lay VI VL VR bc1 bs1 (fun r lay' VI' VL' VR' => ExS S (d + 1) M nx ls (r.toList ++ st) lay' VI' VL' VR' bc2 bs2 P)) : ExS S (d + 1) M pc ls st0 lay VI VL VR bc bs P := by
  intro p l e R s m args below meth c H locs cells slots base sa sv D dA lsC C hH hS hl h1 h2
  obtain ⟨g1, g2, g3⟩ := dec' C.2.2.2.2.2.2.2.2.2.2.2.1 hc
  subst g2
  subst hM; subst hbc; subst hbs
  obtain ⟨o1, o2, o3, o4⟩ := hdOK_spec hok.1.2
  have hts := C.2.2.2.2.2.1
  have hK := C.2.2.2.2.2.2.1
  have hfr := C.2.2.2.2.2.2.2.2.2.1
  have hlo := C.2.2.2.2.2.2.2.2.2.2.1
  have hmw := mil_gw _ hok.2
  unfold frs at hfr; unfold lcs at hlo
  have hR : (rmM d bc1 bs1).frames + 1 ≤ R.frames ∧ 8 + (mL (mi x) + 11) + (rmM d bc1 bs1).locals ≤ R.locals := ⟨by show d + 1 + 1 ≤ _; omega, by show 8 + (mL (mi x) + 11) + (60 * d + 100) ≤ _; omega⟩
  have hm : (mO M, i, x, 1) ∈ mls := by
    have g4 := g3
    simp only [insOK] at g4
    have hx1 : x < 1000 := by simpa using hx
    simp at g4
    exact g4.2
  have hiw : Cond.instanceMethod (mi x).1 ∈ gw ∧ Cond.selects (mi x).1.cls (mi x).1 (mi x).1 ∈ gw := ⟨hmw _ (by unfold mw; rw [show (mi x).2.2.2.2.2.2.1 = 1 from hF]; simp), hmw _ (by unfold mw; rw [show (mi x).2.2.2.2.2.2.1 = 1 from hF]; simp)⟩
  have hini : Cond.initialized (mi x).1.cls ∈ gw := hmw _ (by simp [mw])
  refine run_on C hS hl rfl (by omega) (by omega) (va_runV (y := mY (mi x)) (Ts := gw) (own := own (mO M)) (C := (mY (mi x)).cls) (b := sa.2.1) (As := As.map (mv base sa)) ⟨C.1, C.2.1, C.2.2.2.1, C.2.2.2.2.1, hts⟩ (met_of hok (Nat.le_of_ble_eq_true hfl) k l base sa sv D dA) (cwV (mN (mi x)) hts (gw_good (fun w hw => ?_)) rfl rfl rfl ⟨rfl, o4⟩ hR) ⟨PcM_blind, ?_, fun U hU hW => ⟨rfl, by rw [hU]; exact hH, U_ok hK hS hU hW⟩⟩ rfl (by rw [List.length_map]; exact hn) hl.1 (by subst hst; simp [mv, mvF]) (lv_room (by simpa [Function.comp_def, mv_cat] using hcat)) g1 ⟨by omega, by omega⟩) (fun r lay' VI' VL' VR' h => h)
  · unfold wsV at hw
    rcases List.mem_append.mp hw with hw | hw
    · simp only [List.mem_cons, List.not_mem_nil, or_false] at hw
      rcases hw with rfl | rfl | rfl | rfl
      · exact mls_gw _ hm
      · exact hiw.1
      · exact hiw.2
      · exact hini
    · exact wsM_gw hok.2 w hw
  · rw [hcn]
    exact vk_recv (i := 0) hK.2.1.2.1 (by decide) hS
end XSt
/-- the script: L ints xs -/
def Scr (L : Nat) (xs : Nat → Int32) : SPr := fun base sa s => va_X sa.1 L xs s s.heap ∧ sa.1 < base
section XScr
variable {L : Nat} {xs : Nat → Int32} {d : Nat} {M : MI} {pc nx x y : Nat} {v : Int32} {w : Int64} {ls st : List Value} {lay : HL} {VI : VIT} {VL : VLT} {VR : VRT} {bc bs : Nat} {P : Post}
theorem x_sld (hc : lkp (mC M) pc = some (.iaload, 1, nx, x, y, v, w)) {j : Nat} {a : Int32} (ea : a = nI j) (hj : j < L) (hL : L < 2147483648) (k : ExS (Scr L xs) d M nx ls (.int (xs j) :: st) lay VI VL VR bc bs P) : ExS (Scr L xs) d M pc ls (.int a :: .float 0 :: st) lay VI VL VR bc bs P := by
  intro p l e R s m args below meth c H locs cells slots base sa sv D dA lsC C hH hS hl h1 h2
  obtain ⟨g1, g2, g3⟩ := dec' C.2.2.2.2.2.2.2.2.2.2.2.1 hc
  subst g2
  subst ea
  obtain ⟨hX, hb0⟩ := C.2.2.2.2.2.2.2.2.2.2.2.2
  have hz := C.2.2.2.2.2.2.1.2.2
  refine va_sld C.1 C.2.1 hX (Nat.lt_of_lt_of_le hb0 hz) (Nat.not_le.mpr hb0) hS (vp_in_nI hj hL) g1 ?_
  rw [nI_clamp (by omega)]
  exact (k p l e R s m args below meth c H locs cells slots base sa sv D dA lsC C hH hS hl h1 h2)
theorem x_slen (hc : lkp (mC M) pc = some (.arraylength, 1, nx, x, y, v, w)) (k : ExS (Scr L xs) d M nx ls (.int (nI L) :: st) lay VI VL VR bc bs P) : ExS (Scr L xs) d M pc ls (.float 0 :: st) lay VI VL VR bc bs P := by
  intro p l e R s m args below meth c H locs cells slots base sa sv D dA lsC C hH hS hl h1 h2
  obtain ⟨g1, g2, g3⟩ := dec' C.2.2.2.2.2.2.2.2.2.2.2.1 hc
  subst g2
  obtain ⟨hX, hb0⟩ := C.2.2.2.2.2.2.2.2.2.2.2.2
  have hz := C.2.2.2.2.2.2.1.2.2
  exact va_slen C.1 C.2.1 hX (Nat.lt_of_lt_of_le hb0 hz) (Nat.not_le.mpr hb0) hS g1 (k p l e R s m args below meth c H locs cells slots base sa sv D dA lsC C hH hS hl h1 h2)
end XScr
