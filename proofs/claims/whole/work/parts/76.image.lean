/-! ===== image, back: both sides, joined ===== -/
set_option maxRecDepth 20000 in
theorem hm_or : ∀ hm, hm < 4 → ∀ k, k < 2 → ∀ i, i < 2 → (hm ||| 2 ^ k) / 2 ^ i % 2 = (if i = k then 1 else hm / 2 ^ i % 2) ∧ (hm ||| 2 ^ k) < 4 := by decide
set_option maxRecDepth 20000 in
theorem liesK2 {k : Int32} (h : k < 0 ∨ 2 ≤ k) : liesF k 0 1 = false := by
  simp only [liesF, decide_eq_false_iff_not, not_and, Int32.lt_iff_toInt_lt]
  rw [Int32.lt_iff_toInt_lt, Int32.le_iff_toInt_le] at h
  have e0 : (0 : Int32).toInt = 0 := rfl
  have e1 : (1 : Int32).toInt = 1 := rfl
  have e2 : (2 : Int32).toInt = 2 := rfl
  omega
set_option maxRecDepth 20000 in
theorem liesK2b : ∀ k, k < 2 → liesF (nI k) 0 1 = true := by decide
set_option maxRecDepth 20000 in
theorem shb0 : ∀ hm, hm < 4 → nI (hm / 2 ^ 0 % 2) = (nI hm >>> ((0 : Int32) &&& 31)) &&& 1 := by decide +kernel
set_option maxRecDepth 20000 in
theorem shb1 : ∀ hm, hm < 4 → nI (hm / 2 ^ 1 % 2) = (nI hm >>> ((1 : Int32) &&& 31)) &&& 1 := by decide +kernel
section Image
variable {d : Nat} {VI : VIT} {VL : VLT} {G : VRT} {P : Post} {ext : HL}
set_option maxRecDepth 20000 in
theorem x_image_bad {k : Int32} (h : k < 0 ∨ 2 ≤ k) (hP : P (some (.int (-1))) (LY ++ ext) (up (up VI 0 17 (-1)) 73 0 (VI 73 0 + 1)) VL (vr G)) : Ex (d + 1) mi141 0 (entL [.ref 0, .int k] 2) [] (LY ++ ext) VI VL (vr G) 0 0 P := by
  refine x_iload_n rfl rfl ?_
  refine x_if_lt rfl (fun c1 => ?_) (fun c1 => ?_)
  · refine x_aload_n rfl rfl ?_
    refine x_iconst rfl ?_
    refine x_callV (M' := mi145) (As := [_]) (bc1 := 0) (bs1 := 0) (bc2 := 0) (bs2 := 0) rfl rfl rfl rfl ok145 rfl rfl (by decide) rfl rfl rfl rfl rfl rfl ?_
    refine s_settled_ref 0 rfl (by decide) ?_
    refine x_iret rfl rfl ?_
    exact hP
  · refine x_iload_n rfl rfl ?_
    refine x_iconst rfl ?_
    refine x_icmp_lt rfl (fun c6 => ?_) (fun c6 => ?_)
    · exact absurd h (fun z => z.elim c1 (fun y => absurd c6 (Int32.not_lt.mpr y)))
    · refine x_aload_n rfl rfl ?_
      refine x_iconst rfl ?_
      refine x_callV (M' := mi145) (As := [_]) (bc1 := 0) (bs1 := 0) (bc2 := 0) (bs2 := 0) rfl rfl rfl rfl ok145 rfl rfl (by decide) rfl rfl rfl rfl rfl rfl ?_
      refine s_settled_ref 0 rfl (by decide) ?_
      refine x_iret rfl rfl ?_
      exact hP
set_option maxRecDepth 20000 in
theorem m_image_bad {k : Int32} (h : k < 0 ∨ 2 ≤ k) (hP : P (some (.int (-1))) (LY ++ ext) (up (up VI 74 0 (-1)) 75 1 (VI 75 1 + 1)) VL (vr G)) : Ex (d + 1) mi162 0 (entL [.ref 74, .int k] 3) [] (LY ++ ext) VI VL (vr G) 0 0 P := by
  refine x_iload_n rfl rfl ?_
  refine x_iconst rfl ?_
  refine x_iconst rfl ?_
  refine x_callS (M' := mi152) (As := [_, _, _]) (bc1 := 0) (bs1 := 0) (bc2 := 0) (bs2 := 0) rfl rfl rfl rfl ok152 rfl rfl rfl rfl rfl rfl ?_
  refine m_lies ?_
  rw [liesK2 h]
  refine x_if_ne rfl (fun c6 => ?_) (fun c6 => ?_)
  · exact absurd c6 (by first | decide | omega)
  refine x_aload_n rfl rfl ?_
  refine x_iconst rfl ?_
  refine x_callV (M' := mi154) (As := [_]) (bc1 := 0) (bs1 := 0) (bc2 := 0) (bs2 := 0) rfl rfl rfl rfl ok154 rfl rfl (by decide) rfl rfl rfl rfl rfl rfl ?_
  refine m_refuses 1 rfl (by decide) ?_
  refine x_iret rfl rfl ?_
  exact hP
set_option maxRecDepth 20000 in
theorem x_back_bad {k : Int32} (h : k < 0 ∨ 2 ≤ k) (hP : P (some (.int (-1))) (LY ++ ext) (up (up VI 0 17 (-1)) 73 0 (VI 73 0 + 1)) VL (vr G)) : Ex (d + 1) mi142 0 (entL [.ref 0, .int k] 2) [] (LY ++ ext) VI VL (vr G) 0 0 P := by
  refine x_iload_n rfl rfl ?_
  refine x_if_lt rfl (fun c1 => ?_) (fun c1 => ?_)
  · refine x_aload_n rfl rfl ?_
    refine x_iconst rfl ?_
    refine x_callV (M' := mi145) (As := [_]) (bc1 := 0) (bs1 := 0) (bc2 := 0) (bs2 := 0) rfl rfl rfl rfl ok145 rfl rfl (by decide) rfl rfl rfl rfl rfl rfl ?_
    refine s_settled_ref 0 rfl (by decide) ?_
    refine x_iret rfl rfl ?_
    exact hP
  · refine x_iload_n rfl rfl ?_
    refine x_iconst rfl ?_
    refine x_icmp_lt rfl (fun c6 => ?_) (fun c6 => ?_)
    · exact absurd h (fun z => z.elim c1 (fun y => absurd c6 (Int32.not_lt.mpr y)))
    · refine x_aload_n rfl rfl ?_
      refine x_iconst rfl ?_
      refine x_callV (M' := mi145) (As := [_]) (bc1 := 0) (bs1 := 0) (bc2 := 0) (bs2 := 0) rfl rfl rfl rfl ok145 rfl rfl (by decide) rfl rfl rfl rfl rfl rfl ?_
      refine s_settled_ref 0 rfl (by decide) ?_
      refine x_iret rfl rfl ?_
      exact hP
set_option maxRecDepth 20000 in
theorem m_back_bad {k : Int32} (h : k < 0 ∨ 2 ≤ k) (hP : P (some (.int (-1))) (LY ++ ext) (up (up VI 74 0 (-1)) 75 1 (VI 75 1 + 1)) VL (vr G)) : Ex (d + 2) mi163 0 (entL [.ref 74, .int k] 3) [] (LY ++ ext) VI VL (vr G) 0 0 P := by
  refine x_iload_n rfl rfl ?_
  refine x_iconst rfl ?_
  refine x_iconst rfl ?_
  refine x_callS (M' := mi152) (As := [_, _, _]) (bc1 := 0) (bs1 := 0) (bc2 := 0) (bs2 := 0) rfl rfl rfl rfl ok152 rfl rfl rfl rfl rfl rfl ?_
  refine m_lies ?_
  rw [liesK2 h]
  refine x_if_ne rfl (fun c6 => ?_) (fun c6 => ?_)
  · exact absurd c6 (by first | decide | omega)
  refine x_aload_n rfl rfl ?_
  refine x_iconst rfl ?_
  refine x_callV (M' := mi154) (As := [_]) (bc1 := 0) (bs1 := 0) (bc2 := 0) (bs2 := 0) rfl rfl rfl rfl ok154 rfl rfl (by decide) rfl rfl rfl rfl rfl rfl ?_
  refine m_refuses 1 rfl (by decide) ?_
  refine x_iret rfl rfl ?_
  exact hP
set_option maxRecDepth 20000 in
theorem m_image_loop {k : Nat} (hk : k < 2) (hP : P (some (.int 0)) (LY ++ ext) (up (up (uw VI 77 (cp (VI 77) (5705 * k) (VI 76) 5705)) 78 k 1) 74 0 0) VL (vr G)) : ∀ (m i : Nat), i + m = 5705 → Ex (d + 1) mi162 17 [.ref 74, .int (nI k), .int (nI i)] [] (LY ++ ext) (uw VI 77 (cp (VI 77) (5705 * k) (VI 76) i)) VL (vr G) 0 0 P := by
  intro m
  induction m with
  | zero =>
    intro i hi
    have e : i = 5705 := by omega
    subst e
    refine x_iload_n rfl rfl ?_
    refine x_sipushN (q := 5705) rfl ?_
    refine x_icmpN_ge rfl (fun c21 => ?_) (fun c21 => ?_)
    rotate_left
    · exact absurd c21 (by first | decide | omega)
    refine x_aload_n rfl rfl ?_
    refine x_getR (u := .ref _) rfl rfl rfl rfl ?_
    refine x_iload_n rfl rfl ?_
    refine x_iconst rfl ?_
    refine x_zasN (j := k) rfl rfl (rfl) (by omega) ?_
    rw [show vp_nar .boolean (1 : Int32) = 1 from rfl]
    refine x_aload_n rfl rfl ?_
    refine x_iconst rfl ?_
    refine x_callV (M' := mi155) (As := [_]) (bc1 := 0) (bs1 := 0) (bc2 := 0) (bs2 := 0) rfl rfl rfl rfl ok155 rfl rfl (by decide) rfl rfl rfl rfl rfl rfl ?_
    refine m_good ?_
    refine x_iret rfl rfl ?_
    exact hP | succ m ih =>
    intro i hi
    refine x_iload_n rfl rfl ?_
    refine x_sipushN (q := 5705) rfl ?_
    refine x_icmpN_ge rfl (fun c21 => ?_) (fun c21 => ?_)
    · exact absurd c21 (by first | decide | omega)
    refine x_aload_n rfl rfl ?_
    refine x_getR (u := .ref _) rfl rfl rfl rfl ?_
    refine x_sipushN (q := 5705) rfl ?_
    refine x_iload_n rfl rfl ?_
    refine x_imulN rfl ?_
    refine x_iload_n rfl rfl ?_
    refine x_iaddN rfl ?_
    refine x_aload_n rfl rfl ?_
    refine x_getR (u := .ref _) rfl rfl rfl rfl ?_
    refine x_iload_n rfl rfl ?_
    refine x_ialN (j := i) rfl rfl (rfl) (by omega) ?_
    refine x_iasN (j := 5705 * k + i) rfl rfl (rfl) (by omega) ?_
    refine x_iincN (q := 1) (ls' := [_, _, _]) rfl rfl rfl rfl ?_
    refine x_goto rfl ?_
    rw [uw_ne (show (76 : Nat) ≠ 77 by decide), cp_step (f := VI 76) rfl]
    exact ih (i + 1) (by omega)
set_option maxRecDepth 20000 in
theorem m_image_ok {k : Nat} (hk : k < 2) (hP : P (some (.int 0)) (LY ++ ext) (up (up (uw VI 77 (cp (VI 77) (5705 * k) (VI 76) 5705)) 78 k 1) 74 0 0) VL (vr G)) : Ex (d + 1) mi162 0 (entL [.ref 74, .int (nI k)] 3) [] (LY ++ ext) VI VL (vr G) 0 0 P := by
  have hl := m_image_loop (d := d) (VI := VI) (VL := VL) (G := G) (P := P) (ext := ext) hk hP 5705 0 (by omega)
  rw [cp_0] at hl
  refine x_iload_n rfl rfl ?_
  refine x_iconst rfl ?_
  refine x_iconst rfl ?_
  refine x_callS (M' := mi152) (As := [_, _, _]) (bc1 := 0) (bs1 := 0) (bc2 := 0) (bs2 := 0) rfl rfl rfl rfl ok152 rfl rfl rfl rfl rfl rfl ?_
  refine m_lies ?_
  rw [liesK2b k hk]
  refine x_if_ne rfl (fun c6 => ?_) (fun c6 => ?_)
  rotate_left
  · exact absurd c6 (by first | decide | omega)
  refine x_iconstN (q := 0) rfl ?_
  refine x_istore_n (ls' := [_, _, _]) rfl rfl rfl ?_
  exact hl
set_option maxRecDepth 20000 in
theorem m_back_loop {k : Nat} (hk : k < 2) (hP : P (some (.int 0)) (LY ++ ext) (up (up (uw VI 76 (cp (VI 76) 0 (fun i => VI 77 (5705 * k + i)) 5705)) 74 32 0) 74 0 0) VL (vr G)) : ∀ (m i : Nat), i + m = 5705 → Ex (d + 2) mi163 33 [.ref 74, .int (nI k), .int (nI i)] [] (LY ++ ext) (uw VI 76 (cp (VI 76) 0 (fun i => VI 77 (5705 * k + i)) i)) VL (vr G) 0 0 P := by
  intro m
  induction m with
  | zero =>
    intro i hi
    have e : i = 5705 := by omega
    subst e
    refine x_iload_n rfl rfl ?_
    refine x_sipushN (q := 5705) rfl ?_
    refine x_icmpN_ge rfl (fun c37 => ?_) (fun c37 => ?_)
    rotate_left
    · exact absurd c37 (by first | decide | omega)
    refine x_aload_n rfl rfl ?_
    refine x_iconst rfl ?_
    refine x_callV (M' := mi156) (As := [_]) (bc1 := 0) (bs1 := 0) (bc2 := 0) (bs2 := 0) rfl rfl rfl rfl ok156 rfl rfl (by decide) rfl rfl rfl rfl rfl rfl ?_
    refine m_settled ?_
    refine x_iret rfl rfl ?_
    exact hP | succ m ih =>
    intro i hi
    refine x_iload_n rfl rfl ?_
    refine x_sipushN (q := 5705) rfl ?_
    refine x_icmpN_ge rfl (fun c37 => ?_) (fun c37 => ?_)
    · exact absurd c37 (by first | decide | omega)
    refine x_aload_n rfl rfl ?_
    refine x_getR (u := .ref _) rfl rfl rfl rfl ?_
    refine x_iload_n rfl rfl ?_
    refine x_aload_n rfl rfl ?_
    refine x_getR (u := .ref _) rfl rfl rfl rfl ?_
    refine x_sipushN (q := 5705) rfl ?_
    refine x_iload_n rfl rfl ?_
    refine x_imulN rfl ?_
    refine x_iload_n rfl rfl ?_
    refine x_iaddN rfl ?_
    refine x_ialN (j := 5705 * k + i) rfl rfl (rfl) (by omega) ?_
    refine x_iasN (j := i) rfl rfl (rfl) (by omega) ?_
    refine x_iincN (q := 1) (ls' := [_, _, _]) rfl rfl rfl rfl ?_
    refine x_goto rfl ?_
    rw [uw_ne (show (77 : Nat) ≠ 76 by decide), cp0_step (f := fun i => VI 77 (5705 * k + i)) rfl]
    exact ih (i + 1) (by omega)
set_option maxRecDepth 20000 in
theorem m_back_ok {k : Nat} (hk : k < 2) (hh : VI 78 k = nI 1) (hP : P (some (.int 0)) (LY ++ ext) (up (up (uw VI 76 (cp (VI 76) 0 (fun i => VI 77 (5705 * k + i)) 5705)) 74 32 0) 74 0 0) VL (vr G)) : Ex (d + 2) mi163 0 (entL [.ref 74, .int (nI k)] 3) [] (LY ++ ext) VI VL (vr G) 0 0 P := by
  have hl := m_back_loop (d := d) (VI := VI) (VL := VL) (G := G) (P := P) (ext := ext) hk hP 5705 0 (by omega)
  rw [cp_0] at hl
  refine x_iload_n rfl rfl ?_
  refine x_iconst rfl ?_
  refine x_iconst rfl ?_
  refine x_callS (M' := mi152) (As := [_, _, _]) (bc1 := 0) (bs1 := 0) (bc2 := 0) (bs2 := 0) rfl rfl rfl rfl ok152 rfl rfl rfl rfl rfl rfl ?_
  refine m_lies ?_
  rw [liesK2b k hk]
  refine x_if_ne rfl (fun c6 => ?_) (fun c6 => ?_)
  rotate_left
  · exact absurd c6 (by first | decide | omega)
  refine x_aload_n rfl rfl ?_
  refine x_getR (u := .ref _) rfl rfl rfl rfl ?_
  refine x_iload_n rfl rfl ?_
  refine x_zalN (j := k) rfl rfl (rfl) (by omega) ?_
  rw [hh]
  refine x_if_ne rfl (fun c21 => ?_) (fun c21 => ?_)
  rotate_left
  · exact absurd c21 (by first | decide | omega)
  refine x_iconstN (q := 0) rfl ?_
  refine x_istore_n (ls' := [_, _, _]) rfl rfl rfl ?_
  exact hl
set_option maxRecDepth 20000 in
theorem m_back_no {k : Nat} (hk : k < 2) (hh : VI 78 k = nI 0) (hP : P (some (.int (-2))) (LY ++ ext) (up (up VI 74 0 (-2)) 75 2 (VI 75 2 + 1)) VL (vr G)) : Ex (d + 2) mi163 0 (entL [.ref 74, .int (nI k)] 3) [] (LY ++ ext) VI VL (vr G) 0 0 P := by
  refine x_iload_n rfl rfl ?_
  refine x_iconst rfl ?_
  refine x_iconst rfl ?_
  refine x_callS (M' := mi152) (As := [_, _, _]) (bc1 := 0) (bs1 := 0) (bc2 := 0) (bs2 := 0) rfl rfl rfl rfl ok152 rfl rfl rfl rfl rfl rfl ?_
  refine m_lies ?_
  rw [liesK2b k hk]
  refine x_if_ne rfl (fun c6 => ?_) (fun c6 => ?_)
  rotate_left
  · exact absurd c6 (by first | decide | omega)
  refine x_aload_n rfl rfl ?_
  refine x_getR (u := .ref _) rfl rfl rfl rfl ?_
  refine x_iload_n rfl rfl ?_
  refine x_zalN (j := k) rfl rfl (rfl) (by omega) ?_
  rw [hh]
  refine x_if_ne rfl (fun c21 => ?_) (fun c21 => ?_)
  · exact absurd c21 (by first | decide | omega)
  refine x_aload_n rfl rfl ?_
  refine x_bipush rfl ?_
  refine x_callV (M' := mi154) (As := [_]) (bc1 := 0) (bs1 := 0) (bc2 := 0) (bs2 := 0) rfl rfl rfl rfl ok154 rfl rfl (by decide) rfl rfl rfl rfl rfl rfl ?_
  refine m_refuses 2 rfl (by decide) ?_
  refine x_iret rfl rfl ?_
  exact hP
set_option maxRecDepth 20000 in
theorem x_image0 {hm : Nat} (hR : Refs (LY ++ ext) (vr G)) (hk : VI 0 12 = nI hm) (hP : P (some (.int (nI 0))) (LY ++ ext) (up (up (cw_15_3 VI) 0 12 (nI (hm ||| 2 ^ 0))) 0 17 0) VL (vr (cpG G 25 13 6))) : Ex (d + 1) mi141 0 (entL [.ref 0, .int 0] 2) [] (LY ++ ext) VI VL (vr G) 0 0 P := by
  refine x_iload_n rfl rfl ?_
  refine x_if_lt rfl (fun c1 => ?_) (fun c1 => ?_)
  · exact absurd c1 (by first | decide | omega)
  refine x_iload_n rfl rfl ?_
  refine x_iconst rfl ?_
  refine x_icmp_lt rfl (fun c6 => ?_) (fun c6 => ?_)
  rotate_left
  · exact absurd c6 (by first | decide | omega)
  refine x_aload_n rfl rfl ?_
  refine x_getR (u := .ref _) rfl rfl rfl rfl ?_
  refine x_iload_n rfl rfl ?_
  refine x_aaload4 (b := 15) rfl rfl (vp_in_nI (n := 0) (by decide) (by decide)) (show vr G 14 0 = .ref 15 from rfl) ?_
  refine x_aload_n rfl rfl ?_
  refine x_getR (u := .ref _) rfl rfl rfl rfl ?_
  refine x_callV (M' := mi89) (As := [_]) (bc1 := 0) (bs1 := 0) (bc2 := 0) (bs2 := 0) rfl rfl rfl rfl ok89 rfl rfl (by decide) rfl rfl rfl rfl rfl rfl ?_
  refine s_copy_15_3 hR ?_
  refine x_aload_n rfl rfl ?_
  refine x_dup rfl rfl ?_
  refine x_getE (y := 12) rfl rfl rfl (show cw_15_3 VI 0 12 = nI hm from hk) ?_
  refine x_iconst rfl ?_
  refine x_iload_n rfl rfl ?_
  refine x_ishl rfl ?_
  refine x_ior rfl ?_
  rw [show (1 : Int32) <<< ((0 : Int32) &&& 31) = nI (2 ^ 0) from by decide +kernel, nb_or]
  refine x_putI rfl rfl rfl rfl ?_
  refine x_aload_n rfl rfl ?_
  refine x_iconst rfl ?_
  refine x_callV (M' := mi145) (As := [_]) (bc1 := 0) (bs1 := 0) (bc2 := 0) (bs2 := 0) rfl rfl rfl rfl ok145 rfl rfl (by decide) rfl rfl rfl rfl rfl rfl ?_
  refine s_settled_ok (a := 0) (by omega) ?_
  refine x_iret rfl rfl ?_
  exact hP
set_option maxRecDepth 20000 in
theorem x_back0 {hm : Nat} (hR : Refs (LY ++ ext) (vr G)) (hk : VI 0 12 = nI hm) (h4 : hm < 4) (hb : hm / 2 ^ 0 % 2 = 1) (hP : P (some (.int (nI 0))) (LY ++ ext) (up (up (cw_3_15 VI) 45 2 0) 0 17 0) VL (vr (cpG G 13 25 6))) : Ex (d + 1) mi142 0 (entL [.ref 0, .int 0] 2) [] (LY ++ ext) VI VL (vr G) 0 0 P := by
  have e : (nI hm >>> ((0 : Int32) &&& 31)) &&& 1 = 1 := shb0 hm h4 ▸ by rw [hb]; rfl
  refine x_iload_n rfl rfl ?_
  refine x_if_lt rfl (fun c1 => ?_) (fun c1 => ?_)
  · exact absurd c1 (by first | decide | omega)
  refine x_iload_n rfl rfl ?_
  refine x_iconst rfl ?_
  refine x_icmp_lt rfl (fun c6 => ?_) (fun c6 => ?_)
  rotate_left
  · exact absurd c6 (by first | decide | omega)
  refine x_aload_n rfl rfl ?_
  refine x_getE (y := 12) rfl rfl rfl (hk) ?_
  refine x_iload_n rfl rfl ?_
  refine x_ishr rfl ?_
  refine x_iconst rfl ?_
  refine x_iand rfl ?_
  rw [e]
  refine x_if_ne rfl (fun c23 => ?_) (fun c23 => ?_)
  rotate_left
  · exact absurd c23 (by first | decide | omega)
  refine x_aload_n rfl rfl ?_
  refine x_getR (u := .ref _) rfl rfl rfl rfl ?_
  refine x_aload_n rfl rfl ?_
  refine x_getR (u := .ref _) rfl rfl rfl rfl ?_
  refine x_iload_n rfl rfl ?_
  refine x_aaload4 (b := 15) rfl rfl (vp_in_nI (n := 0) (by decide) (by decide)) (show vr G 14 0 = .ref 15 from rfl) ?_
  refine x_callV (M' := mi89) (As := [_]) (bc1 := 0) (bs1 := 0) (bc2 := 0) (bs2 := 0) rfl rfl rfl rfl ok89 rfl rfl (by decide) rfl rfl rfl rfl rfl rfl ?_
  refine s_copy_3_15 hR ?_
  refine x_aload_n rfl rfl ?_
  refine x_getR (u := .ref _) rfl rfl rfl rfl ?_
  refine x_callV (M' := mi6) (As := []) (bc1 := 0) (bs1 := 0) (bc2 := 0) (bs2 := 0) rfl rfl rfl rfl ok6 rfl rfl (by decide) rfl rfl rfl rfl rfl rfl ?_
  refine s_forgetAll ?_
  refine x_aload_n rfl rfl ?_
  refine x_iconst rfl ?_
  refine x_callV (M' := mi145) (As := [_]) (bc1 := 0) (bs1 := 0) (bc2 := 0) (bs2 := 0) rfl rfl rfl rfl ok145 rfl rfl (by decide) rfl rfl rfl rfl rfl rfl ?_
  refine s_settled_ok (a := 0) (by omega) ?_
  refine x_iret rfl rfl ?_
  exact hP
set_option maxRecDepth 20000 in
theorem x_back0_no {hm : Nat} (hk : VI 0 12 = nI hm) (h4 : hm < 4) (hb : hm / 2 ^ 0 % 2 = 0) (hP : P (some (.int (-2))) (LY ++ ext) (up (up VI 0 17 (-2)) 73 1 (VI 73 1 + 1)) VL (vr G)) : Ex (d + 1) mi142 0 (entL [.ref 0, .int 0] 2) [] (LY ++ ext) VI VL (vr G) 0 0 P := by
  have e : (nI hm >>> ((0 : Int32) &&& 31)) &&& 1 = 0 := shb0 hm h4 ▸ by rw [hb]; rfl
  refine x_iload_n rfl rfl ?_
  refine x_if_lt rfl (fun c1 => ?_) (fun c1 => ?_)
  · exact absurd c1 (by first | decide | omega)
  refine x_iload_n rfl rfl ?_
  refine x_iconst rfl ?_
  refine x_icmp_lt rfl (fun c6 => ?_) (fun c6 => ?_)
  rotate_left
  · exact absurd c6 (by first | decide | omega)
  refine x_aload_n rfl rfl ?_
  refine x_getE (y := 12) rfl rfl rfl (hk) ?_
  refine x_iload_n rfl rfl ?_
  refine x_ishr rfl ?_
  refine x_iconst rfl ?_
  refine x_iand rfl ?_
  rw [e]
  refine x_if_ne rfl (fun c23 => ?_) (fun c23 => ?_)
  · exact absurd c23 (by first | decide | omega)
  refine x_aload_n rfl rfl ?_
  refine x_bipush rfl ?_
  refine x_callV (M' := mi145) (As := [_]) (bc1 := 0) (bs1 := 0) (bc2 := 0) (bs2 := 0) rfl rfl rfl rfl ok145 rfl rfl (by decide) rfl rfl rfl rfl rfl rfl ?_
  refine s_settled_ref 1 rfl (by decide) ?_
  refine x_iret rfl rfl ?_
  exact hP
set_option maxRecDepth 20000 in
theorem x_image1 {hm : Nat} (hR : Refs (LY ++ ext) (vr G)) (hk : VI 0 12 = nI hm) (hP : P (some (.int (nI 0))) (LY ++ ext) (up (up (cw_26_3 VI) 0 12 (nI (hm ||| 2 ^ 1))) 0 17 0) VL (vr (cpG G 36 13 6))) : Ex (d + 1) mi141 0 (entL [.ref 0, .int 1] 2) [] (LY ++ ext) VI VL (vr G) 0 0 P := by
  refine x_iload_n rfl rfl ?_
  refine x_if_lt rfl (fun c1 => ?_) (fun c1 => ?_)
  · exact absurd c1 (by first | decide | omega)
  refine x_iload_n rfl rfl ?_
  refine x_iconst rfl ?_
  refine x_icmp_lt rfl (fun c6 => ?_) (fun c6 => ?_)
  rotate_left
  · exact absurd c6 (by first | decide | omega)
  refine x_aload_n rfl rfl ?_
  refine x_getR (u := .ref _) rfl rfl rfl rfl ?_
  refine x_iload_n rfl rfl ?_
  refine x_aaload4 (b := 26) rfl rfl (vp_in_nI (n := 1) (by decide) (by decide)) (show vr G 14 1 = .ref 26 from rfl) ?_
  refine x_aload_n rfl rfl ?_
  refine x_getR (u := .ref _) rfl rfl rfl rfl ?_
  refine x_callV (M' := mi89) (As := [_]) (bc1 := 0) (bs1 := 0) (bc2 := 0) (bs2 := 0) rfl rfl rfl rfl ok89 rfl rfl (by decide) rfl rfl rfl rfl rfl rfl ?_
  refine s_copy_26_3 hR ?_
  refine x_aload_n rfl rfl ?_
  refine x_dup rfl rfl ?_
  refine x_getE (y := 12) rfl rfl rfl (show cw_26_3 VI 0 12 = nI hm from hk) ?_
  refine x_iconst rfl ?_
  refine x_iload_n rfl rfl ?_
  refine x_ishl rfl ?_
  refine x_ior rfl ?_
  rw [show (1 : Int32) <<< ((1 : Int32) &&& 31) = nI (2 ^ 1) from by decide +kernel, nb_or]
  refine x_putI rfl rfl rfl rfl ?_
  refine x_aload_n rfl rfl ?_
  refine x_iconst rfl ?_
  refine x_callV (M' := mi145) (As := [_]) (bc1 := 0) (bs1 := 0) (bc2 := 0) (bs2 := 0) rfl rfl rfl rfl ok145 rfl rfl (by decide) rfl rfl rfl rfl rfl rfl ?_
  refine s_settled_ok (a := 0) (by omega) ?_
  refine x_iret rfl rfl ?_
  exact hP
set_option maxRecDepth 20000 in
theorem x_back1 {hm : Nat} (hR : Refs (LY ++ ext) (vr G)) (hk : VI 0 12 = nI hm) (h4 : hm < 4) (hb : hm / 2 ^ 1 % 2 = 1) (hP : P (some (.int (nI 0))) (LY ++ ext) (up (up (cw_3_26 VI) 45 2 0) 0 17 0) VL (vr (cpG G 13 36 6))) : Ex (d + 1) mi142 0 (entL [.ref 0, .int 1] 2) [] (LY ++ ext) VI VL (vr G) 0 0 P := by
  have e : (nI hm >>> ((1 : Int32) &&& 31)) &&& 1 = 1 := shb1 hm h4 ▸ by rw [hb]; rfl
  refine x_iload_n rfl rfl ?_
  refine x_if_lt rfl (fun c1 => ?_) (fun c1 => ?_)
  · exact absurd c1 (by first | decide | omega)
  refine x_iload_n rfl rfl ?_
  refine x_iconst rfl ?_
  refine x_icmp_lt rfl (fun c6 => ?_) (fun c6 => ?_)
  rotate_left
  · exact absurd c6 (by first | decide | omega)
  refine x_aload_n rfl rfl ?_
  refine x_getE (y := 12) rfl rfl rfl (hk) ?_
  refine x_iload_n rfl rfl ?_
  refine x_ishr rfl ?_
  refine x_iconst rfl ?_
  refine x_iand rfl ?_
  rw [e]
  refine x_if_ne rfl (fun c23 => ?_) (fun c23 => ?_)
  rotate_left
  · exact absurd c23 (by first | decide | omega)
  refine x_aload_n rfl rfl ?_
  refine x_getR (u := .ref _) rfl rfl rfl rfl ?_
  refine x_aload_n rfl rfl ?_
  refine x_getR (u := .ref _) rfl rfl rfl rfl ?_
  refine x_iload_n rfl rfl ?_
  refine x_aaload4 (b := 26) rfl rfl (vp_in_nI (n := 1) (by decide) (by decide)) (show vr G 14 1 = .ref 26 from rfl) ?_
  refine x_callV (M' := mi89) (As := [_]) (bc1 := 0) (bs1 := 0) (bc2 := 0) (bs2 := 0) rfl rfl rfl rfl ok89 rfl rfl (by decide) rfl rfl rfl rfl rfl rfl ?_
  refine s_copy_3_26 hR ?_
  refine x_aload_n rfl rfl ?_
  refine x_getR (u := .ref _) rfl rfl rfl rfl ?_
  refine x_callV (M' := mi6) (As := []) (bc1 := 0) (bs1 := 0) (bc2 := 0) (bs2 := 0) rfl rfl rfl rfl ok6 rfl rfl (by decide) rfl rfl rfl rfl rfl rfl ?_
  refine s_forgetAll ?_
  refine x_aload_n rfl rfl ?_
  refine x_iconst rfl ?_
  refine x_callV (M' := mi145) (As := [_]) (bc1 := 0) (bs1 := 0) (bc2 := 0) (bs2 := 0) rfl rfl rfl rfl ok145 rfl rfl (by decide) rfl rfl rfl rfl rfl rfl ?_
  refine s_settled_ok (a := 0) (by omega) ?_
  refine x_iret rfl rfl ?_
  exact hP
set_option maxRecDepth 20000 in
theorem x_back1_no {hm : Nat} (hk : VI 0 12 = nI hm) (h4 : hm < 4) (hb : hm / 2 ^ 1 % 2 = 0) (hP : P (some (.int (-2))) (LY ++ ext) (up (up VI 0 17 (-2)) 73 1 (VI 73 1 + 1)) VL (vr G)) : Ex (d + 1) mi142 0 (entL [.ref 0, .int 1] 2) [] (LY ++ ext) VI VL (vr G) 0 0 P := by
  have e : (nI hm >>> ((1 : Int32) &&& 31)) &&& 1 = 0 := shb1 hm h4 ▸ by rw [hb]; rfl
  refine x_iload_n rfl rfl ?_
  refine x_if_lt rfl (fun c1 => ?_) (fun c1 => ?_)
  · exact absurd c1 (by first | decide | omega)
  refine x_iload_n rfl rfl ?_
  refine x_iconst rfl ?_
  refine x_icmp_lt rfl (fun c6 => ?_) (fun c6 => ?_)
  rotate_left
  · exact absurd c6 (by first | decide | omega)
  refine x_aload_n rfl rfl ?_
  refine x_getE (y := 12) rfl rfl rfl (hk) ?_
  refine x_iload_n rfl rfl ?_
  refine x_ishr rfl ?_
  refine x_iconst rfl ?_
  refine x_iand rfl ?_
  rw [e]
  refine x_if_ne rfl (fun c23 => ?_) (fun c23 => ?_)
  · exact absurd c23 (by first | decide | omega)
  refine x_aload_n rfl rfl ?_
  refine x_bipush rfl ?_
  refine x_callV (M' := mi145) (As := [_]) (bc1 := 0) (bs1 := 0) (bc2 := 0) (bs2 := 0) rfl rfl rfl rfl ok145 rfl rfl (by decide) rfl rfl rfl rfl rfl rfl ?_
  refine s_settled_ref 1 rfl (by decide) ?_
  refine x_iret rfl rfl ?_
  exact hP
end Image
