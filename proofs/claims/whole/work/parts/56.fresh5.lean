/-! ===== a fresh object: refused numbers ===== -/
section Fresh5
variable {d : Nat} {VI : VIT} {P : Post}
set_option maxRecDepth 20000 in
theorem fx_terms_bad {w v : Int32} (hb : w < 0 ∨ 3 ≤ w ∨ v < 0 ∨ ¬ v ≤ mostF w) (hP : PX P (-1)) : Ex (d + 1) mi113 0 (entL [.ref 0, .int w, .int v] 4) [] (LY ++ []) VIm ZL (vr ZR) 0 0 P := by
  refine x_iload_n rfl rfl ?_
  refine x_if_lt rfl (fun c1 => ?_) (fun c1 => ?_)
  · refine x_aload_n rfl rfl ?_
    refine x_iconst rfl ?_
    refine x_callV (M' := mi145) (As := [_]) (bc1 := 0) (bs1 := 0) (bc2 := 0) (bs2 := 0) rfl rfl rfl rfl ok145 rfl rfl (by decide) rfl rfl rfl rfl rfl rfl ?_
    refine s_settled_ref 0 rfl (by decide) ?_
    refine x_iret rfl rfl ?_
    exact hP _ (Fm_up (Fm_up Fm0 (by decide)) (by decide))
  · refine x_iload_n rfl rfl ?_
    refine x_iconst rfl ?_
    refine x_icmp_ge rfl (fun c6 => ?_) (fun c6 => ?_)
    · refine x_aload_n rfl rfl ?_
      refine x_iconst rfl ?_
      refine x_callV (M' := mi145) (As := [_]) (bc1 := 0) (bs1 := 0) (bc2 := 0) (bs2 := 0) rfl rfl rfl rfl ok145 rfl rfl (by decide) rfl rfl rfl rfl rfl rfl ?_
      refine s_settled_ref 0 rfl (by decide) ?_
      refine x_iret rfl rfl ?_
      exact hP _ (Fm_up (Fm_up Fm0 (by decide)) (by decide))
    · refine x_iload_n rfl rfl ?_
      refine x_if_lt rfl (fun c10 => ?_) (fun c10 => ?_)
      · refine x_aload_n rfl rfl ?_
        refine x_iconst rfl ?_
        refine x_callV (M' := mi145) (As := [_]) (bc1 := 0) (bs1 := 0) (bc2 := 0) (bs2 := 0) rfl rfl rfl rfl ok145 rfl rfl (by decide) rfl rfl rfl rfl rfl rfl ?_
        refine s_settled_ref 0 rfl (by decide) ?_
        refine x_iret rfl rfl ?_
        exact hP _ (Fm_up (Fm_up Fm0 (by decide)) (by decide))
      · refine x_iload_n rfl rfl ?_
        refine x_iload_n rfl rfl ?_
        refine x_callS (M' := mi151) (As := [_]) (bc1 := 0) (bs1 := 0) (bc2 := 0) (bs2 := 0) rfl rfl rfl rfl ok151 rfl rfl rfl rfl rfl rfl ?_
        refine s_mostOfTerm ?_
        refine x_icmp_le rfl (fun c18 => ?_) (fun c18 => ?_)
        · exact absurd hb (by simp only [not_or]; exact ⟨c1, c6, c10, fun h => h c18⟩)
        · refine x_aload_n rfl rfl ?_
          refine x_iconst rfl ?_
          refine x_callV (M' := mi145) (As := [_]) (bc1 := 0) (bs1 := 0) (bc2 := 0) (bs2 := 0) rfl rfl rfl rfl ok145 rfl rfl (by decide) rfl rfl rfl rfl rfl rfl ?_
          refine s_settled_ref 0 rfl (by decide) ?_
          refine x_iret rfl rfl ?_
          exact hP _ (Fm_up (Fm_up Fm0 (by decide)) (by decide))
set_option maxRecDepth 20000 in
theorem three {w : Int32} (h1 : ¬ w < 0) (h2 : ¬ 3 ≤ w) : w = 0 ∨ w = 1 ∨ w = 2 := by
  rw [Int32.lt_iff_toInt_lt] at h1
  rw [Int32.le_iff_toInt_le] at h2
  have e3 : (3 : Int32).toInt = 3 := rfl
  have e2 : (2 : Int32).toInt = 2 := rfl
  have e0 : (0 : Int32).toInt = 0 := rfl
  have e1 : (1 : Int32).toInt = 1 := rfl
  have h3 : w.toInt = 0 ∨ w.toInt = 1 ∨ w.toInt = 2 := by omega
  rcases h3 with h | h | h
  · exact Or.inl (Int32.toInt_inj.mp (h.trans e0.symm))
  · exact Or.inr (Or.inl (Int32.toInt_inj.mp (h.trans e1.symm)))
  · exact Or.inr (Or.inr (Int32.toInt_inj.mp (h.trans e2.symm)))
set_option maxRecDepth 20000 in
theorem m_isTerm_bad {w v : Int32} (hb : w < 0 ∨ 3 ≤ w ∨ v < 0 ∨ ¬ v ≤ mostF w) (hP : P (some (.int 0)) (LY ++ []) VI ZL (vr ZR)) : Ex (d + 1) mi184 0 (entL [.int w, .int v] 2) [] (LY ++ []) VI ZL (vr ZR) 0 0 P := by
  by_cases h1 : w < 0 ∨ 3 ≤ w
  · have h2 : w.toInt < 0 ∨ 2 < w.toInt := by
      rcases h1 with h | h
      · rw [Int32.lt_iff_toInt_lt] at h; exact Or.inl h
      · rw [Int32.le_iff_toInt_le] at h; have e3 : (3 : Int32).toInt = 3 := rfl; right; omega
    refine x_iload_n rfl rfl ?_
    refine x_swOut (tgt := 53) rfl h2 (by decide) ?_
    refine x_iconst rfl ?_
    refine x_zret rfl rfl (by first | exact Or.inl rfl | exact Or.inr rfl) ?_
    exact hP
  · simp only [not_or] at h1
    have hb2 : v < 0 ∨ ¬ v ≤ mostF w := by
      rcases hb with h | h | h
      · exact absurd h h1.1
      · exact absurd h h1.2
      · exact h
    rcases three h1.1 h1.2 with rfl | rfl | rfl
    · have hl : liesF v 0 999 = false := by simp only [liesF, decide_eq_false_iff_not, not_and, Decidable.not_not]; intro h; exact Int32.not_le.mp (hb2.resolve_left h)
      refine x_iload_n rfl rfl ?_
      refine x_swIn (tgt := 28) rfl (by decide) (by decide) rfl (by decide) ?_
      refine x_iload_n rfl rfl ?_
      refine x_iconst rfl ?_
      refine x_sipush rfl ?_
      refine x_callS (M' := mi152) (As := [_, _, _]) (bc1 := 0) (bs1 := 0) (bc2 := 0) (bs2 := 0) rfl rfl rfl rfl ok152 rfl rfl rfl rfl rfl rfl ?_
      refine m_lies ?_
      rw [hl]
      refine x_zret rfl rfl (by first | exact Or.inl rfl | exact Or.inr rfl) ?_
      exact hP
    · have hl : liesF v 0 10 = false := by simp only [liesF, decide_eq_false_iff_not, not_and, Decidable.not_not]; intro h; exact Int32.not_le.mp (hb2.resolve_left h)
      refine x_iload_n rfl rfl ?_
      refine x_swIn (tgt := 37) rfl (by decide) (by decide) rfl (by decide) ?_
      refine x_iload_n rfl rfl ?_
      refine x_iconst rfl ?_
      refine x_bipush rfl ?_
      refine x_callS (M' := mi152) (As := [_, _, _]) (bc1 := 0) (bs1 := 0) (bc2 := 0) (bs2 := 0) rfl rfl rfl rfl ok152 rfl rfl rfl rfl rfl rfl ?_
      refine m_lies ?_
      rw [hl]
      refine x_zret rfl rfl (by first | exact Or.inl rfl | exact Or.inr rfl) ?_
      exact hP
    · have hl : liesF v 0 9 = false := by simp only [liesF, decide_eq_false_iff_not, not_and, Decidable.not_not]; intro h; exact Int32.not_le.mp (hb2.resolve_left h)
      refine x_iload_n rfl rfl ?_
      refine x_swIn (tgt := 45) rfl (by decide) (by decide) rfl (by decide) ?_
      refine x_iload_n rfl rfl ?_
      refine x_iconst rfl ?_
      refine x_bipush rfl ?_
      refine x_callS (M' := mi152) (As := [_, _, _]) (bc1 := 0) (bs1 := 0) (bc2 := 0) (bs2 := 0) rfl rfl rfl rfl ok152 rfl rfl rfl rfl rfl rfl ?_
      refine m_lies ?_
      rw [hl]
      refine x_zret rfl rfl (by first | exact Or.inl rfl | exact Or.inr rfl) ?_
      exact hP
set_option maxRecDepth 20000 in
theorem fm_terms_bad {w v : Int32} (hb : w < 0 ∨ 3 ≤ w ∨ v < 0 ∨ ¬ v ≤ mostF w) (hP : PM P (-1)) : Ex (d + 2) mi185 0 (entL [.ref 74, .int w, .int v] 5) [] (LY ++ []) VI ZL (vr ZR) 0 0 P := by
  refine x_iload_n rfl rfl ?_
  refine x_iload_n rfl rfl ?_
  refine x_callS (M' := mi184) (As := [_, _]) (bc1 := 0) (bs1 := 0) (bc2 := 0) (bs2 := 0) rfl rfl rfl rfl ok184 rfl rfl rfl rfl rfl rfl ?_
  refine m_isTerm_bad hb ?_
  refine x_if_ne rfl (fun c5 => ?_) (fun c5 => ?_)
  · exact absurd rfl c5
  refine x_aload_n rfl rfl ?_
  refine x_iconst rfl ?_
  refine x_callV (M' := mi154) (As := [_]) (bc1 := 0) (bs1 := 0) (bc2 := 0) (bs2 := 0) rfl rfl rfl rfl ok154 rfl rfl (by decide) rfl rfl rfl rfl rfl rfl ?_
  refine m_refuses 1 rfl (by decide) ?_
  refine x_iret rfl rfl ?_
  exact hP _
set_option maxRecDepth 20000 in
theorem fx_image_bad {k : Int32} (hb : k < 0 ∨ 2 ≤ k) (hP : PX P (-1)) : Ex (d + 1) mi141 0 (entL [.ref 0, .int k] 2) [] (LY ++ []) VIm ZL (vr ZR) 0 0 P := by
  refine x_iload_n rfl rfl ?_
  refine x_if_lt rfl (fun c1 => ?_) (fun c1 => ?_)
  · refine x_aload_n rfl rfl ?_
    refine x_iconst rfl ?_
    refine x_callV (M' := mi145) (As := [_]) (bc1 := 0) (bs1 := 0) (bc2 := 0) (bs2 := 0) rfl rfl rfl rfl ok145 rfl rfl (by decide) rfl rfl rfl rfl rfl rfl ?_
    refine s_settled_ref 0 rfl (by decide) ?_
    refine x_iret rfl rfl ?_
    exact hP _ (Fm_up (Fm_up Fm0 (by decide)) (by decide))
  · refine x_iload_n rfl rfl ?_
    refine x_iconst rfl ?_
    refine x_icmp_lt rfl (fun c6 => ?_) (fun c6 => ?_)
    · exact absurd hb (by simp only [not_or]; exact ⟨c1, Int32.not_le.mpr c6⟩)
    · refine x_aload_n rfl rfl ?_
      refine x_iconst rfl ?_
      refine x_callV (M' := mi145) (As := [_]) (bc1 := 0) (bs1 := 0) (bc2 := 0) (bs2 := 0) rfl rfl rfl rfl ok145 rfl rfl (by decide) rfl rfl rfl rfl rfl rfl ?_
      refine s_settled_ref 0 rfl (by decide) ?_
      refine x_iret rfl rfl ?_
      exact hP _ (Fm_up (Fm_up Fm0 (by decide)) (by decide))
set_option maxRecDepth 20000 in
theorem lies01 (k : Int32) : liesF k 0 1 = decide (¬ (k < 0 ∨ 2 ≤ k)) := by
  have h : (1 < k) ↔ 2 ≤ k := by
    rw [Int32.lt_iff_toInt_lt, Int32.le_iff_toInt_le]
    have e1 : (1 : Int32).toInt = 1 := rfl
    have e2 : (2 : Int32).toInt = 2 := rfl
    omega
  simp only [liesF, not_or, h]
set_option maxRecDepth 20000 in
theorem fm_image_bad {k : Int32} (hb : k < 0 ∨ 2 ≤ k) (hP : PM P (-1)) : Ex (d + 1) mi162 0 (entL [.ref 74, .int k] 3) [] (LY ++ []) VI ZL (vr ZR) 0 0 P := by
  refine x_iload_n rfl rfl ?_
  refine x_iconst rfl ?_
  refine x_iconst rfl ?_
  refine x_callS (M' := mi152) (As := [_, _, _]) (bc1 := 0) (bs1 := 0) (bc2 := 0) (bs2 := 0) rfl rfl rfl rfl ok152 rfl rfl rfl rfl rfl rfl ?_
  refine m_lies ?_
  rw [lies01]
  refine x_if_ne rfl (fun c6 => ?_) (fun c6 => ?_)
  · exact absurd (by simp [b1, hb]) c6
  refine x_aload_n rfl rfl ?_
  refine x_iconst rfl ?_
  refine x_callV (M' := mi154) (As := [_]) (bc1 := 0) (bs1 := 0) (bc2 := 0) (bs2 := 0) rfl rfl rfl rfl ok154 rfl rfl (by decide) rfl rfl rfl rfl rfl rfl ?_
  refine m_refuses 1 rfl (by decide) ?_
  refine x_iret rfl rfl ?_
  exact hP _
set_option maxRecDepth 20000 in
theorem fm_image_loop {j : Nat} (hj : j < 2) (hP : PM P 0) : ∀ (m i : Nat) (VI : VIT), i + m = 5705 → Ex (d + 1) mi162 17 [.ref 74, .int (nI j), .int (nI i)] [] (LY ++ []) VI ZL (vr ZR) 0 0 P := by
  intro m
  induction m with
  | zero =>
    intro i VI hi
    have e : i = 5705 := by omega
    subst e
    refine x_iload_n rfl rfl ?_
    refine x_sipushN (q := 5705) rfl ?_
    refine x_icmpN_ge rfl (fun c21 => ?_) (fun c21 => ?_)
    rotate_left
    · exact absurd c21 (by first | decide | omega)
    refine x_aload_n rfl rfl ?_
    refine x_getR (u := .ref _) rfl rfl rfl rfl ?_
    refine x_iload_n rfl rfl ?_
    refine x_iconstN (q := 1) rfl ?_
    refine x_zasN (j := j) rfl rfl (rfl) (by omega) ?_
    refine x_aload_n rfl rfl ?_
    refine x_iconstN (q := 0) rfl ?_
    refine x_callV (M' := mi155) (As := [_]) (bc1 := 0) (bs1 := 0) (bc2 := 0) (bs2 := 0) rfl rfl rfl rfl ok155 rfl rfl (by decide) rfl rfl rfl rfl rfl rfl ?_
    refine m_good ?_
    refine x_iret rfl rfl ?_
    exact hP _ | succ m ih =>
    intro i VI hi
    refine x_iload_n rfl rfl ?_
    refine x_sipushN (q := 5705) rfl ?_
    refine x_icmpN_ge rfl (fun c21 => ?_) (fun c21 => ?_)
    · exact absurd c21 (by first | decide | omega)
    refine x_aload_n rfl rfl ?_
    refine x_getR (u := .ref _) rfl rfl rfl rfl ?_
    refine x_sipushN (q := 5705) rfl ?_
    refine x_iload_n rfl rfl ?_
    refine x_imulN rfl ?_
    refine x_iload_n rfl rfl ?_
    refine x_iaddN rfl ?_
    refine x_aload_n rfl rfl ?_
    refine x_getR (u := .ref _) rfl rfl rfl rfl ?_
    refine x_iload_n rfl rfl ?_
    refine x_ialN (j := i) rfl rfl (rfl) (by omega) ?_
    refine x_iasN (j := 5705 * j + i) rfl rfl (rfl) (by omega) ?_
    refine x_iincN (q := 1) (ls' := [_, _, _]) rfl rfl rfl rfl ?_
    refine x_goto rfl ?_
    exact ih (i + 1) _ (by omega)
set_option maxRecDepth 20000 in
theorem fm_image {j : Nat} (hj : j < 2) (hP : PM P 0) : Ex (d + 1) mi162 0 (entL [.ref 74, .int (nI j)] 3) [] (LY ++ []) VI ZL (vr ZR) 0 0 P := by
  have hb : ¬ (nI j < 0 ∨ 2 ≤ nI j) := by
    simp only [not_or]
    exact ⟨nI_pos (by omega), (show ¬ nI 2 ≤ nI j from nI_ge hj (by omega))⟩
  refine x_iload_n rfl rfl ?_
  refine x_iconst rfl ?_
  refine x_iconst rfl ?_
  refine x_callS (M' := mi152) (As := [_, _, _]) (bc1 := 0) (bs1 := 0) (bc2 := 0) (bs2 := 0) rfl rfl rfl rfl ok152 rfl rfl rfl rfl rfl rfl ?_
  refine m_lies ?_
  rw [lies01]
  refine x_if_ne rfl (fun c6 => ?_) (fun c6 => ?_)
  rotate_left
  · exact absurd c6 (by simp [b1, hb])
  refine x_iconst rfl ?_
  refine x_istore_n (ls' := [_, _, _]) rfl rfl rfl ?_
  exact fm_image_loop hj hP 5705 0 _ (by omega)
set_option maxRecDepth 20000 in
theorem fx_count_bad {w : Int32} (hb : w < 0 ∨ 17 ≤ w) (hP : PX P (-1)) : Ex (d + 1) mi143 0 (entL [.ref 0, .int w] 2) [] (LY ++ []) VIm ZL (vr ZR) 0 0 P := by
  have h2 : w.toInt < 0 ∨ 13 < w.toInt := by
    rcases hb with h | h
    · rw [Int32.lt_iff_toInt_lt] at h; exact Or.inl h
    · rw [Int32.le_iff_toInt_le] at h; have e3 : (17 : Int32).toInt = 17 := rfl; right; omega
  refine x_iload_n rfl rfl ?_
  refine x_swOut (tgt := 181) rfl h2 (by decide) ?_
  refine x_iload_n rfl rfl ?_
  refine x_bipush rfl ?_
  refine x_icmp_lt rfl (fun c184 => ?_) (fun c184 => ?_)
  · refine x_iconst rfl ?_
    refine x_iret rfl rfl ?_
    exact hP _ Fm0
  · refine x_iload_n rfl rfl ?_
    refine x_bipush rfl ?_
    refine x_icmp_ge rfl (fun c190 => ?_) (fun c190 => ?_)
    · refine x_iconst rfl ?_
      refine x_iret rfl rfl ?_
      exact hP _ Fm0
    · exact absurd hb (by simp only [not_or]; exact ⟨fun h => c184 (by rw [Int32.lt_iff_toInt_lt] at h ⊢; have e1 : (14 : Int32).toInt = 14 := rfl; have e0 : (0 : Int32).toInt = 0 := rfl; omega), c190⟩)
set_option maxRecDepth 20000 in
theorem fm_count_bad {w : Int32} (hb : w < 0 ∨ 17 ≤ w) (hP : PM P (-1)) : Ex (d + 2) mi278 0 (entL [.ref 74, .int w] 2) [] (LY ++ []) VI ZL (vr ZR) 0 0 P := by
  have h2 : w.toInt < 0 ∨ 16 < w.toInt := by
    rcases hb with h | h
    · rw [Int32.lt_iff_toInt_lt] at h; exact Or.inl h
    · rw [Int32.le_iff_toInt_le] at h; have e3 : (17 : Int32).toInt = 17 := rfl; right; omega
  refine x_iload_n rfl rfl ?_
  refine x_swOut (tgt := 193) rfl h2 (by decide) ?_
  refine x_iconst rfl ?_
  refine x_iret rfl rfl ?_
  exact hP _
set_option maxRecDepth 20000 in
theorem fx_were_bad {q i p : Int32} (hd : hasF 4 q = 0) (hP : PX P (-1)) : Ex (d + 7) mi135 0 (entL [.ref 0, .int q, .int i, .int p] 4) [] (LY ++ []) VIm ZL (vr ZR) 0 0 P := by
  refine x_iload_n rfl rfl ?_
  refine x_callS (M' := mi150) (As := [_]) (bc1 := 0) (bs1 := 0) (bc2 := 0) (bs2 := 0) rfl rfl rfl rfl ok150 rfl rfl rfl rfl rfl rfl ?_
  refine s_isDay ?_
  refine x_if_ne rfl (fun c4 => ?_) (fun c4 => ?_)
  · exact absurd hd c4
  refine x_iconst rfl ?_
  refine x_iret rfl rfl ?_
  exact hP _ Fm0
set_option maxRecDepth 20000 in
theorem s_markIn_z {i p : Int32} (h0 : VI 3 0 = 0) (h1 : VI 67 4 = 1) (hP : P (some (.int (-1))) (LY ++ []) VI ZL (vr ZR)) : Ex (d + 2) mi65 0 (entL [.ref 67, .int i, .int p] 3) [] (LY ++ []) VI ZL (vr ZR) 0 0 P := by
  by_cases hi : i = 0
  · subst hi
    refine x_iload_n rfl rfl ?_
    refine x_if_lt rfl (fun c1 => ?_) (fun c1 => ?_)
    · exact absurd c1 (by decide)
    refine x_iload_n rfl rfl ?_
    refine x_aload_n rfl rfl ?_
    refine x_getE rfl rfl rfl (h1) ?_
    refine x_icmp_ge rfl (fun c9 => ?_) (fun c9 => ?_)
    · exact absurd c9 (by decide)
    refine x_aload_n rfl rfl ?_
    refine x_getR (u := .ref _) rfl rfl rfl rfl ?_
    refine x_aload_n rfl rfl ?_
    refine x_getR (u := .ref _) rfl rfl rfl rfl ?_
    refine x_iload_n rfl rfl ?_
    refine x_ialN (j := 0) rfl rfl (rfl) (by omega) ?_
    refine x_iload_n rfl rfl ?_
    refine x_callV (M' := mi104) (As := [_, _]) (bc1 := 0) (bs1 := 0) (bc2 := 0) (bs2 := 0) rfl rfl rfl rfl ok104 rfl rfl (by decide) rfl rfl rfl rfl rfl rfl ?_
    refine s_markInRow_out (by rw [h0, hasF_z]) ?_
    refine x_goto rfl ?_
    refine x_iret rfl rfl ?_
    exact hP
  · refine x_iload_n rfl rfl ?_
    refine x_if_lt rfl (fun c1 => ?_) (fun c1 => ?_)
    · refine x_iconst rfl ?_
      refine x_iret rfl rfl ?_
      exact hP
    · refine x_iload_n rfl rfl ?_
      refine x_aload_n rfl rfl ?_
      refine x_getE rfl rfl rfl (h1) ?_
      refine x_icmp_ge rfl (fun c9 => ?_) (fun c9 => ?_)
      · refine x_iconst rfl ?_
        refine x_iret rfl rfl ?_
        exact hP
      · exact absurd (by rw [Int32.lt_iff_toInt_lt] at c1; rw [Int32.le_iff_toInt_le] at c9; have e1 : (1 : Int32).toInt = 1 := rfl; have e0 : (0 : Int32).toInt = 0 := rfl; exact Int32.toInt_inj.mp (show i.toInt = (0 : Int32).toInt by omega)) hi
set_option maxRecDepth 20000 in
theorem fx_were_i {q i p : Int32} (hi : ¬ i = -1) (hP : PX P (-1)) : Ex (d + 7) mi135 0 (entL [.ref 0, .int q, .int i, .int p] 4) [] (LY ++ []) VIm ZL (vr ZR) 0 0 P := by
  refine x_iload_n rfl rfl ?_
  refine x_callS (M' := mi150) (As := [_]) (bc1 := 0) (bs1 := 0) (bc2 := 0) (bs2 := 0) rfl rfl rfl rfl ok150 rfl rfl rfl rfl rfl rfl ?_
  refine s_isDay ?_
  refine x_if_ne rfl (fun c4 => ?_) (fun c4 => ?_)
  · refine x_aload_n rfl rfl ?_
    refine x_getR (u := .ref _) rfl rfl rfl rfl ?_
    refine x_iload_n rfl rfl ?_
    refine x_callV (M' := mi64) (As := [_]) (bc1 := 0) (bs1 := 0) (bc2 := 0) (bs2 := 0) rfl rfl rfl rfl ok64 rfl rfl (by decide) rfl rfl rfl rfl rfl rfl ?_
    refine cx_gather (fun VI' hF h0 h1 => ?_)
    refine x_iload_n rfl rfl ?_
    refine x_iconst rfl ?_
    refine x_icmp_ne rfl (fun c19 => ?_) (fun c19 => ?_)
    rotate_left
    · exact absurd c19 hi
    refine x_aload_n rfl rfl ?_
    refine x_getR (u := .ref _) rfl rfl rfl rfl ?_
    refine x_iload_n rfl rfl ?_
    refine x_iload_n rfl rfl ?_
    refine x_callV (M' := mi65) (As := [_, _]) (bc1 := 0) (bs1 := 0) (bc2 := 0) (bs2 := 0) rfl rfl rfl rfl ok65 rfl rfl (by decide) rfl rfl rfl rfl rfl rfl ?_
    refine s_markIn_z h0 h1 ?_
    refine x_iret rfl rfl ?_
    exact hP _ hF
  · refine x_iconst rfl ?_
    refine x_iret rfl rfl ?_
    exact hP _ Fm0
set_option maxRecDepth 20000 in
theorem fm_were_bad {q i p : Int32} (hF : Fm VI) (hd : hasF 4 q = 0 ∨ ¬ i = -1) (hP : PM P (-1)) : Ex (d + 18) mi262 0 (entL [.ref 74, .int q, .int i, .int p] 6) [] (LY ++ []) VI ZL (vr ZR) 0 0 P := by
  refine x_iload_n rfl rfl ?_
  refine x_callS (M' := mi166) (As := [_]) (bc1 := 0) (bs1 := 0) (bc2 := 0) (bs2 := 0) rfl rfl rfl rfl ok166 rfl rfl rfl rfl rfl rfl ?_
  refine m_isDay ?_
  rw [dayEq]
  refine x_if_eq rfl (fun c4 => ?_) (fun c4 => ?_)
  · refine x_iconst rfl ?_
    refine x_iret rfl rfl ?_
    exact hP _
  · refine x_iload_n rfl rfl ?_
    refine x_iconst rfl ?_
    refine x_icmp_lt rfl (fun c9 => ?_) (fun c9 => ?_)
    · refine x_iconst rfl ?_
      refine x_iret rfl rfl ?_
      exact hP _
    · refine x_iload_n rfl rfl ?_
      refine x_iconst rfl ?_
      refine x_icmp_le rfl (fun c14 => ?_) (fun c14 => ?_)
      · exact absurd hd (by simp only [not_or, Decidable.not_not]; refine ⟨c4, ?_⟩; rw [Int32.lt_iff_toInt_lt] at c9; rw [Int32.le_iff_toInt_le] at c14; have e1 : (-1 : Int32).toInt = -1 := rfl; exact Int32.toInt_inj.mp (by omega))
      · refine x_aload_n rfl rfl ?_
        refine x_iload_n rfl rfl ?_
        refine x_callV (M' := mi164) (As := [_]) (bc1 := 0) (bs1 := 0) (bc2 := 0) (bs2 := 0) rfl rfl rfl rfl ok164 rfl rfl (by decide) rfl rfl rfl rfl rfl rfl ?_
        refine m_isPerson_z (hF.at (by decide) rfl) ?_
        refine x_if_ne rfl (fun c22 => ?_) (fun c22 => ?_)
        · exact absurd rfl c22
        refine x_iconst rfl ?_
        refine x_iret rfl rfl ?_
        exact hP _
set_option maxRecDepth 20000 in
theorem fx_ask_bad {q w : Int32} (hb : hasF 4 q = 0 ∨ w < 0 ∨ 2 ≤ w) (hP : PX P (-1)) : Ex (d + 7) mi136 0 (entL [.ref 0, .int q, .int w] 4) [] (LY ++ []) VIm ZL (vr ZR) 0 0 P := by
  refine x_iload_n rfl rfl ?_
  refine x_callS (M' := mi150) (As := [_]) (bc1 := 0) (bs1 := 0) (bc2 := 0) (bs2 := 0) rfl rfl rfl rfl ok150 rfl rfl rfl rfl rfl rfl ?_
  refine s_isDay ?_
  refine x_if_eq rfl (fun c4 => ?_) (fun c4 => ?_)
  · refine x_iconst rfl ?_
    refine x_iret rfl rfl ?_
    exact hP _ Fm0
  · refine x_iload_n rfl rfl ?_
    refine x_if_lt rfl (fun c8 => ?_) (fun c8 => ?_)
    · refine x_iconst rfl ?_
      refine x_iret rfl rfl ?_
      exact hP _ Fm0
    · refine x_iload_n rfl rfl ?_
      refine x_iconst rfl ?_
      refine x_icmp_le rfl (fun c13 => ?_) (fun c13 => ?_)
      · exact absurd hb (by simp only [not_or]; exact ⟨c4, c8, by rw [Int32.le_iff_toInt_le] at c13 ⊢; have e1 : (1 : Int32).toInt = 1 := rfl; have e2 : (2 : Int32).toInt = 2 := rfl; omega⟩)
      · refine x_iconst rfl ?_
        refine x_iret rfl rfl ?_
        exact hP _ Fm0
set_option maxRecDepth 20000 in
theorem fm_ask_bad {q w : Int32} (hb : hasF 4 q = 0 ∨ w < 0 ∨ 2 ≤ w) (hP : PM P (-1)) : Ex (d + 18) mi263 0 (entL [.ref 74, .int q, .int w] 9) [] (LY ++ []) VI ZL (vr ZR) 0 0 P := by
  refine x_iload_n rfl rfl ?_
  refine x_callS (M' := mi166) (As := [_]) (bc1 := 0) (bs1 := 0) (bc2 := 0) (bs2 := 0) rfl rfl rfl rfl ok166 rfl rfl rfl rfl rfl rfl ?_
  refine m_isDay ?_
  rw [dayEq]
  refine x_if_eq rfl (fun c4 => ?_) (fun c4 => ?_)
  · refine x_iconst rfl ?_
    refine x_iret rfl rfl ?_
    exact hP _
  · refine x_iload_n rfl rfl ?_
    refine x_iconst rfl ?_
    refine x_iconst rfl ?_
    refine x_callS (M' := mi152) (As := [_, _, _]) (bc1 := 0) (bs1 := 0) (bc2 := 0) (bs2 := 0) rfl rfl rfl rfl ok152 rfl rfl rfl rfl rfl rfl ?_
    refine m_lies ?_
    rw [lies01]
    refine x_if_ne rfl (fun c13 => ?_) (fun c13 => ?_)
    · exact absurd hb (by simp only [not_or]; refine ⟨c4, ?_⟩; by_cases h : w < 0 ∨ 2 ≤ w; exact absurd (by simp [b1, h]) c13; simpa only [not_or] using h)
    · refine x_iconst rfl ?_
      refine x_iret rfl rfl ?_
      exact hP _
set_option maxRecDepth 20000 in
theorem fx_chatter_bad {q p : Int32} (hb : hasF 4 q = 0 ∨ ¬ p = -1) (hP : PX P (-1)) : Ex (d + 7) mi137 0 (entL [.ref 0, .int q, .int p] 4) [] (LY ++ []) VIm ZL (vr ZR) 0 0 P := by
  refine x_iload_n rfl rfl ?_
  refine x_callS (M' := mi150) (As := [_]) (bc1 := 0) (bs1 := 0) (bc2 := 0) (bs2 := 0) rfl rfl rfl rfl ok150 rfl rfl rfl rfl rfl rfl ?_
  refine s_isDay ?_
  refine x_if_eq rfl (fun c4 => ?_) (fun c4 => ?_)
  · refine x_iconst rfl ?_
    refine x_iret rfl rfl ?_
    exact hP _ Fm0
  · refine x_iload_n rfl rfl ?_
    refine x_iconst rfl ?_
    refine x_icmp_eq rfl (fun c9 => ?_) (fun c9 => ?_)
    · exact absurd hb (by simp only [not_or, Decidable.not_not]; exact ⟨c4, c9⟩)
    · refine x_aload_n rfl rfl ?_
      refine x_getR (u := .ref _) rfl rfl rfl rfl ?_
      refine x_iload_n rfl rfl ?_
      refine x_callV (M' := mi95) (As := [_]) (bc1 := 0) (bs1 := 0) (bc2 := 0) (bs2 := 0) rfl rfl rfl rfl ok95 rfl rfl (by decide) rfl rfl rfl rfl rfl rfl ?_
      refine s_hasPerson_z rfl ?_
      refine x_if_ne rfl (fun c20 => ?_) (fun c20 => ?_)
      · exact absurd rfl c20
      refine x_iconst rfl ?_
      refine x_iret rfl rfl ?_
      exact hP _ Fm0
set_option maxRecDepth 20000 in
theorem fm_chatter_bad {q p : Int32} (hF : Fm VI) (hb : hasF 4 q = 0 ∨ ¬ p = -1) (hP : PM P (-1)) : Ex (d + 18) mi264 0 (entL [.ref 74, .int q, .int p] 9) [] (LY ++ []) VI ZL (vr ZR) 0 0 P := by
  refine x_iload_n rfl rfl ?_
  refine x_callS (M' := mi166) (As := [_]) (bc1 := 0) (bs1 := 0) (bc2 := 0) (bs2 := 0) rfl rfl rfl rfl ok166 rfl rfl rfl rfl rfl rfl ?_
  refine m_isDay ?_
  rw [dayEq]
  refine x_if_eq rfl (fun c4 => ?_) (fun c4 => ?_)
  · refine x_iconst rfl ?_
    refine x_iret rfl rfl ?_
    exact hP _
  · refine x_iload_n rfl rfl ?_
    refine x_iconst rfl ?_
    refine x_icmp_eq rfl (fun c9 => ?_) (fun c9 => ?_)
    · exact absurd hb (by simp only [not_or, Decidable.not_not]; exact ⟨c4, c9⟩)
    · refine x_aload_n rfl rfl ?_
      refine x_iload_n rfl rfl ?_
      refine x_callV (M' := mi164) (As := [_]) (bc1 := 0) (bs1 := 0) (bc2 := 0) (bs2 := 0) rfl rfl rfl rfl ok164 rfl rfl (by decide) rfl rfl rfl rfl rfl rfl ?_
      refine m_isPerson_z (hF.at (by decide) rfl) ?_
      refine x_if_ne rfl (fun c17 => ?_) (fun c17 => ?_)
      · exact absurd rfl c17
      refine x_iconst rfl ?_
      refine x_iret rfl rfl ?_
      exact hP _
end Fresh5
