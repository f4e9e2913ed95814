/-! ===== a fresh object: the model's first calls ===== -/
section FreshM
variable {d : Nat} {VI : VIT} {P : Post}
set_option maxRecDepth 20000 in
theorem fm_of {p w : Int32} (hF : Fm VI) (hP : PM P (-1)) : Ex (d + 2) mi174 0 (entL [.ref 74, .int p, .int w] 3) [] (LY ++ []) VI ZL (vr ZR) 0 0 P := by
  refine x_aload_n rfl rfl ?_
  refine x_iload_n rfl rfl ?_
  refine x_callV (M' := mi164) (As := [_]) (bc1 := 0) (bs1 := 0) (bc2 := 0) (bs2 := 0) rfl rfl rfl rfl ok164 rfl rfl (by decide) rfl rfl rfl rfl rfl rfl ?_
  refine m_isPerson_z (hF.at (by decide) rfl) ?_
  refine x_if_ne rfl (fun c5 => ?_) (fun c5 => ?_)
  · exact absurd rfl c5
  refine x_iconst rfl ?_
  refine x_iret rfl rfl ?_
  exact hP _
set_option maxRecDepth 20000 in
theorem fm_at {p w : Int32} (hF : Fm VI) (hP : PM P (-1)) : Ex (d + 4) mi183 0 (entL [.ref 74, .int p, .int w] 3) [] (LY ++ []) VI ZL (vr ZR) 0 0 P := by
  refine x_aload_n rfl rfl ?_
  refine x_iload_n rfl rfl ?_
  refine x_callV (M' := mi165) (As := [_]) (bc1 := 0) (bs1 := 0) (bc2 := 0) (bs2 := 0) rfl rfl rfl rfl ok165 rfl rfl (by decide) rfl rfl rfl rfl rfl rfl ?_
  refine m_isRoll_z (hF.at (by decide) rfl) ?_
  refine x_if_ne rfl (fun c5 => ?_) (fun c5 => ?_)
  · exact absurd rfl c5
  refine x_iconst rfl ?_
  refine x_iret rfl rfl ?_
  exact hP _
set_option maxRecDepth 20000 in
theorem fm_grain (hF : Fm VI) (hP : PM P 0) : Ex d mi187 0 (entL [.ref 74] 1) [] (LY ++ []) VI ZL (vr ZR) 0 0 P := by
  refine x_aload_n rfl rfl ?_
  refine x_getE rfl rfl rfl ((hF.at (by decide) rfl : VI 74 6 = 0)) ?_
  refine x_iret rfl rfl ?_
  exact hP _
set_option maxRecDepth 20000 in
theorem fm_fault (hF : Fm VI) (hP : PM P (-1)) : Ex d mi214 0 (entL [.ref 74] 1) [] (LY ++ []) VI ZL (vr ZR) 0 0 P := by
  refine x_aload_n rfl rfl ?_
  refine x_getE rfl rfl rfl ((hF.at (by decide) rfl : VI 74 14 = -1)) ?_
  refine x_iret rfl rfl ?_
  exact hP _
set_option maxRecDepth 20000 in
theorem fm_stopped (hF : Fm VI) (hP : PM P (-1)) : Ex d mi268 0 (entL [.ref 74] 1) [] (LY ++ []) VI ZL (vr ZR) 0 0 P := by
  refine x_aload_n rfl rfl ?_
  refine x_getE rfl rfl rfl ((hF.at (by decide) rfl : VI 74 42 = -1)) ?_
  refine x_iret rfl rfl ?_
  exact hP _
set_option maxRecDepth 20000 in
theorem fm_status (hF : Fm VI) (hP : PM P 0) : Ex d mi279 0 (entL [.ref 74] 1) [] (LY ++ []) VI ZL (vr ZR) 0 0 P := by
  refine x_aload_n rfl rfl ?_
  refine x_getE rfl rfl rfl ((hF.at (by decide) rfl : VI 74 0 = 0)) ?_
  refine x_iret rfl rfl ?_
  exact hP _
set_option maxRecDepth 20000 in
theorem fm_row (hF : Fm VI) (hP : PM P (-6)) : Ex (d + 2) mi186 0 (entL [.ref 74] 6) [] (LY ++ []) VI ZL (vr ZR) 0 0 P := by
  refine x_aload_n rfl rfl ?_
  refine x_getE rfl rfl rfl ((hF.at (by decide) rfl : VI 74 13 = 0)) ?_
  refine x_istore_n (ls' := [_, _, _, _, _, _]) rfl rfl rfl ?_
  refine x_aload_n rfl rfl ?_
  refine x_iconst rfl ?_
  refine x_putI rfl rfl rfl rfl ?_
  refine x_iload_n rfl rfl ?_
  refine x_if_ne rfl (fun c11 => ?_) (fun c11 => ?_)
  · exact absurd rfl c11
  refine x_aload_n rfl rfl ?_
  refine x_bipush rfl ?_
  refine x_callV (M' := mi154) (As := [_]) (bc1 := 0) (bs1 := 0) (bc2 := 0) (bs2 := 0) rfl rfl rfl rfl ok154 rfl rfl (by decide) rfl rfl rfl rfl rfl rfl ?_
  refine m_refuses 6 rfl (by decide) ?_
  refine x_iret rfl rfl ?_
  exact hP _
set_option maxRecDepth 20000 in
theorem fm_end {n : Int32} (hF : Fm VI) (hP : PM P (if n < 0 then -1 else if n ≤ 0 then n else -1)) : Ex (d + 1) mi189 0 (entL [.ref 74, .int n] 2) [] (LY ++ []) VI ZL (vr ZR) 0 0 P := by
  have hl : liesF n 0 0 = decide (¬ n < 0 ∧ n ≤ 0) := by simp [liesF]
  by_cases hk : ¬ n < 0 ∧ n ≤ 0
  · refine x_iload_n rfl rfl ?_
    refine x_iconst rfl ?_
    refine x_aload_n rfl rfl ?_
    refine x_getE rfl rfl rfl ((hF.at (by decide) rfl : VI 74 13 = 0)) ?_
    refine x_callS (M' := mi152) (As := [_, _, _]) (bc1 := 0) (bs1 := 0) (bc2 := 0) (bs2 := 0) rfl rfl rfl rfl ok152 rfl rfl rfl rfl rfl rfl ?_
    refine m_lies ?_
    rw [hl]
    refine x_if_ne rfl (fun c9 => ?_) (fun c9 => ?_)
    rotate_left
    · exact absurd c9 (by simp [b1, hk])
    refine x_aload_n rfl rfl ?_
    refine x_iload_n rfl rfl ?_
    refine x_putI rfl rfl rfl rfl ?_
    refine x_iload_n rfl rfl ?_
    refine x_iret rfl rfl ?_
    exact hP.c (by rw [if_neg hk.1, if_pos hk.2])
  · refine x_iload_n rfl rfl ?_
    refine x_iconst rfl ?_
    refine x_aload_n rfl rfl ?_
    refine x_getE rfl rfl rfl ((hF.at (by decide) rfl : VI 74 13 = 0)) ?_
    refine x_callS (M' := mi152) (As := [_, _, _]) (bc1 := 0) (bs1 := 0) (bc2 := 0) (bs2 := 0) rfl rfl rfl rfl ok152 rfl rfl rfl rfl rfl rfl ?_
    refine m_lies ?_
    rw [hl]
    refine x_if_ne rfl (fun c9 => ?_) (fun c9 => ?_)
    · exact absurd (by simp only [b1, hk]; rfl) c9
    refine x_iconst rfl ?_
    refine x_iret rfl rfl ?_
    refine hP.c ?_
    by_cases h1 : n < 0
    · rw [if_pos h1]
    · rw [if_neg h1, if_neg (fun h => hk ⟨h1, h⟩)]
set_option maxRecDepth 20000 in
theorem fm_force {l : Int32} (hF : Fm VI) (hP : PM P (if l = -1 then -1 else -2)) : Ex (d + 1) mi215 0 (entL [.ref 74, .int l] 3) [] (LY ++ []) VI ZL (vr ZR) 0 0 P := by
  have hl : liesF l (-1) (VI 76 96 - 1) = decide (l = -1) := by
    rw [show VI 76 96 = 0 from hF.at (by decide) rfl]
    simp only [liesF, Int32.lt_iff_toInt_lt]
    congr 1
    rw [eq_iff_iff, ← Int32.toInt_inj]
    have e2 : (0 - 1 : Int32).toInt = -1 := rfl
    have e1 : (-1 : Int32).toInt = -1 := rfl
    omega
  refine x_iload_n rfl rfl ?_
  refine x_iconst rfl ?_
  refine x_aload_n rfl rfl ?_
  refine x_getR (u := .ref _) rfl rfl rfl rfl ?_
  refine x_bipush rfl ?_
  refine x_ialN (j := 96) rfl rfl (rfl) (by omega) ?_
  refine x_iconst rfl ?_
  refine x_isub rfl ?_
  refine x_callS (M' := mi152) (As := [_, _, _]) (bc1 := 0) (bs1 := 0) (bc2 := 0) (bs2 := 0) rfl rfl rfl rfl ok152 rfl rfl rfl rfl rfl rfl ?_
  refine m_lies ?_
  rw [hl]
  refine x_if_ne rfl (fun c14 => ?_) (fun c14 => ?_)
  · refine x_aload_n rfl rfl ?_
    refine x_getR (u := .ref _) rfl rfl rfl rfl ?_
    refine x_bipush rfl ?_
    refine x_ialE (j := 97) rfl rfl (rfl) (by omega) ((hF.at (by decide) rfl : VI 76 97 = -1)) ?_
    refine x_istore_n (ls' := [_, _, _]) rfl rfl rfl ?_
    refine x_aload_n rfl rfl ?_
    refine x_getR (u := .ref _) rfl rfl rfl rfl ?_
    refine x_bipush rfl ?_
    refine x_iload_n rfl rfl ?_
    refine x_iasN (j := 97) rfl rfl (rfl) (by omega) ?_
    refine x_aload_n rfl rfl ?_
    refine x_iload_n rfl rfl ?_
    refine x_callV (M' := mi155) (As := [_]) (bc1 := 0) (bs1 := 0) (bc2 := 0) (bs2 := 0) rfl rfl rfl rfl ok155 rfl rfl (by decide) rfl rfl rfl rfl rfl rfl ?_
    refine m_good ?_
    refine x_iret rfl rfl ?_
    refine hP.c ?_
    by_cases h1 : l = -1 <;> simp_all [b1]
  · refine x_aload_n rfl rfl ?_
    refine x_bipush rfl ?_
    refine x_callV (M' := mi154) (As := [_]) (bc1 := 0) (bs1 := 0) (bc2 := 0) (bs2 := 0) rfl rfl rfl rfl ok154 rfl rfl (by decide) rfl rfl rfl rfl rfl rfl ?_
    refine m_refuses 2 rfl (by decide) ?_
    refine x_iret rfl rfl ?_
    refine hP.c ?_
    by_cases h1 : l = -1 <;> simp_all [b1]
set_option maxRecDepth 20000 in
theorem fm_asks {p q e w : Int32} (hF : Fm VI) (hP : PM P (-1)) : Ex (d + 16) mi231 0 (entL [.ref 74, .int p, .int q, .int e, .int w] 7) [] (LY ++ []) VI ZL (vr ZR) 0 0 P := by
  refine x_iload_n rfl rfl ?_
  refine x_iload_n rfl rfl ?_
  refine x_icmp_eq rfl (fun c2 => ?_) (fun c2 => ?_)
  · refine x_iconst rfl ?_
    refine x_iret rfl rfl ?_
    exact hP _
  · refine x_aload_n rfl rfl ?_
    refine x_iload_n rfl rfl ?_
    refine x_callV (M' := mi164) (As := [_]) (bc1 := 0) (bs1 := 0) (bc2 := 0) (bs2 := 0) rfl rfl rfl rfl ok164 rfl rfl (by decide) rfl rfl rfl rfl rfl rfl ?_
    refine m_isPerson_z (hF.at (by decide) rfl) ?_
    refine x_if_eq rfl (fun c10 => ?_) (fun c10 => ?_)
    rotate_left
    · exact absurd rfl c10
    refine x_iconst rfl ?_
    refine x_iret rfl rfl ?_
    exact hP _
set_option maxRecDepth 20000 in
theorem fm_soonest {p w : Int32} (hF : Fm VI) (hP : PM P (-1)) : Ex (d + 19) mi251 0 (entL [.ref 74, .int p, .int w] 5) [] (LY ++ []) VI ZL (vr ZR) 0 0 P := by
  refine x_aload_n rfl rfl ?_
  refine x_iload_n rfl rfl ?_
  refine x_callV (M' := mi165) (As := [_]) (bc1 := 0) (bs1 := 0) (bc2 := 0) (bs2 := 0) rfl rfl rfl rfl ok165 rfl rfl (by decide) rfl rfl rfl rfl rfl rfl ?_
  refine m_isRoll_z (hF.at (by decide) rfl) ?_
  refine x_if_eq rfl (fun c5 => ?_) (fun c5 => ?_)
  rotate_left
  · exact absurd rfl c5
  refine x_iconst rfl ?_
  refine x_iret rfl rfl ?_
  exact hP _
set_option maxRecDepth 20000 in
theorem fm_ends {p : Int32} (hF : Fm VI) (hP : PM P (-1)) : Ex (d + 19) mi252 0 (entL [.ref 74, .int p] 5) [] (LY ++ []) VI ZL (vr ZR) 0 0 P := by
  refine x_aload_n rfl rfl ?_
  refine x_iload_n rfl rfl ?_
  refine x_callV (M' := mi165) (As := [_]) (bc1 := 0) (bs1 := 0) (bc2 := 0) (bs2 := 0) rfl rfl rfl rfl ok165 rfl rfl (by decide) rfl rfl rfl rfl rfl rfl ?_
  refine m_isRoll_z (hF.at (by decide) rfl) ?_
  refine x_if_ne rfl (fun c5 => ?_) (fun c5 => ?_)
  · exact absurd rfl c5
  refine x_iconst rfl ?_
  refine x_iret rfl rfl ?_
  exact hP _
set_option maxRecDepth 20000 in
theorem fm_house {p w : Int32} (hF : Fm VI) (hP : PM P (-1)) : Ex (d + 18) mi253 0 (entL [.ref 74, .int p, .int w] 5) [] (LY ++ []) VI ZL (vr ZR) 0 0 P := by
  refine x_aload_n rfl rfl ?_
  refine x_iload_n rfl rfl ?_
  refine x_callV (M' := mi165) (As := [_]) (bc1 := 0) (bs1 := 0) (bc2 := 0) (bs2 := 0) rfl rfl rfl rfl ok165 rfl rfl (by decide) rfl rfl rfl rfl rfl rfl ?_
  refine m_isRoll_z (hF.at (by decide) rfl) ?_
  refine x_if_eq rfl (fun c5 => ?_) (fun c5 => ?_)
  rotate_left
  · exact absurd rfl c5
  refine x_iconst rfl ?_
  refine x_iret rfl rfl ?_
  exact hP _
set_option maxRecDepth 20000 in
theorem fm_chance {p w : Int32} (hF : Fm VI) (hP : PM P (-1)) : Ex (d + 3) mi267 0 (entL [.ref 74, .int p, .int w] 9) [] (LY ++ []) VI ZL (vr ZR) 0 0 P := by
  refine x_aload_n rfl rfl ?_
  refine x_iload_n rfl rfl ?_
  refine x_callV (M' := mi165) (As := [_]) (bc1 := 0) (bs1 := 0) (bc2 := 0) (bs2 := 0) rfl rfl rfl rfl ok165 rfl rfl (by decide) rfl rfl rfl rfl rfl rfl ?_
  refine m_isRoll_z (hF.at (by decide) rfl) ?_
  refine x_if_eq rfl (fun c5 => ?_) (fun c5 => ?_)
  rotate_left
  · exact absurd rfl c5
  refine x_iconst rfl ?_
  refine x_iret rfl rfl ?_
  exact hP _
set_option maxRecDepth 20000 in
theorem fm_forget (hF : Fm VI) (hP : PM P 0) : Ex d mi259 0 (entL [.ref 74] 2) [] (LY ++ []) VI ZL (vr ZR) 0 0 P := by
  refine x_aload_n rfl rfl ?_
  refine x_getR (u := .ref _) rfl rfl rfl rfl ?_
  refine x_bipush rfl ?_
  refine x_ialE (j := 95) rfl rfl (rfl) (by omega) ((hF.at (by decide) rfl : VI 76 95 = 0)) ?_
  refine x_istore_n (ls' := [_, _]) rfl rfl rfl ?_
  refine x_aload_n rfl rfl ?_
  refine x_getR (u := .ref _) rfl rfl rfl rfl ?_
  refine x_bipush rfl ?_
  refine x_iconst rfl ?_
  refine x_iasN (j := 95) rfl rfl (rfl) (by omega) ?_
  refine x_iload_n rfl rfl ?_
  refine x_iret rfl rfl ?_
  exact hP _
set_option maxRecDepth 20000 in
theorem fm_roll {q o : Int32} (hF : Fm VI) (hP : PM P (-1)) : Ex (d + 2) mi175 0 (entL [.ref 74, .int q, .int o] 4) [] (LY ++ []) VI ZL (vr ZR) 0 0 P := by
  have hl : liesF o 1 ((1 : Int32) <<< (VI 76 93 &&& 31) - 1) = false := by
    rw [show VI 76 93 = 0 from hF.at (by decide) rfl]
    simp only [liesF, Int32.lt_iff_toInt_lt, decide_eq_false_iff_not, not_and]
    have e2 : ((1 : Int32) <<< (0 &&& 31) - 1).toInt = 0 := rfl
    have e1 : (1 : Int32).toInt = 1 := rfl
    omega
  refine x_iload_n rfl rfl ?_
  refine x_callS (M' := mi166) (As := [_]) (bc1 := 0) (bs1 := 0) (bc2 := 0) (bs2 := 0) rfl rfl rfl rfl ok166 rfl rfl rfl rfl rfl rfl ?_
  refine m_isDay ?_
  refine x_if_eq rfl (fun c4 => ?_) (fun c4 => ?_)
  · refine x_aload_n rfl rfl ?_
    refine x_iconst rfl ?_
    refine x_callV (M' := mi154) (As := [_]) (bc1 := 0) (bs1 := 0) (bc2 := 0) (bs2 := 0) rfl rfl rfl rfl ok154 rfl rfl (by decide) rfl rfl rfl rfl rfl rfl ?_
    refine m_refuses 1 rfl (by decide) ?_
    refine x_iret rfl rfl ?_
    exact hP _
  · refine x_iload_n rfl rfl ?_
    refine x_iconst rfl ?_
    refine x_aload_n rfl rfl ?_
    refine x_callV (M' := mi169) (As := []) (bc1 := 0) (bs1 := 0) (bc2 := 0) (bs2 := 0) rfl rfl rfl rfl ok169 rfl rfl (by decide) rfl rfl rfl rfl rfl rfl ?_
    refine m_allPeople ?_
    refine x_callS (M' := mi152) (As := [_, _, _]) (bc1 := 0) (bs1 := 0) (bc2 := 0) (bs2 := 0) rfl rfl rfl rfl ok152 rfl rfl rfl rfl rfl rfl ?_
    refine m_lies ?_
    rw [hl]
    refine x_if_ne rfl (fun c16 => ?_) (fun c16 => ?_)
    · exact absurd rfl c16
    refine x_aload_n rfl rfl ?_
    refine x_iconst rfl ?_
    refine x_callV (M' := mi154) (As := [_]) (bc1 := 0) (bs1 := 0) (bc2 := 0) (bs2 := 0) rfl rfl rfl rfl ok154 rfl rfl (by decide) rfl rfl rfl rfl rfl rfl ?_
    refine m_refuses 1 rfl (by decide) ?_
    refine x_iret rfl rfl ?_
    exact hP _
set_option maxRecDepth 20000 in
theorem dayEq (e : Int32) : b1 (liesF e 0 3) = hasF 4 e := by
  unfold hasF liesF b1
  by_cases h1 : e < 0
  · simp [h1]
  · have h3 : (3 < e) ↔ 4 ≤ e := by
      rw [Int32.lt_iff_toInt_lt, Int32.le_iff_toInt_le]
      have e3 : (3 : Int32).toInt = 3 := rfl
      have e4 : (4 : Int32).toInt = 4 := rfl
      omega
    by_cases h4 : 4 ≤ e <;> simp [h1, h3, h4]
set_option maxRecDepth 20000 in
theorem fm_told {p q e : Int32} (hF : Fm VI) (hP : PM P (if hasF 4 e = 0 ∨ p = q then -1 else -2)) : Ex (d + 2) mi258 0 (entL [.ref 74, .int p, .int q, .int e] 5) [] (LY ++ []) VI ZL (vr ZR) 0 0 P := by
  refine x_iload_n rfl rfl ?_
  refine x_iload_n rfl rfl ?_
  refine x_icmp_eq rfl (fun c2 => ?_) (fun c2 => ?_)
  · refine x_aload_n rfl rfl ?_
    refine x_iconst rfl ?_
    refine x_callV (M' := mi154) (As := [_]) (bc1 := 0) (bs1 := 0) (bc2 := 0) (bs2 := 0) rfl rfl rfl rfl ok154 rfl rfl (by decide) rfl rfl rfl rfl rfl rfl ?_
    refine m_refuses 1 rfl (by decide) ?_
    refine x_iret rfl rfl ?_
    refine hP.c ?_
    first | (rw [if_pos (Or.inr c2)]; done) | (rw [if_pos (Or.inl c9)]; done) | (rw [if_neg]; simp only [not_or]; exact ⟨c9, c2⟩)
  · refine x_iload_n rfl rfl ?_
    refine x_callS (M' := mi166) (As := [_]) (bc1 := 0) (bs1 := 0) (bc2 := 0) (bs2 := 0) rfl rfl rfl rfl ok166 rfl rfl rfl rfl rfl rfl ?_
    refine m_isDay ?_
    rw [dayEq]
    refine x_if_ne rfl (fun c9 => ?_) (fun c9 => ?_)
    · refine x_aload_n rfl rfl ?_
      refine x_iload_n rfl rfl ?_
      refine x_callV (M' := mi164) (As := [_]) (bc1 := 0) (bs1 := 0) (bc2 := 0) (bs2 := 0) rfl rfl rfl rfl ok164 rfl rfl (by decide) rfl rfl rfl rfl rfl rfl ?_
      refine m_isPerson_z (hF.at (by decide) rfl) ?_
      refine x_if_eq rfl (fun c23 => ?_) (fun c23 => ?_)
      rotate_left
      · exact absurd rfl c23
      refine x_aload_n rfl rfl ?_
      refine x_bipush rfl ?_
      refine x_callV (M' := mi154) (As := [_]) (bc1 := 0) (bs1 := 0) (bc2 := 0) (bs2 := 0) rfl rfl rfl rfl ok154 rfl rfl (by decide) rfl rfl rfl rfl rfl rfl ?_
      refine m_refuses 2 rfl (by decide) ?_
      refine x_iret rfl rfl ?_
      refine hP.c ?_
      first | (rw [if_pos (Or.inr c2)]; done) | (rw [if_pos (Or.inl c9)]; done) | (rw [if_neg]; simp only [not_or]; exact ⟨c9, c2⟩)
    · refine x_aload_n rfl rfl ?_
      refine x_iconst rfl ?_
      refine x_callV (M' := mi154) (As := [_]) (bc1 := 0) (bs1 := 0) (bc2 := 0) (bs2 := 0) rfl rfl rfl rfl ok154 rfl rfl (by decide) rfl rfl rfl rfl rfl rfl ?_
      refine m_refuses 1 rfl (by decide) ?_
      refine x_iret rfl rfl ?_
      refine hP.c ?_
      first | (rw [if_pos (Or.inr c2)]; done) | (rw [if_pos (Or.inl c9)]; done) | (rw [if_neg]; simp only [not_or]; exact ⟨c9, c2⟩)
set_option maxRecDepth 20000 in
theorem fm_years {s n : Int32} (hF : Fm VI) (hP : PM P (if s < 0 ∨ 1000000 < s ∨ n < 1 ∨ 100 < n then -1 else -3)) : Ex (d + 18) mi275 0 (entL [.ref 74, .int s, .int n] 8) [] (LY ++ []) VI ZL (vr ZR) 0 0 P := by
  refine x_iload_n rfl rfl ?_
  refine x_iconst rfl ?_
  refine x_ldc rfl ?_
  refine x_callS (M' := mi152) (As := [_, _, _]) (bc1 := 0) (bs1 := 0) (bc2 := 0) (bs2 := 0) rfl rfl rfl rfl ok152 rfl rfl rfl rfl rfl rfl ?_
  refine m_lies ?_
  refine x_if_eq rfl (fun c7 => ?_) (fun c7 => ?_)
  · refine x_aload_n rfl rfl ?_
    refine x_iconst rfl ?_
    refine x_callV (M' := mi154) (As := [_]) (bc1 := 0) (bs1 := 0) (bc2 := 0) (bs2 := 0) rfl rfl rfl rfl ok154 rfl rfl (by decide) rfl rfl rfl rfl rfl rfl ?_
    refine m_refuses 1 rfl (by decide) ?_
    refine x_iret rfl rfl ?_
    refine hP.c ?_
    revert c7
    try revert c17
    by_cases h1 : s < 0 <;> by_cases h2 : 1000000 < s <;> by_cases h3 : n < 1 <;> by_cases h4 : 100 < n <;> simp [liesF, b1, h1, h2, h3, h4]
  · refine x_iload_n rfl rfl ?_
    refine x_iconst rfl ?_
    refine x_bipush rfl ?_
    refine x_callS (M' := mi152) (As := [_, _, _]) (bc1 := 0) (bs1 := 0) (bc2 := 0) (bs2 := 0) rfl rfl rfl rfl ok152 rfl rfl rfl rfl rfl rfl ?_
    refine m_lies ?_
    refine x_if_ne rfl (fun c17 => ?_) (fun c17 => ?_)
    · refine x_aload_n rfl rfl ?_
      refine x_getR (u := .ref _) rfl rfl rfl rfl ?_
      refine x_bipush rfl ?_
      refine x_ialE (j := 93) rfl rfl (rfl) (by omega) ((hF.at (by decide) rfl : VI 76 93 = 0)) ?_
      refine x_if_ne rfl (fun c33 => ?_) (fun c33 => ?_)
      · exact absurd rfl c33
      refine x_aload_n rfl rfl ?_
      refine x_bipush rfl ?_
      refine x_callV (M' := mi154) (As := [_]) (bc1 := 0) (bs1 := 0) (bc2 := 0) (bs2 := 0) rfl rfl rfl rfl ok154 rfl rfl (by decide) rfl rfl rfl rfl rfl rfl ?_
      refine m_refuses 3 rfl (by decide) ?_
      refine x_iret rfl rfl ?_
      refine hP.c ?_
      revert c7
      try revert c17
      by_cases h1 : s < 0 <;> by_cases h2 : 1000000 < s <;> by_cases h3 : n < 1 <;> by_cases h4 : 100 < n <;> simp [liesF, b1, h1, h2, h3, h4]
    · refine x_aload_n rfl rfl ?_
      refine x_iconst rfl ?_
      refine x_callV (M' := mi154) (As := [_]) (bc1 := 0) (bs1 := 0) (bc2 := 0) (bs2 := 0) rfl rfl rfl rfl ok154 rfl rfl (by decide) rfl rfl rfl rfl rfl rfl ?_
      refine m_refuses 1 rfl (by decide) ?_
      refine x_iret rfl rfl ?_
      refine hP.c ?_
      revert c7
      try revert c17
      by_cases h1 : s < 0 <;> by_cases h2 : 1000000 < s <;> by_cases h3 : n < 1 <;> by_cases h4 : 100 < n <;> simp [liesF, b1, h1, h2, h3, h4]
set_option maxRecDepth 20000 in
theorem fm_back {k : Int32} (hF : Fm VI) (hP : PM P (if k < 0 ∨ 2 ≤ k then -1 else -2)) : Ex (d + 2) mi163 0 (entL [.ref 74, .int k] 3) [] (LY ++ []) VI ZL (vr ZR) 0 0 P := by
  have hl : liesF k 0 1 = decide (¬ (k < 0 ∨ 2 ≤ k)) := by
    have h : (1 < k) ↔ 2 ≤ k := by
      rw [Int32.lt_iff_toInt_lt, Int32.le_iff_toInt_le]
      have e1 : (1 : Int32).toInt = 1 := rfl
      have e2 : (2 : Int32).toInt = 2 := rfl
      omega
    simp only [liesF, not_or, h]
  by_cases hk : k < 0 ∨ 2 ≤ k
  · refine x_iload_n rfl rfl ?_
    refine x_iconst rfl ?_
    refine x_iconst rfl ?_
    refine x_callS (M' := mi152) (As := [_, _, _]) (bc1 := 0) (bs1 := 0) (bc2 := 0) (bs2 := 0) rfl rfl rfl rfl ok152 rfl rfl rfl rfl rfl rfl ?_
    refine m_lies ?_
    rw [hl]
    refine x_if_ne rfl (fun c6 => ?_) (fun c6 => ?_)
    · exact absurd (by simp [b1, hk]) c6
    refine x_aload_n rfl rfl ?_
    refine x_iconst rfl ?_
    refine x_callV (M' := mi154) (As := [_]) (bc1 := 0) (bs1 := 0) (bc2 := 0) (bs2 := 0) rfl rfl rfl rfl ok154 rfl rfl (by decide) rfl rfl rfl rfl rfl rfl ?_
    refine m_refuses 1 rfl (by decide) ?_
    refine x_iret rfl rfl ?_
    exact hP.c (by rw [if_pos hk])
  · have h01 : k = 0 ∨ k = 1 := by simp only [not_or] at hk; exact two01 hk.1 (Int32.not_le.mp hk.2)
    obtain ⟨j, hj, rfl⟩ : ∃ j : Nat, j < 2 ∧ k = nI j := by
      rcases h01 with h | h
      · exact ⟨0, by omega, h⟩
      · exact ⟨1, by omega, h⟩
    refine x_iload_n rfl rfl ?_
    refine x_iconst rfl ?_
    refine x_iconst rfl ?_
    refine x_callS (M' := mi152) (As := [_, _, _]) (bc1 := 0) (bs1 := 0) (bc2 := 0) (bs2 := 0) rfl rfl rfl rfl ok152 rfl rfl rfl rfl rfl rfl ?_
    refine m_lies ?_
    rw [hl]
    refine x_if_ne rfl (fun c6 => ?_) (fun c6 => ?_)
    rotate_left
    · exact absurd c6 (by simp [b1, hk])
    refine x_aload_n rfl rfl ?_
    refine x_getR (u := .ref _) rfl rfl rfl rfl ?_
    refine x_iload_n rfl rfl ?_
    refine x_zalN (j := j) rfl rfl (rfl) (by omega) ?_
    refine x_if_ne rfl (fun c21 => ?_) (fun c21 => ?_)
    · exact absurd (hF.at (by decide) rfl) c21
    refine x_aload_n rfl rfl ?_
    refine x_bipush rfl ?_
    refine x_callV (M' := mi154) (As := [_]) (bc1 := 0) (bs1 := 0) (bc2 := 0) (bs2 := 0) rfl rfl rfl rfl ok154 rfl rfl (by decide) rfl rfl rfl rfl rfl rfl ?_
    refine m_refuses 2 rfl (by decide) ?_
    refine x_iret rfl rfl ?_
    exact hP.c (by rw [if_neg hk])
end FreshM
