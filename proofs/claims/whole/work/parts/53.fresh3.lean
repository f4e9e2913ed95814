/-! ===== a fresh object: the rest ===== -/
section Fresh3
variable {d : Nat} {VI : VIT} {P : Post}
set_option maxRecDepth 20000 in
theorem fx_holdTalk {p q e : Int32} (hP : PX P (if hasF 4 e = 0 ∨ p = q then -1 else -2)) : Ex (d + 4) mi1 0 (entL [.ref 45, .int p, .int q, .int e] 6) [] (LY ++ []) VIm ZL (vr ZR) 0 0 P := by
  refine x_iload_n rfl rfl ?_
  refine x_callN (M' := mi150) (As := [_]) (bc1 := 0) (bs1 := 0) (bc2 := 0) (bs2 := 0) rfl rfl rfl rfl ok150 rfl rfl rfl rfl rfl rfl ?_
  refine s_isDay ?_
  refine x_if_eq rfl (fun c4 => ?_) (fun c4 => ?_)
  · refine x_iconst rfl ?_
    refine x_iret rfl rfl ?_
    first | exact hP.c (by rw [if_pos (Or.inl c4)]) Fm0 | exact hP.c (by rw [if_pos (Or.inr c9)]) Fm0
  · refine x_iload_n rfl rfl ?_
    refine x_iload_n rfl rfl ?_
    refine x_icmp_ne rfl (fun c9 => ?_) (fun c9 => ?_)
    · refine x_aload_n rfl rfl ?_
      refine x_getR (u := .ref _) rfl rfl rfl rfl ?_
      refine x_iload_n rfl rfl ?_
      refine x_callV (M' := mi95) (As := [_]) (bc1 := 0) (bs1 := 0) (bc2 := 0) (bs2 := 0) rfl rfl rfl rfl ok95 rfl rfl (by decide) rfl rfl rfl rfl rfl rfl ?_
      refine s_hasPerson_z rfl ?_
      refine x_if_eq rfl (fun c22 => ?_) (fun c22 => ?_)
      rotate_left
      · exact absurd rfl c22
      refine x_bipush rfl ?_
      refine x_iret rfl rfl ?_
      exact hP.c (by rw [if_neg]; simp only [not_or]; exact ⟨c4, c9⟩) Fm0
    · refine x_iconst rfl ?_
      refine x_iret rfl rfl ?_
      first | exact hP.c (by rw [if_pos (Or.inl c4)]) Fm0 | exact hP.c (by rw [if_pos (Or.inr c9)]) Fm0
set_option maxRecDepth 20000 in
theorem fx_talk {p q e : Int32} (hP : PX P (if hasF 4 e = 0 ∨ p = q then -1 else -2)) : Ex (d + 5) mi124 0 (entL [.ref 0, .int p, .int q, .int e] 4) [] (LY ++ []) VIm ZL (vr ZR) 0 0 P := by
  by_cases h : hasF 4 e = 0 ∨ p = q
  · rw [if_pos h] at hP
    refine x_aload_n rfl rfl ?_
    refine x_aload_n rfl rfl ?_
    refine x_getR (u := .ref _) rfl rfl rfl rfl ?_
    refine x_iload_n rfl rfl ?_
    refine x_iload_n rfl rfl ?_
    refine x_iload_n rfl rfl ?_
    refine x_callV (M' := mi1) (As := [_, _, _]) (bc1 := 0) (bs1 := 0) (bc2 := 0) (bs2 := 0) rfl rfl rfl rfl ok1 rfl rfl (by decide) rfl rfl rfl rfl rfl rfl ?_
    refine (fx_holdTalk (d := d) (p := p) (q := q) (e := e) (P := fun r lay VI VL VR => r = some (.int (-1)) ∧ lay = LY ++ [] ∧ Fm VI ∧ VL = ZL ∧ VR = vr ZR) (by rw [if_pos h]; exact fun VI' hF => ⟨rfl, rfl, hF, rfl, rfl⟩)).conseq ?_
    rintro r lay VI VL VR ⟨rfl, rfl, hF, rfl, rfl⟩
    refine x_callV (M' := mi145) (As := [_]) (bc1 := 0) (bs1 := 0) (bc2 := 0) (bs2 := 0) rfl rfl rfl rfl ok145 rfl rfl (by decide) rfl rfl rfl rfl rfl rfl ?_
    refine s_settled_ref 0 rfl (by decide) ?_
    refine x_iret rfl rfl ?_
    exact hP _ (Fm_up (Fm_up hF (by decide)) (by decide))
  · rw [if_neg h] at hP
    refine x_aload_n rfl rfl ?_
    refine x_aload_n rfl rfl ?_
    refine x_getR (u := .ref _) rfl rfl rfl rfl ?_
    refine x_iload_n rfl rfl ?_
    refine x_iload_n rfl rfl ?_
    refine x_iload_n rfl rfl ?_
    refine x_callV (M' := mi1) (As := [_, _, _]) (bc1 := 0) (bs1 := 0) (bc2 := 0) (bs2 := 0) rfl rfl rfl rfl ok1 rfl rfl (by decide) rfl rfl rfl rfl rfl rfl ?_
    refine (fx_holdTalk (d := d) (p := p) (q := q) (e := e) (P := fun r lay VI VL VR => r = some (.int (-2)) ∧ lay = LY ++ [] ∧ Fm VI ∧ VL = ZL ∧ VR = vr ZR) (by rw [if_neg h]; exact fun VI' hF => ⟨rfl, rfl, hF, rfl, rfl⟩)).conseq ?_
    rintro r lay VI VL VR ⟨rfl, rfl, hF, rfl, rfl⟩
    refine x_callV (M' := mi145) (As := [_]) (bc1 := 0) (bs1 := 0) (bc2 := 0) (bs2 := 0) rfl rfl rfl rfl ok145 rfl rfl (by decide) rfl rfl rfl rfl rfl rfl ?_
    refine s_settled_ref 1 rfl (by decide) ?_
    refine x_iret rfl rfl ?_
    exact hP _ (Fm_up (Fm_up hF (by decide)) (by decide))
set_option maxRecDepth 20000 in
theorem fx_developRoll {p : Int32} (hP : P (some (.int (-2))) (LY ++ []) VIm ZL (vr ZR)) : Ex (d + 4) mi2 0 (entL [.ref 45, .int p] 3) [] (LY ++ []) VIm ZL (vr ZR) 0 0 P := by
  refine x_aload_n rfl rfl ?_
  refine x_getR (u := .ref _) rfl rfl rfl rfl ?_
  refine x_iload_n rfl rfl ?_
  refine x_callV (M' := mi96) (As := [_]) (bc1 := 0) (bs1 := 0) (bc2 := 0) (bs2 := 0) rfl rfl rfl rfl ok96 rfl rfl (by decide) rfl rfl rfl rfl rfl rfl ?_
  refine s_hasRoll_z rfl ?_
  refine x_if_ne rfl (fun c8 => ?_) (fun c8 => ?_)
  · exact absurd rfl c8
  refine x_bipush rfl ?_
  refine x_iret rfl rfl ?_
  exact hP
set_option maxRecDepth 20000 in
theorem fx_develop {p : Int32} (hP : PX P (-2)) : Ex (d + 5) mi125 0 (entL [.ref 0, .int p] 2) [] (LY ++ []) VIm ZL (vr ZR) 0 0 P := by
  refine x_aload_n rfl rfl ?_
  refine x_aload_n rfl rfl ?_
  refine x_getR (u := .ref _) rfl rfl rfl rfl ?_
  refine x_iload_n rfl rfl ?_
  refine x_callV (M' := mi2) (As := [_]) (bc1 := 0) (bs1 := 0) (bc2 := 0) (bs2 := 0) rfl rfl rfl rfl ok2 rfl rfl (by decide) rfl rfl rfl rfl rfl rfl ?_
  refine fx_developRoll ?_
  refine x_callV (M' := mi145) (As := [_]) (bc1 := 0) (bs1 := 0) (bc2 := 0) (bs2 := 0) rfl rfl rfl rfl ok145 rfl rfl (by decide) rfl rfl rfl rfl rfl rfl ?_
  refine s_settled_ref 1 rfl (by decide) ?_
  refine x_iret rfl rfl ?_
  exact hP _ (Fm_up (Fm_up Fm0 (by decide)) (by decide))
set_option maxRecDepth 20000 in
theorem fx_buryPerson {p : Int32} (hP : P (some (.int (-2))) (LY ++ []) VIm ZL (vr ZR)) : Ex (d + 2) mi3 0 (entL [.ref 45, .int p] 2) [] (LY ++ []) VIm ZL (vr ZR) 0 0 P := by
  refine x_aload_n rfl rfl ?_
  refine x_getR (u := .ref _) rfl rfl rfl rfl ?_
  refine x_iload_n rfl rfl ?_
  refine x_callV (M' := mi95) (As := [_]) (bc1 := 0) (bs1 := 0) (bc2 := 0) (bs2 := 0) rfl rfl rfl rfl ok95 rfl rfl (by decide) rfl rfl rfl rfl rfl rfl ?_
  refine s_hasPerson_z rfl ?_
  refine x_if_ne rfl (fun c8 => ?_) (fun c8 => ?_)
  · exact absurd rfl c8
  refine x_bipush rfl ?_
  refine x_iret rfl rfl ?_
  exact hP
set_option maxRecDepth 20000 in
theorem fx_bury {p : Int32} (hP : PX P (-2)) : Ex (d + 3) mi126 0 (entL [.ref 0, .int p] 2) [] (LY ++ []) VIm ZL (vr ZR) 0 0 P := by
  refine x_aload_n rfl rfl ?_
  refine x_aload_n rfl rfl ?_
  refine x_getR (u := .ref _) rfl rfl rfl rfl ?_
  refine x_iload_n rfl rfl ?_
  refine x_callV (M' := mi3) (As := [_]) (bc1 := 0) (bs1 := 0) (bc2 := 0) (bs2 := 0) rfl rfl rfl rfl ok3 rfl rfl (by decide) rfl rfl rfl rfl rfl rfl ?_
  refine fx_buryPerson ?_
  refine x_callV (M' := mi145) (As := [_]) (bc1 := 0) (bs1 := 0) (bc2 := 0) (bs2 := 0) rfl rfl rfl rfl ok145 rfl rfl (by decide) rfl rfl rfl rfl rfl rfl ?_
  refine s_settled_ref 1 rfl (by decide) ?_
  refine x_iret rfl rfl ?_
  exact hP _ (Fm_up (Fm_up Fm0 (by decide)) (by decide))
set_option maxRecDepth 20000 in
theorem fx_countGivings (hP : P (some (.int 0)) (LY ++ []) VIm ZL (vr ZR)) : Ex (d + 4) mi25 0 (entL [.ref 70] 4) [] (LY ++ []) VIm ZL (vr ZR) 0 0 P := by
  refine x_iconst rfl ?_
  refine x_istore_n (ls' := [_, _, _, _]) rfl rfl rfl ?_
  refine x_iconst rfl ?_
  refine x_istore_n (ls' := [_, _, _, _]) rfl rfl rfl ?_
  refine x_iload_n rfl rfl ?_
  refine x_aload_n rfl rfl ?_
  refine x_getR (u := .ref _) rfl rfl rfl rfl ?_
  refine x_getE rfl rfl rfl ((rfl : VIm 3 0 = 0)) ?_
  refine x_icmp_ge rfl (fun c12 => ?_) (fun c12 => ?_)
  rotate_left
  · exact absurd (by decide) c12
  refine x_iload_n rfl rfl ?_
  refine x_iret rfl rfl ?_
  exact hP
set_option maxRecDepth 20000 in
theorem fx_givings {w : Int32} (hP : PX P (if w = 0 then 0 else -1)) : Ex (d + 5) mi132 0 (entL [.ref 0, .int w] 2) [] (LY ++ []) VIm ZL (vr ZR) 0 0 P := by
  refine x_iload_n rfl rfl ?_
  refine x_if_ne rfl (fun c1 => ?_) (fun c1 => ?_)
  · refine x_iload_n rfl rfl ?_
    refine x_if_lt rfl (fun c13 => ?_) (fun c13 => ?_)
    · refine x_iconst rfl ?_
      refine x_iret rfl rfl ?_
      exact hP.c (by rw [if_neg c1]) Fm0
    · refine x_aload_n rfl rfl ?_
      refine x_getR (u := .ref _) rfl rfl rfl rfl ?_
      refine x_iload_n rfl rfl ?_
      refine x_iconst rfl ?_
      refine x_isub rfl ?_
      refine x_iconst rfl ?_
      refine x_idiv rfl (by decide) ?_
      refine x_callV (M' := mi95) (As := [_]) (bc1 := 0) (bs1 := 0) (bc2 := 0) (bs2 := 0) rfl rfl rfl rfl ok95 rfl rfl (by decide) rfl rfl rfl rfl rfl rfl ?_
      refine s_hasPerson_z rfl ?_
      refine x_if_ne rfl (fun c28 => ?_) (fun c28 => ?_)
      · exact absurd rfl c28
      refine x_iconst rfl ?_
      refine x_iret rfl rfl ?_
      exact hP.c (by rw [if_neg c1]) Fm0
  · refine x_aload_n rfl rfl ?_
    refine x_getR (u := .ref _) rfl rfl rfl rfl ?_
    refine x_callV (M' := mi25) (As := []) (bc1 := 0) (bs1 := 0) (bc2 := 0) (bs2 := 0) rfl rfl rfl rfl ok25 rfl rfl (by decide) rfl rfl rfl rfl rfl rfl ?_
    refine fx_countGivings ?_
    refine x_iret rfl rfl ?_
    exact hP.c (by rw [if_pos c1]) Fm0
set_option maxRecDepth 20000 in
theorem fx_markDrawn {p e : Int32} (hP : P (some (.int (-1))) (LY ++ []) VIm ZL (vr ZR)) : Ex (d + 1) mi31 0 (entL [.ref 70, .int p, .int e] 3) [] (LY ++ []) VIm ZL (vr ZR) 0 0 P := by
  refine x_iload_n rfl rfl ?_
  refine x_if_lt rfl (fun c1 => ?_) (fun c1 => ?_)
  · refine x_iconst rfl ?_
    refine x_iret rfl rfl ?_
    exact hP
  · refine x_iload_n rfl rfl ?_
    refine x_aload_n rfl rfl ?_
    refine x_getE rfl rfl rfl ((rfl : VIm 70 3 = 0)) ?_
    refine x_icmp_ge rfl (fun c9 => ?_) (fun c9 => ?_)
    · refine x_iconst rfl ?_
      refine x_iret rfl rfl ?_
      exact hP
    · exact absurd (Int32.not_lt.mp c1) c9
set_option maxRecDepth 20000 in
theorem fx_drawn {p e : Int32} (hP : PX P (-1)) : Ex (d + 2) mi140 0 (entL [.ref 0, .int p, .int e] 3) [] (LY ++ []) VIm ZL (vr ZR) 0 0 P := by
  refine x_aload_n rfl rfl ?_
  refine x_getR (u := .ref _) rfl rfl rfl rfl ?_
  refine x_iload_n rfl rfl ?_
  refine x_iload_n rfl rfl ?_
  refine x_callV (M' := mi31) (As := [_, _]) (bc1 := 0) (bs1 := 0) (bc2 := 0) (bs2 := 0) rfl rfl rfl rfl ok31 rfl rfl (by decide) rfl rfl rfl rfl rfl rfl ?_
  refine fx_markDrawn ?_
  refine x_iret rfl rfl ?_
  exact hP _ Fm0
set_option maxRecDepth 20000 in
theorem fm_goodOr_ref {v : Int32} (k : Nat) (hv : v = -nI k) (hk : k < 7) (hn : v < 0) (hP : PM P v) : Ex (d + 1) mi237 0 (entL [.ref 74, .int v] 2) [] (LY ++ []) VI ZL (vr ZR) 0 0 P := by
  refine x_iload_n rfl rfl ?_
  refine x_if_ge rfl (fun c1 => ?_) (fun c1 => ?_)
  · exact absurd hn (Int32.not_lt.mpr c1)
  refine x_aload_n rfl rfl ?_
  refine x_iload_n rfl rfl ?_
  refine x_callV (M' := mi154) (As := [_]) (bc1 := 0) (bs1 := 0) (bc2 := 0) (bs2 := 0) rfl rfl rfl rfl ok154 rfl rfl (by decide) rfl rfl rfl rfl rfl rfl ?_
  refine m_refuses k hv hk ?_
  refine x_goto rfl ?_
  refine x_iret rfl rfl ?_
  exact hP _
set_option maxRecDepth 20000 in
theorem fm_talksKept {p q e : Int32} (hF : Fm VI) (hP : P (some (.int (if hasF 4 e = 0 ∨ p = q then -1 else -2))) (LY ++ []) VI ZL (vr ZR)) : Ex (d + 18) mi240 0 (entL [.ref 74, .int p, .int q, .int e] 4) [] (LY ++ []) VI ZL (vr ZR) 0 0 P := by
  refine x_iload_n rfl rfl ?_
  refine x_iload_n rfl rfl ?_
  refine x_icmp_eq rfl (fun c2 => ?_) (fun c2 => ?_)
  · refine x_iconst rfl ?_
    refine x_iret rfl rfl ?_
    first | exact P_i (by rw [if_pos (Or.inr c2)]) hP | exact P_i (by rw [if_pos (Or.inl c9)]) hP
  · refine x_iload_n rfl rfl ?_
    refine x_callS (M' := mi166) (As := [_]) (bc1 := 0) (bs1 := 0) (bc2 := 0) (bs2 := 0) rfl rfl rfl rfl ok166 rfl rfl rfl rfl rfl rfl ?_
    refine m_isDay ?_
    rw [dayEq]
    refine x_if_ne rfl (fun c9 => ?_) (fun c9 => ?_)
    · refine x_aload_n rfl rfl ?_
      refine x_iload_n rfl rfl ?_
      refine x_callV (M' := mi164) (As := [_]) (bc1 := 0) (bs1 := 0) (bc2 := 0) (bs2 := 0) rfl rfl rfl rfl ok164 rfl rfl (by decide) rfl rfl rfl rfl rfl rfl ?_
      refine m_isPerson_z (hF.at (by decide) rfl) ?_
      refine x_if_eq rfl (fun c19 => ?_) (fun c19 => ?_)
      rotate_left
      · exact absurd rfl c19
      refine x_bipush rfl ?_
      refine x_iret rfl rfl ?_
      exact P_i (by rw [if_neg]; simp only [not_or]; exact ⟨c9, c2⟩) hP
    · refine x_iconst rfl ?_
      refine x_iret rfl rfl ?_
      first | exact P_i (by rw [if_pos (Or.inr c2)]) hP | exact P_i (by rw [if_pos (Or.inl c9)]) hP
set_option maxRecDepth 20000 in
theorem fm_talk {p q e : Int32} (hF : Fm VI) (hP : PM P (if hasF 4 e = 0 ∨ p = q then -1 else -2)) : Ex (d + 19) mi244 0 (entL [.ref 74, .int p, .int q, .int e] 4) [] (LY ++ []) VI ZL (vr ZR) 0 0 P := by
  by_cases h : hasF 4 e = 0 ∨ p = q
  · rw [if_pos h] at hP
    refine x_aload_n rfl rfl ?_
    refine x_aload_n rfl rfl ?_
    refine x_iload_n rfl rfl ?_
    refine x_iload_n rfl rfl ?_
    refine x_iload_n rfl rfl ?_
    refine x_callV (M' := mi240) (As := [_, _, _]) (bc1 := 0) (bs1 := 0) (bc2 := 0) (bs2 := 0) rfl rfl rfl rfl ok240 rfl rfl (by decide) rfl rfl rfl rfl rfl rfl ?_
    refine fm_talksKept hF ?_
    rw [if_pos h]
    refine x_callV (M' := mi237) (As := [_]) (bc1 := 0) (bs1 := 0) (bc2 := 0) (bs2 := 0) rfl rfl rfl rfl ok237 rfl rfl (by decide) rfl rfl rfl rfl rfl rfl ?_
    refine fm_goodOr_ref 1 rfl (by decide) (by decide) (fun VI' => ?_)
    refine x_iret rfl rfl ?_
    exact hP _
  · rw [if_neg h] at hP
    refine x_aload_n rfl rfl ?_
    refine x_aload_n rfl rfl ?_
    refine x_iload_n rfl rfl ?_
    refine x_iload_n rfl rfl ?_
    refine x_iload_n rfl rfl ?_
    refine x_callV (M' := mi240) (As := [_, _, _]) (bc1 := 0) (bs1 := 0) (bc2 := 0) (bs2 := 0) rfl rfl rfl rfl ok240 rfl rfl (by decide) rfl rfl rfl rfl rfl rfl ?_
    refine fm_talksKept hF ?_
    rw [if_neg h]
    refine x_callV (M' := mi237) (As := [_]) (bc1 := 0) (bs1 := 0) (bc2 := 0) (bs2 := 0) rfl rfl rfl rfl ok237 rfl rfl (by decide) rfl rfl rfl rfl rfl rfl ?_
    refine fm_goodOr_ref 2 rfl (by decide) (by decide) (fun VI' => ?_)
    refine x_iret rfl rfl ?_
    exact hP _
set_option maxRecDepth 20000 in
theorem fm_developsKept {p : Int32} (hF : Fm VI) (hP : P (some (.int (-2))) (LY ++ []) VI ZL (vr ZR)) : Ex (d + 4) mi241 0 (entL [.ref 74, .int p] 3) [] (LY ++ []) VI ZL (vr ZR) 0 0 P := by
  refine x_aload_n rfl rfl ?_
  refine x_iload_n rfl rfl ?_
  refine x_callV (M' := mi165) (As := [_]) (bc1 := 0) (bs1 := 0) (bc2 := 0) (bs2 := 0) rfl rfl rfl rfl ok165 rfl rfl (by decide) rfl rfl rfl rfl rfl rfl ?_
  refine m_isRoll_z (hF.at (by decide) rfl) ?_
  refine x_if_ne rfl (fun c5 => ?_) (fun c5 => ?_)
  · exact absurd rfl c5
  refine x_bipush rfl ?_
  refine x_iret rfl rfl ?_
  exact hP
set_option maxRecDepth 20000 in
theorem fm_develop {p : Int32} (hF : Fm VI) (hP : PM P (-2)) : Ex (d + 5) mi245 0 (entL [.ref 74, .int p] 2) [] (LY ++ []) VI ZL (vr ZR) 0 0 P := by
  refine x_aload_n rfl rfl ?_
  refine x_aload_n rfl rfl ?_
  refine x_iload_n rfl rfl ?_
  refine x_callV (M' := mi241) (As := [_]) (bc1 := 0) (bs1 := 0) (bc2 := 0) (bs2 := 0) rfl rfl rfl rfl ok241 rfl rfl (by decide) rfl rfl rfl rfl rfl rfl ?_
  refine fm_developsKept hF ?_
  refine x_callV (M' := mi237) (As := [_]) (bc1 := 0) (bs1 := 0) (bc2 := 0) (bs2 := 0) rfl rfl rfl rfl ok237 rfl rfl (by decide) rfl rfl rfl rfl rfl rfl ?_
  refine fm_goodOr_ref 2 rfl (by decide) (by decide) (fun VI' => ?_)
  refine x_iret rfl rfl ?_
  exact hP _
set_option maxRecDepth 20000 in
theorem fm_buriesKept {p : Int32} (hF : Fm VI) (hP : P (some (.int (-2))) (LY ++ []) VI ZL (vr ZR)) : Ex (d + 2) mi242 0 (entL [.ref 74, .int p] 2) [] (LY ++ []) VI ZL (vr ZR) 0 0 P := by
  refine x_aload_n rfl rfl ?_
  refine x_iload_n rfl rfl ?_
  refine x_callV (M' := mi164) (As := [_]) (bc1 := 0) (bs1 := 0) (bc2 := 0) (bs2 := 0) rfl rfl rfl rfl ok164 rfl rfl (by decide) rfl rfl rfl rfl rfl rfl ?_
  refine m_isPerson_z (hF.at (by decide) rfl) ?_
  refine x_if_ne rfl (fun c5 => ?_) (fun c5 => ?_)
  · exact absurd rfl c5
  refine x_bipush rfl ?_
  refine x_iret rfl rfl ?_
  exact hP
set_option maxRecDepth 20000 in
theorem fm_bury {p : Int32} (hF : Fm VI) (hP : PM P (-2)) : Ex (d + 3) mi246 0 (entL [.ref 74, .int p] 2) [] (LY ++ []) VI ZL (vr ZR) 0 0 P := by
  refine x_aload_n rfl rfl ?_
  refine x_aload_n rfl rfl ?_
  refine x_iload_n rfl rfl ?_
  refine x_callV (M' := mi242) (As := [_]) (bc1 := 0) (bs1 := 0) (bc2 := 0) (bs2 := 0) rfl rfl rfl rfl ok242 rfl rfl (by decide) rfl rfl rfl rfl rfl rfl ?_
  refine fm_buriesKept hF ?_
  refine x_callV (M' := mi237) (As := [_]) (bc1 := 0) (bs1 := 0) (bc2 := 0) (bs2 := 0) rfl rfl rfl rfl ok237 rfl rfl (by decide) rfl rfl rfl rfl rfl rfl ?_
  refine fm_goodOr_ref 2 rfl (by decide) (by decide) (fun VI' => ?_)
  refine x_iret rfl rfl ?_
  exact hP _
set_option maxRecDepth 20000 in
theorem fm_laysGiven (hF : Fm VI) (hP : P (some (.int 0)) (LY ++ []) VI ZL (vr ZR)) : Ex (d + 4) mi256 0 (entL [.ref 74] 5) [] (LY ++ []) VI ZL (vr ZR) 0 0 P := by
  refine x_iconst rfl ?_
  refine x_istore_n (ls' := [_, _, _, _, _]) rfl rfl rfl ?_
  refine x_iconst rfl ?_
  refine x_istore_n (ls' := [_, _, _, _, _]) rfl rfl rfl ?_
  refine x_iload_n rfl rfl ?_
  refine x_aload_n rfl rfl ?_
  refine x_getR (u := .ref _) rfl rfl rfl rfl ?_
  refine x_bipush rfl ?_
  refine x_ialE (j := 93) rfl rfl (rfl) (by omega) ((hF.at (by decide) rfl : VI 76 93 = 0)) ?_
  refine x_icmp_ge rfl (fun c12 => ?_) (fun c12 => ?_)
  rotate_left
  · exact absurd (by decide) c12
  refine x_iload_n rfl rfl ?_
  refine x_iret rfl rfl ?_
  exact hP
set_option maxRecDepth 20000 in
theorem fm_givings {w : Int32} (hF : Fm VI) (hP : PM P (if w = 0 then 0 else -1)) : Ex (d + 5) mi257 0 (entL [.ref 74, .int w] 3) [] (LY ++ []) VI ZL (vr ZR) 0 0 P := by
  have hl : liesF w 0 (4 * 0) = decide (w = 0) := by
    simp only [liesF, Int32.lt_iff_toInt_lt]
    congr 1
    rw [eq_iff_iff, ← Int32.toInt_inj]
    have e2 : (4 * 0 : Int32).toInt = 0 := rfl
    have e1 : (0 : Int32).toInt = 0 := rfl
    omega
  by_cases hw : w = 0
  · refine x_iload_n rfl rfl ?_
    refine x_iconst rfl ?_
    refine x_iconst rfl ?_
    refine x_aload_n rfl rfl ?_
    refine x_getR (u := .ref _) rfl rfl rfl rfl ?_
    refine x_bipush rfl ?_
    refine x_ialE (j := 93) rfl rfl (rfl) (by omega) ((hF.at (by decide) rfl : VI 76 93 = 0)) ?_
    refine x_imul rfl ?_
    refine x_callS (M' := mi152) (As := [_, _, _]) (bc1 := 0) (bs1 := 0) (bc2 := 0) (bs2 := 0) rfl rfl rfl rfl ok152 rfl rfl rfl rfl rfl rfl ?_
    refine m_lies ?_
    rw [hl]
    refine x_if_ne rfl (fun c14 => ?_) (fun c14 => ?_)
    rotate_left
    · exact absurd c14 (by simp [b1, hw])
    refine x_aload_n rfl rfl ?_
    refine x_callV (M' := mi256) (As := []) (bc1 := 0) (bs1 := 0) (bc2 := 0) (bs2 := 0) rfl rfl rfl rfl ok256 rfl rfl (by decide) rfl rfl rfl rfl rfl rfl ?_
    refine fm_laysGiven hF ?_
    refine x_istore_n (ls' := [_, _, _]) rfl rfl rfl ?_
    refine x_iload_n rfl rfl ?_
    refine x_if_ne rfl (fun c25 => ?_) (fun c25 => ?_)
    · exact absurd hw c25
    refine x_iload_n rfl rfl ?_
    refine x_goto rfl ?_
    refine x_iret rfl rfl ?_
    exact hP.c (by rw [if_pos hw])
  · refine x_iload_n rfl rfl ?_
    refine x_iconst rfl ?_
    refine x_iconst rfl ?_
    refine x_aload_n rfl rfl ?_
    refine x_getR (u := .ref _) rfl rfl rfl rfl ?_
    refine x_bipush rfl ?_
    refine x_ialE (j := 93) rfl rfl (rfl) (by omega) ((hF.at (by decide) rfl : VI 76 93 = 0)) ?_
    refine x_imul rfl ?_
    refine x_callS (M' := mi152) (As := [_, _, _]) (bc1 := 0) (bs1 := 0) (bc2 := 0) (bs2 := 0) rfl rfl rfl rfl ok152 rfl rfl rfl rfl rfl rfl ?_
    refine m_lies ?_
    rw [hl]
    refine x_if_ne rfl (fun c14 => ?_) (fun c14 => ?_)
    · exact absurd (by simp [b1, hw]) c14
    refine x_iconst rfl ?_
    refine x_iret rfl rfl ?_
    exact hP.c (by rw [if_neg hw])
set_option maxRecDepth 20000 in
theorem fm_drawn {p e : Int32} (hF : Fm VI) (hP : PM P (-1)) : Ex (d + 2) mi276 0 (entL [.ref 74, .int p, .int e] 3) [] (LY ++ []) VI ZL (vr ZR) 0 0 P := by
  have hl : liesF p 0 (-1 - 1) = false := by
    simp only [liesF, Int32.lt_iff_toInt_lt, decide_eq_false_iff_not, not_and]
    have e2 : (-1 - 1 : Int32).toInt = -2 := rfl
    have e1 : (0 : Int32).toInt = 0 := rfl
    omega
  refine x_iload_n rfl rfl ?_
  refine x_iconst rfl ?_
  refine x_aload_n rfl rfl ?_
  refine x_getE rfl rfl rfl ((hF.at (by decide) rfl : VI 74 50 = -1)) ?_
  refine x_iconst rfl ?_
  refine x_isub rfl ?_
  refine x_callS (M' := mi152) (As := [_, _, _]) (bc1 := 0) (bs1 := 0) (bc2 := 0) (bs2 := 0) rfl rfl rfl rfl ok152 rfl rfl rfl rfl rfl rfl ?_
  refine m_lies ?_
  rw [hl]
  refine x_if_eq rfl (fun c11 => ?_) (fun c11 => ?_)
  rotate_left
  · exact absurd rfl c11
  refine x_iconst rfl ?_
  refine x_iret rfl rfl ?_
  exact hP _
end Fresh3
