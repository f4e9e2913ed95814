/-! ===== calls that only read ===== -/
set_option maxRecDepth 20000 in
theorem lies_has {n : Nat} (hn : n ≤ 1000) (p : Int32) : b1 (liesF p 0 (nI n - 1)) = hasF (nI n) p := by
  unfold hasF liesF b1
  by_cases h1 : p < 0
  · simp [h1]
  · have h3 : (nI n - 1 < p) ↔ nI n ≤ p := by
      rw [Int32.lt_iff_toInt_lt, Int32.le_iff_toInt_le, show (nI n - 1 : Int32) = nI n - nI 1 from rfl, pk_sub_toInt (by omega) (by omega), nI_toInt (by omega)]
      omega
    simp only [h1, not_false_eq_true, true_and, h3]
    by_cases h2 : nI n ≤ p <;> simp [h2]
set_option maxRecDepth 20000 in
theorem has_cases {n : Nat} (hn : n ≤ 1000) (p : Int32) : hasF (nI n) p = 0 ∨ ∃ i, i < n ∧ p = nI i := by
  rcases pk_ix p (n := n) (by omega) with h | h | ⟨i, h1, h2⟩
  · exact Or.inl (hasF_neg h)
  · exact Or.inl (hasF_big h)
  · exact Or.inr ⟨i, h1, h2⟩
set_option maxRecDepth 20000 in
theorem Pr_read {D : Nat} {xm mm : MI} {As : List Value} {ext : HL} {VI : VIT} {VL : VLT} {G : VRT} {I : HL → VIT → VLT → VRT → Prop} (a : Int32) (hx : ∀ P : Post, P (some (.int a)) (LY ++ ext) VI VL (vr G) → Ex D xm 0 (entL (.ref 0 :: As) (mL xm)) [] (LY ++ ext) VI VL (vr G) 0 0 P) (hm : ∀ P : Post, P (some (.int a)) (LY ++ ext) VI VL (vr G) → Ex D mm 0 (entL (.ref 74 :: As) (mL mm)) [] (LY ++ ext) VI VL (vr G) 0 0 P) (hI : I (LY ++ ext) VI VL (vr G)) : Pr D xm mm As (LY ++ ext) VI VL (vr G) I :=
  ExS.budget (bc := 0) (bs := 0) (hx _ ⟨a, ext, rfl, rfl, hm _ ⟨rfl, hI⟩⟩) (by omega) (by omega)
section Reads2
variable {d : Nat} {VI : VIT} {VL : VLT} {G : VRT} {P : Post} {ext : HL} {n : Nat} {K : KT}
set_option maxRecDepth 20000 in
theorem m_isPersonK {v : Int32} (hM : RK (VI 76) K) (hW : WF K) (hP : P (some (.int (hasF (nI (K 93)) v))) (LY ++ ext) VI VL (vr G)) : Ex (d + 1) mi164 0 (entL [.ref 74, .int v] 2) [] (LY ++ ext) VI VL (vr G) 0 0 P := m_isPerson (by
  have h6 := hW.n
  rw [hM.at 93, lies_has (by omega)]; exact hP)
set_option maxRecDepth 20000 in
theorem m_isRollK {v : Int32} (hM : RK (VI 76) K) (hW : WF K) (hP : P (some (.int (hasF (nI (K 94)) v))) (LY ++ ext) VI VL (vr G)) : Ex (d + 1) mi165 0 (entL [.ref 74, .int v] 2) [] (LY ++ ext) VI VL (vr G) 0 0 P := m_isRoll (by
  have h6 : K 94 ≤ 8 := hW.2.1
  rw [hM.at 94, lies_has (by omega)]; exact hP)
set_option maxRecDepth 20000 in
theorem m_isDayK {lay : HL} {VR : VRT} {v : Int32} (hP : P (some (.int (hasF 4 v))) lay VI VL VR) : Ex (d + 1) mi166 0 (entL [.int v] 1) [] lay VI VL VR 0 0 P := m_isDay (by rw [dayEq]; exact hP)
set_option maxRecDepth 20000 in
theorem s_hasPersonK {v : Int32} (hX : RW 3 K VI) (hP : P (some (.int (hasF (nI (K 93)) v))) (LY ++ ext) VI VL (vr G)) : Ex d mi95 0 (entL [.ref 3, .int v] 2) [] (LY ++ ext) VI VL (vr G) 0 0 P := s_hasPerson (by rw [hX.n]; exact hP)
set_option maxRecDepth 20000 in
theorem s_hasRollK {v : Int32} (hX : RW 3 K VI) (hP : P (some (.int (hasF (nI (K 94)) v))) (LY ++ ext) VI VL (vr G)) : Ex d mi96 0 (entL [.ref 3, .int v] 2) [] (LY ++ ext) VI VL (vr G) 0 0 P := s_hasRoll (by rw [hX.rn]; exact hP)

set_option maxRecDepth 20000 in
theorem x_grain (hP : P (some (.int (VI 0 15))) (LY ++ ext) VI VL (vr G)) : Ex d mi117 0 (entL [.ref 0] 1) [] (LY ++ ext) VI VL (vr G) 0 0 P := by
  refine x_aload_n rfl rfl ?_
  refine x_getI rfl rfl rfl ?_
  refine x_iret rfl rfl ?_
  exact hP
set_option maxRecDepth 20000 in
theorem m_grain (hP : P (some (.int (VI 74 6))) (LY ++ ext) VI VL (vr G)) : Ex d mi187 0 (entL [.ref 74] 1) [] (LY ++ ext) VI VL (vr G) 0 0 P := by
  refine x_aload_n rfl rfl ?_
  refine x_getI rfl rfl rfl ?_
  refine x_iret rfl rfl ?_
  exact hP
set_option maxRecDepth 20000 in
theorem x_fault (hP : P (some (.int (VI 0 14))) (LY ++ ext) VI VL (vr G)) : Ex d mi120 0 (entL [.ref 0] 1) [] (LY ++ ext) VI VL (vr G) 0 0 P := by
  refine x_aload_n rfl rfl ?_
  refine x_getI rfl rfl rfl ?_
  refine x_iret rfl rfl ?_
  exact hP
set_option maxRecDepth 20000 in
theorem m_fault (hP : P (some (.int (VI 74 14))) (LY ++ ext) VI VL (vr G)) : Ex d mi214 0 (entL [.ref 74] 1) [] (LY ++ ext) VI VL (vr G) 0 0 P := by
  refine x_aload_n rfl rfl ?_
  refine x_getI rfl rfl rfl ?_
  refine x_iret rfl rfl ?_
  exact hP
set_option maxRecDepth 20000 in
theorem x_stopped (hP : P (some (.int (VI 0 16))) (LY ++ ext) VI VL (vr G)) : Ex d mi121 0 (entL [.ref 0] 1) [] (LY ++ ext) VI VL (vr G) 0 0 P := by
  refine x_aload_n rfl rfl ?_
  refine x_getI rfl rfl rfl ?_
  refine x_iret rfl rfl ?_
  exact hP
set_option maxRecDepth 20000 in
theorem m_stopped (hP : P (some (.int (VI 74 42))) (LY ++ ext) VI VL (vr G)) : Ex d mi268 0 (entL [.ref 74] 1) [] (LY ++ ext) VI VL (vr G) 0 0 P := by
  refine x_aload_n rfl rfl ?_
  refine x_getI rfl rfl rfl ?_
  refine x_iret rfl rfl ?_
  exact hP
set_option maxRecDepth 20000 in
theorem x_status (hP : P (some (.int (VI 0 17))) (LY ++ ext) VI VL (vr G)) : Ex d mi144 0 (entL [.ref 0] 1) [] (LY ++ ext) VI VL (vr G) 0 0 P := by
  refine x_aload_n rfl rfl ?_
  refine x_getI rfl rfl rfl ?_
  refine x_iret rfl rfl ?_
  exact hP
set_option maxRecDepth 20000 in
theorem m_status (hP : P (some (.int (VI 74 0))) (LY ++ ext) VI VL (vr G)) : Ex d mi279 0 (entL [.ref 74] 1) [] (LY ++ ext) VI VL (vr G) 0 0 P := by
  refine x_aload_n rfl rfl ?_
  refine x_getI rfl rfl rfl ?_
  refine x_iret rfl rfl ?_
  exact hP
set_option maxRecDepth 20000 in
theorem x_of_out {p w : Int32} (hX : RW 3 K VI) (h : hasF (nI (K 93)) p = 0) (hP : P (some (.int (-1))) (LY ++ ext) VI VL (vr G)) : Ex (d + 2) mi110 0 (entL [.ref 0, .int p, .int w] 3) [] (LY ++ ext) VI VL (vr G) 0 0 P := by
  refine x_aload_n rfl rfl ?_
  refine x_getR (u := .ref _) rfl rfl rfl rfl ?_
  refine x_iload_n rfl rfl ?_
  refine x_callV (M' := mi95) (As := [_]) (bc1 := 0) (bs1 := 0) (bc2 := 0) (bs2 := 0) rfl rfl rfl rfl ok95 rfl rfl (by decide) rfl rfl rfl rfl rfl rfl ?_
  refine s_hasPersonK hX ?_
  refine x_if_ne rfl (fun c8 => ?_) (fun c8 => ?_)
  · exact absurd h c8
  refine x_iconst rfl ?_
  refine x_iret rfl rfl ?_
  exact hP
set_option maxRecDepth 20000 in
theorem m_of_out {p w : Int32} (hM : RK (VI 76) K) (hW : WF K) (h : hasF (nI (K 93)) p = 0) (hP : P (some (.int (-1))) (LY ++ ext) VI VL (vr G)) : Ex (d + 2) mi174 0 (entL [.ref 74, .int p, .int w] 3) [] (LY ++ ext) VI VL (vr G) 0 0 P := by
  refine x_aload_n rfl rfl ?_
  refine x_iload_n rfl rfl ?_
  refine x_callV (M' := mi164) (As := [_]) (bc1 := 0) (bs1 := 0) (bc2 := 0) (bs2 := 0) rfl rfl rfl rfl ok164 rfl rfl (by decide) rfl rfl rfl rfl rfl rfl ?_
  refine m_isPersonK hM hW ?_
  refine x_if_ne rfl (fun c5 => ?_) (fun c5 => ?_)
  · exact absurd h c5
  refine x_iconst rfl ?_
  refine x_iret rfl rfl ?_
  exact hP
set_option maxRecDepth 20000 in
theorem x_of_0 {p : Nat} (hX : RW 3 K VI) (hW : WF K) (hp : p < K 93) (hP : P (some (.int (nI (K (39 + p))))) (LY ++ ext) VI VL (vr G)) : Ex (d + 2) mi110 0 (entL [.ref 0, .int (nI p), .int 0] 3) [] (LY ++ ext) VI VL (vr G) 0 0 P := by
  have h6 := hW.n
  refine x_aload_n rfl rfl ?_
  refine x_getR (u := .ref _) rfl rfl rfl rfl ?_
  refine x_iload_n rfl rfl ?_
  refine x_callV (M' := mi95) (As := [_]) (bc1 := 0) (bs1 := 0) (bc2 := 0) (bs2 := 0) rfl rfl rfl rfl ok95 rfl rfl (by decide) rfl rfl rfl rfl rfl rfl ?_
  refine s_hasPerson_in hX.n hp hW.n ?_
  refine x_if_ne rfl (fun c8 => ?_) (fun c8 => ?_)
  rotate_left
  · exact absurd c8 (by first | decide | omega)
  refine x_iload_n rfl rfl ?_
  skip
  refine x_swIn (tgt := 40) rfl (by decide) (by decide) rfl rfl ?_
  refine x_aload_n rfl rfl ?_
  refine x_getR (u := .ref _) rfl rfl rfl rfl ?_
  refine x_getR (u := .ref _) rfl rfl rfl rfl ?_
  refine x_iload_n rfl rfl ?_
  refine x_ialE (j := p) rfl rfl (rfl) (by omega) (hX.firm hp) ?_
  refine x_iret rfl rfl ?_
  exact hP
set_option maxRecDepth 20000 in
theorem m_of_0 {p : Nat} (hM : RK (VI 76) K) (hW : WF K) (hp : p < K 93) (hP : P (some (.int (nI (K (39 + p))))) (LY ++ ext) VI VL (vr G)) : Ex (d + 2) mi174 0 (entL [.ref 74, .int (nI p), .int 0] 3) [] (LY ++ ext) VI VL (vr G) 0 0 P := by
  have h6 := hW.n
  refine x_aload_n rfl rfl ?_
  refine x_iload_n rfl rfl ?_
  refine x_callV (M' := mi164) (As := [_]) (bc1 := 0) (bs1 := 0) (bc2 := 0) (bs2 := 0) rfl rfl rfl rfl ok164 rfl rfl (by decide) rfl rfl rfl rfl rfl rfl ?_
  refine m_isPersonK hM hW ?_
  rw [hasF_in hp (by omega)]
  refine x_if_ne rfl (fun c5 => ?_) (fun c5 => ?_)
  rotate_left
  · exact absurd c5 (by first | decide | omega)
  refine x_iload_n rfl rfl ?_
  skip
  refine x_swIn (tgt := 36) rfl (by decide) (by decide) rfl rfl ?_
  refine x_aload_n rfl rfl ?_
  refine x_getR (u := .ref _) rfl rfl rfl rfl ?_
  refine x_bipushN (q := 39) rfl ?_
  refine x_iload_n rfl rfl ?_
  refine x_iaddN rfl ?_
  refine x_ialE (j := 39 + p) rfl rfl (rfl) (by omega) (hM.at (39 + p)) ?_
  refine x_iret rfl rfl ?_
  exact hP
set_option maxRecDepth 20000 in
theorem x_of_1 {p : Nat} (hX : RW 3 K VI) (hW : WF K) (hp : p < K 93) (hP : P (some (.int (nI (K (45 + p))))) (LY ++ ext) VI VL (vr G)) : Ex (d + 2) mi110 0 (entL [.ref 0, .int (nI p), .int 1] 3) [] (LY ++ ext) VI VL (vr G) 0 0 P := by
  have h6 := hW.n
  refine x_aload_n rfl rfl ?_
  refine x_getR (u := .ref _) rfl rfl rfl rfl ?_
  refine x_iload_n rfl rfl ?_
  refine x_callV (M' := mi95) (As := [_]) (bc1 := 0) (bs1 := 0) (bc2 := 0) (bs2 := 0) rfl rfl rfl rfl ok95 rfl rfl (by decide) rfl rfl rfl rfl rfl rfl ?_
  refine s_hasPerson_in hX.n hp hW.n ?_
  refine x_if_ne rfl (fun c8 => ?_) (fun c8 => ?_)
  rotate_left
  · exact absurd c8 (by first | decide | omega)
  refine x_iload_n rfl rfl ?_
  skip
  refine x_swIn (tgt := 50) rfl (by decide) (by decide) rfl rfl ?_
  refine x_aload_n rfl rfl ?_
  refine x_getR (u := .ref _) rfl rfl rfl rfl ?_
  refine x_getR (u := .ref _) rfl rfl rfl rfl ?_
  refine x_iload_n rfl rfl ?_
  refine x_ialE (j := p) rfl rfl (rfl) (by omega) (hX.age hp) ?_
  refine x_iret rfl rfl ?_
  exact hP
set_option maxRecDepth 20000 in
theorem m_of_1 {p : Nat} (hM : RK (VI 76) K) (hW : WF K) (hp : p < K 93) (hP : P (some (.int (nI (K (45 + p))))) (LY ++ ext) VI VL (vr G)) : Ex (d + 2) mi174 0 (entL [.ref 74, .int (nI p), .int 1] 3) [] (LY ++ ext) VI VL (vr G) 0 0 P := by
  have h6 := hW.n
  refine x_aload_n rfl rfl ?_
  refine x_iload_n rfl rfl ?_
  refine x_callV (M' := mi164) (As := [_]) (bc1 := 0) (bs1 := 0) (bc2 := 0) (bs2 := 0) rfl rfl rfl rfl ok164 rfl rfl (by decide) rfl rfl rfl rfl rfl rfl ?_
  refine m_isPersonK hM hW ?_
  rw [hasF_in hp (by omega)]
  refine x_if_ne rfl (fun c5 => ?_) (fun c5 => ?_)
  rotate_left
  · exact absurd c5 (by first | decide | omega)
  refine x_iload_n rfl rfl ?_
  skip
  refine x_swIn (tgt := 46) rfl (by decide) (by decide) rfl rfl ?_
  refine x_aload_n rfl rfl ?_
  refine x_getR (u := .ref _) rfl rfl rfl rfl ?_
  refine x_bipushN (q := 45) rfl ?_
  refine x_iload_n rfl rfl ?_
  refine x_iaddN rfl ?_
  refine x_ialE (j := 45 + p) rfl rfl (rfl) (by omega) (hM.at (45 + p)) ?_
  refine x_iret rfl rfl ?_
  exact hP
set_option maxRecDepth 20000 in
theorem lm_bit {K : KT} (hW : WF K) {p : Nat} (hp : p < K 93) : b1 ((lmK K).testBit p) = nI (K (24 + p)) := by
  have h1 := hW.life hp
  rw [mskN_bit (fun i hi => hW.life hi) p hp]
  rcases (show K (24 + p) = 0 ∨ K (24 + p) = 1 by omega) with q | q <;> rw [q] <;> decide
set_option maxRecDepth 20000 in
theorem dm_bit {K : KT} (hW : WF K) {p : Nat} (hp : p < K 94) : b1 ((dmK K).testBit p) = nI (K (30 + p)) := by
  have h1 := (hW.roll hp).1
  rw [mskN_bit (fun i hi => (hW.roll hi).1) p hp]
  rcases (show K (30 + p) = 0 ∨ K (30 + p) = 1 by omega) with q | q <;> rw [q] <;> decide
set_option maxRecDepth 20000 in
theorem b01 {f : Nat} (hf : f ≤ 1) {c : Prop} (h : nI f = 0) : (0 : Int32) = nI f := h.symm
set_option maxRecDepth 20000 in
theorem b02 {f : Nat} (hf : f ≤ 1) (h : ¬ nI f = 0) : (1 : Int32) = nI f := by
  rcases (show f = 0 ∨ f = 1 by omega) with q | q
  · subst q; exact absurd rfl h
  · subst q; rfl
set_option maxRecDepth 20000 in
theorem x_of_2 {p : Nat} (hX : RW 3 K VI) (hW : WF K) (hp : p < K 93) (hP : P (some (.int (nI (K (24 + p))))) (LY ++ ext) VI VL (vr G)) : Ex (d + 2) mi110 0 (entL [.ref 0, .int (nI p), .int 2] 3) [] (LY ++ ext) VI VL (vr G) 0 0 P := by
  have h6 := hW.n
  refine x_aload_n rfl rfl ?_
  refine x_getR (u := .ref _) rfl rfl rfl rfl ?_
  refine x_iload_n rfl rfl ?_
  refine x_callV (M' := mi95) (As := [_]) (bc1 := 0) (bs1 := 0) (bc2 := 0) (bs2 := 0) rfl rfl rfl rfl ok95 rfl rfl (by decide) rfl rfl rfl rfl rfl rfl ?_
  refine s_hasPerson_in hX.n hp hW.n ?_
  refine x_if_ne rfl (fun c8 => ?_) (fun c8 => ?_)
  rotate_left
  · exact absurd c8 (by first | decide | omega)
  refine x_iload_n rfl rfl ?_
  skip
  refine x_swIn (tgt := 60) rfl (by decide) (by decide) rfl rfl ?_
  refine x_aload_n rfl rfl ?_
  refine x_getR (u := .ref _) rfl rfl rfl rfl ?_
  refine x_iload_n rfl rfl ?_
  refine x_callV (M' := mi98) (As := [_]) (bc1 := 0) (bs1 := 0) (bc2 := 0) (bs2 := 0) rfl rfl rfl rfl ok98 rfl rfl (by decide) rfl rfl rfl rfl rfl rfl ?_
  refine s_lives_in hX.n hX.lm hp hW.n hW.lm ?_
  rw [lm_bit hW hp]
  refine x_if_eq rfl (fun c68 => ?_) (fun c68 => ?_)
  · refine x_iconst rfl ?_
    refine x_iret rfl rfl ?_
    first | exact P_i c68.symm hP | exact P_i (b02 (hW.life hp) c68) hP
  · refine x_iconst rfl ?_
    refine x_goto rfl ?_
    refine x_iret rfl rfl ?_
    first | exact P_i c68.symm hP | exact P_i (b02 (hW.life hp) c68) hP
set_option maxRecDepth 20000 in
theorem m_of_2 {p : Nat} (hM : RK (VI 76) K) (hW : WF K) (hp : p < K 93) (hP : P (some (.int (nI (K (24 + p))))) (LY ++ ext) VI VL (vr G)) : Ex (d + 2) mi174 0 (entL [.ref 74, .int (nI p), .int 2] 3) [] (LY ++ ext) VI VL (vr G) 0 0 P := by
  have h6 := hW.n
  refine x_aload_n rfl rfl ?_
  refine x_iload_n rfl rfl ?_
  refine x_callV (M' := mi164) (As := [_]) (bc1 := 0) (bs1 := 0) (bc2 := 0) (bs2 := 0) rfl rfl rfl rfl ok164 rfl rfl (by decide) rfl rfl rfl rfl rfl rfl ?_
  refine m_isPersonK hM hW ?_
  rw [hasF_in hp (by omega)]
  refine x_if_ne rfl (fun c5 => ?_) (fun c5 => ?_)
  rotate_left
  · exact absurd c5 (by first | decide | omega)
  refine x_iload_n rfl rfl ?_
  skip
  refine x_swIn (tgt := 56) rfl (by decide) (by decide) rfl rfl ?_
  refine x_aload_n rfl rfl ?_
  refine x_getR (u := .ref _) rfl rfl rfl rfl ?_
  refine x_bipushN (q := 24) rfl ?_
  refine x_iload_n rfl rfl ?_
  refine x_iaddN rfl ?_
  refine x_ialE (j := 24 + p) rfl rfl (rfl) (by omega) (hM.at (24 + p)) ?_
  refine x_iret rfl rfl ?_
  exact hP
set_option maxRecDepth 20000 in
theorem x_of_3 {p q : Nat} (hX : RW 3 K VI) (hW : WF K) (hp : p < K 93) (hq : q < 4) (hP : P (some (.int (nI (K (4 * p + q))))) (LY ++ ext) VI VL (vr G)) : Ex (d + 2) mi110 0 (entL [.ref 0, .int (nI p), .int (nI (q + 3))] 3) [] (LY ++ ext) VI VL (vr G) 0 0 P := by
  have h6 := hW.n
  refine x_aload_n rfl rfl ?_
  refine x_getR (u := .ref _) rfl rfl rfl rfl ?_
  refine x_iload_n rfl rfl ?_
  refine x_callV (M' := mi95) (As := [_]) (bc1 := 0) (bs1 := 0) (bc2 := 0) (bs2 := 0) rfl rfl rfl rfl ok95 rfl rfl (by decide) rfl rfl rfl rfl rfl rfl ?_
  refine s_hasPerson_in hX.n hp hW.n ?_
  refine x_if_ne rfl (fun c8 => ?_) (fun c8 => ?_)
  rotate_left
  · exact absurd c8 (by first | decide | omega)
  refine x_iload_n rfl rfl ?_
  skip
  refine x_swOut (tgt := 77) rfl (Or.inr (by rw [nI_toInt (by omega)]; omega)) rfl ?_
  refine x_iload_n rfl rfl ?_
  refine x_iconstN (q := 3) rfl ?_
  refine x_icmpN_ge rfl (fun c79 => ?_) (fun c79 => ?_)
  rotate_left
  · exact absurd c79 (by first | decide | omega)
  refine x_aload_n rfl rfl ?_
  refine x_getR (u := .ref _) rfl rfl rfl rfl ?_
  refine x_iload_n rfl rfl ?_
  refine x_iload_n rfl rfl ?_
  refine x_iconstN (q := 3) rfl ?_
  refine x_isubN rfl ?_
  refine x_callV (M' := mi101) (As := [_, _]) (bc1 := 0) (bs1 := 0) (bc2 := 0) (bs2 := 0) rfl rfl rfl rfl ok101 rfl rfl (by decide) rfl rfl rfl rfl rfl rfl ?_
  refine s_markOf_in hX.n hp hW.n (by omega) ?_
  rw [Nat.add_sub_cancel, hX.mark hp hq]
  refine x_iret rfl rfl ?_
  exact hP
set_option maxRecDepth 20000 in
theorem m_of_3 {p q : Nat} (hM : RK (VI 76) K) (hW : WF K) (hp : p < K 93) (hq : q < 4) (hP : P (some (.int (nI (K (4 * p + q))))) (LY ++ ext) VI VL (vr G)) : Ex (d + 2) mi174 0 (entL [.ref 74, .int (nI p), .int (nI (q + 3))] 3) [] (LY ++ ext) VI VL (vr G) 0 0 P := by
  have h6 := hW.n
  refine x_aload_n rfl rfl ?_
  refine x_iload_n rfl rfl ?_
  refine x_callV (M' := mi164) (As := [_]) (bc1 := 0) (bs1 := 0) (bc2 := 0) (bs2 := 0) rfl rfl rfl rfl ok164 rfl rfl (by decide) rfl rfl rfl rfl rfl rfl ?_
  refine m_isPersonK hM hW ?_
  rw [hasF_in hp (by omega)]
  refine x_if_ne rfl (fun c5 => ?_) (fun c5 => ?_)
  rotate_left
  · exact absurd c5 (by first | decide | omega)
  refine x_iload_n rfl rfl ?_
  skip
  refine x_swOut (tgt := 66) rfl (Or.inr (by rw [nI_toInt (by omega)]; omega)) rfl ?_
  refine x_iload_n rfl rfl ?_
  refine x_iconstN (q := 3) rfl ?_
  refine x_isubN rfl ?_
  refine x_callS (M' := mi166) (As := [_]) (bc1 := 0) (bs1 := 0) (bc2 := 0) (bs2 := 0) rfl rfl rfl rfl ok166 rfl rfl rfl rfl rfl rfl ?_
  refine m_isDayK ?_
  rw [Nat.add_sub_cancel, show (4 : Int32) = nI 4 from rfl, hasF_in hq (by omega)]
  refine x_if_eq rfl (fun c72 => ?_) (fun c72 => ?_)
  · exact absurd c72 (by first | decide | omega)
  refine x_aload_n rfl rfl ?_
  refine x_iload_n rfl rfl ?_
  refine x_iload_n rfl rfl ?_
  refine x_iconstN (q := 3) rfl ?_
  refine x_isubN rfl ?_
  refine x_callV (M' := mi168) (As := [_, _]) (bc1 := 0) (bs1 := 0) (bc2 := 0) (bs2 := 0) rfl rfl rfl rfl ok168 rfl rfl (by decide) rfl rfl rfl rfl rfl rfl ?_
  refine m_markOf (by omega) (by omega) ?_
  rw [Nat.add_sub_cancel, hM.at (4 * p + q)]
  refine x_goto rfl ?_
  refine x_iret rfl rfl ?_
  exact hP
set_option maxRecDepth 20000 in
theorem x_of_big {p q : Nat} (hX : RW 3 K VI) (hW : WF K) (hp : p < K 93) (hq : 4 ≤ q) (hq2 : q + 3 < 2147483648) (hP : P (some (.int (-1))) (LY ++ ext) VI VL (vr G)) : Ex (d + 2) mi110 0 (entL [.ref 0, .int (nI p), .int (nI (q + 3))] 3) [] (LY ++ ext) VI VL (vr G) 0 0 P := by
  have h6 := hW.n
  refine x_aload_n rfl rfl ?_
  refine x_getR (u := .ref _) rfl rfl rfl rfl ?_
  refine x_iload_n rfl rfl ?_
  refine x_callV (M' := mi95) (As := [_]) (bc1 := 0) (bs1 := 0) (bc2 := 0) (bs2 := 0) rfl rfl rfl rfl ok95 rfl rfl (by decide) rfl rfl rfl rfl rfl rfl ?_
  refine s_hasPerson_in hX.n hp hW.n ?_
  refine x_if_ne rfl (fun c8 => ?_) (fun c8 => ?_)
  rotate_left
  · exact absurd c8 (by first | decide | omega)
  refine x_iload_n rfl rfl ?_
  skip
  refine x_swOut (tgt := 77) rfl (Or.inr (by rw [nI_toInt (by omega)]; omega)) rfl ?_
  refine x_iload_n rfl rfl ?_
  refine x_iconstN (q := 3) rfl ?_
  refine x_icmpN_ge rfl (fun c79 => ?_) (fun c79 => ?_)
  rotate_left
  · exact absurd c79 (by first | decide | omega)
  refine x_aload_n rfl rfl ?_
  refine x_getR (u := .ref _) rfl rfl rfl rfl ?_
  refine x_iload_n rfl rfl ?_
  refine x_iload_n rfl rfl ?_
  refine x_iconstN (q := 3) rfl ?_
  refine x_isubN rfl ?_
  refine x_callV (M' := mi101) (As := [_, _]) (bc1 := 0) (bs1 := 0) (bc2 := 0) (bs2 := 0) rfl rfl rfl rfl ok101 rfl rfl (by decide) rfl rfl rfl rfl rfl rfl ?_
  refine s_markOf_out (Or.inr (by rw [Nat.add_sub_cancel, show (4 : Int32) = nI 4 from rfl, hasF_bigN hq (by omega)])) ?_
  refine x_iret rfl rfl ?_
  exact hP
set_option maxRecDepth 20000 in
theorem m_of_big {p q : Nat} (hM : RK (VI 76) K) (hW : WF K) (hp : p < K 93) (hq : 4 ≤ q) (hq2 : q + 3 < 2147483648) (hP : P (some (.int (-1))) (LY ++ ext) VI VL (vr G)) : Ex (d + 2) mi174 0 (entL [.ref 74, .int (nI p), .int (nI (q + 3))] 3) [] (LY ++ ext) VI VL (vr G) 0 0 P := by
  have h6 := hW.n
  refine x_aload_n rfl rfl ?_
  refine x_iload_n rfl rfl ?_
  refine x_callV (M' := mi164) (As := [_]) (bc1 := 0) (bs1 := 0) (bc2 := 0) (bs2 := 0) rfl rfl rfl rfl ok164 rfl rfl (by decide) rfl rfl rfl rfl rfl rfl ?_
  refine m_isPersonK hM hW ?_
  rw [hasF_in hp (by omega)]
  refine x_if_ne rfl (fun c5 => ?_) (fun c5 => ?_)
  rotate_left
  · exact absurd c5 (by first | decide | omega)
  refine x_iload_n rfl rfl ?_
  skip
  refine x_swOut (tgt := 66) rfl (Or.inr (by rw [nI_toInt (by omega)]; omega)) rfl ?_
  refine x_iload_n rfl rfl ?_
  refine x_iconstN (q := 3) rfl ?_
  refine x_isubN rfl ?_
  refine x_callS (M' := mi166) (As := [_]) (bc1 := 0) (bs1 := 0) (bc2 := 0) (bs2 := 0) rfl rfl rfl rfl ok166 rfl rfl rfl rfl rfl rfl ?_
  refine m_isDayK ?_
  rw [Nat.add_sub_cancel, show (4 : Int32) = nI 4 from rfl, hasF_bigN hq (by omega)]
  refine x_if_eq rfl (fun c72 => ?_) (fun c72 => ?_)
  rotate_left
  · exact absurd c72 (by first | decide | omega)
  refine x_iconst rfl ?_
  refine x_iret rfl rfl ?_
  exact hP
set_option maxRecDepth 20000 in
theorem x_of_neg {p : Nat} {w : Int32} (hX : RW 3 K VI) (hW : WF K) (hp : p < K 93) (hw : w < 0) (hP : P (some (.int (-1))) (LY ++ ext) VI VL (vr G)) : Ex (d + 2) mi110 0 (entL [.ref 0, .int (nI p), .int w] 3) [] (LY ++ ext) VI VL (vr G) 0 0 P := by
  have hw2 := Int32.lt_iff_toInt_lt.mp hw
  have e0 : (0 : Int32).toInt = 0 := rfl
  have h3 : ¬ (3 : Int32) ≤ w := by
    rw [Int32.le_iff_toInt_le]
    have e3 : (3 : Int32).toInt = 3 := rfl
    omega
  have h6 := hW.n
  refine x_aload_n rfl rfl ?_
  refine x_getR (u := .ref _) rfl rfl rfl rfl ?_
  refine x_iload_n rfl rfl ?_
  refine x_callV (M' := mi95) (As := [_]) (bc1 := 0) (bs1 := 0) (bc2 := 0) (bs2 := 0) rfl rfl rfl rfl ok95 rfl rfl (by decide) rfl rfl rfl rfl rfl rfl ?_
  refine s_hasPerson_in hX.n hp hW.n ?_
  refine x_if_ne rfl (fun c8 => ?_) (fun c8 => ?_)
  rotate_left
  · exact absurd c8 (by first | decide | omega)
  refine x_iload_n rfl rfl ?_
  skip
  refine x_swOut (tgt := 77) rfl (Or.inl (by omega)) rfl ?_
  refine x_iload_n rfl rfl ?_
  refine x_iconst rfl ?_
  refine x_icmp_ge rfl (fun c79 => ?_) (fun c79 => ?_)
  · exact absurd c79 h3
  refine x_iconst rfl ?_
  refine x_goto rfl ?_
  refine x_iret rfl rfl ?_
  exact hP
set_option maxRecDepth 20000 in
theorem m_of_neg {p : Nat} {w : Int32} (hM : RK (VI 76) K) (hW : WF K) (hp : p < K 93) (hw : w < 0) (hP : P (some (.int (-1))) (LY ++ ext) VI VL (vr G)) : Ex (d + 2) mi174 0 (entL [.ref 74, .int (nI p), .int w] 3) [] (LY ++ ext) VI VL (vr G) 0 0 P := by
  have hw2 := Int32.lt_iff_toInt_lt.mp hw
  have e0 : (0 : Int32).toInt = 0 := rfl
  have h6 := hW.n
  refine x_aload_n rfl rfl ?_
  refine x_iload_n rfl rfl ?_
  refine x_callV (M' := mi164) (As := [_]) (bc1 := 0) (bs1 := 0) (bc2 := 0) (bs2 := 0) rfl rfl rfl rfl ok164 rfl rfl (by decide) rfl rfl rfl rfl rfl rfl ?_
  refine m_isPersonK hM hW ?_
  rw [hasF_in hp (by omega)]
  refine x_if_ne rfl (fun c5 => ?_) (fun c5 => ?_)
  rotate_left
  · exact absurd c5 (by first | decide | omega)
  refine x_iload_n rfl rfl ?_
  skip
  refine x_swOut (tgt := 66) rfl (Or.inl (by omega)) rfl ?_
  refine x_iload_n rfl rfl ?_
  refine x_iconst rfl ?_
  refine x_isub rfl ?_
  refine x_callS (M' := mi166) (As := [_]) (bc1 := 0) (bs1 := 0) (bc2 := 0) (bs2 := 0) rfl rfl rfl rfl ok166 rfl rfl rfl rfl rfl rfl ?_
  refine m_isDay ?_
  rw [sub3neg hw]
  refine x_if_eq rfl (fun c72 => ?_) (fun c72 => ?_)
  rotate_left
  · exact absurd c72 (by first | decide | omega)
  refine x_iconst rfl ?_
  refine x_iret rfl rfl ?_
  exact hP
set_option maxRecDepth 20000 in
theorem x_at_out {p w : Int32} (hX : RW 3 K VI) (h : hasF (nI (K 94)) p = 0) (hP : P (some (.int (-1))) (LY ++ ext) VI VL (vr G)) : Ex (d + 4) mi112 0 (entL [.ref 0, .int p, .int w] 3) [] (LY ++ ext) VI VL (vr G) 0 0 P := by
  refine x_aload_n rfl rfl ?_
  refine x_getR (u := .ref _) rfl rfl rfl rfl ?_
  refine x_iload_n rfl rfl ?_
  refine x_callV (M' := mi96) (As := [_]) (bc1 := 0) (bs1 := 0) (bc2 := 0) (bs2 := 0) rfl rfl rfl rfl ok96 rfl rfl (by decide) rfl rfl rfl rfl rfl rfl ?_
  refine s_hasRollK hX ?_
  refine x_if_ne rfl (fun c8 => ?_) (fun c8 => ?_)
  · exact absurd h c8
  refine x_iconst rfl ?_
  refine x_iret rfl rfl ?_
  exact hP
set_option maxRecDepth 20000 in
theorem m_at_out {p w : Int32} (hM : RK (VI 76) K) (hW : WF K) (h : hasF (nI (K 94)) p = 0) (hP : P (some (.int (-1))) (LY ++ ext) VI VL (vr G)) : Ex (d + 4) mi183 0 (entL [.ref 74, .int p, .int w] 3) [] (LY ++ ext) VI VL (vr G) 0 0 P := by
  refine x_aload_n rfl rfl ?_
  refine x_iload_n rfl rfl ?_
  refine x_callV (M' := mi165) (As := [_]) (bc1 := 0) (bs1 := 0) (bc2 := 0) (bs2 := 0) rfl rfl rfl rfl ok165 rfl rfl (by decide) rfl rfl rfl rfl rfl rfl ?_
  refine m_isRollK hM hW ?_
  refine x_if_ne rfl (fun c5 => ?_) (fun c5 => ?_)
  · exact absurd h c5
  refine x_iconst rfl ?_
  refine x_iret rfl rfl ?_
  exact hP
set_option maxRecDepth 20000 in
theorem x_at_0 {r : Nat} (hX : RW 3 K VI) (hW : WF K) (hr : r < K 94) (hP : P (some (.int (nI (K (51 + r))))) (LY ++ ext) VI VL (vr G)) : Ex (d + 4) mi112 0 (entL [.ref 0, .int (nI r), .int 0] 3) [] (LY ++ ext) VI VL (vr G) 0 0 P := by
  have h8 : K 94 ≤ 8 := hW.2.1
  refine x_aload_n rfl rfl ?_
  refine x_getR (u := .ref _) rfl rfl rfl rfl ?_
  refine x_iload_n rfl rfl ?_
  refine x_callV (M' := mi96) (As := [_]) (bc1 := 0) (bs1 := 0) (bc2 := 0) (bs2 := 0) rfl rfl rfl rfl ok96 rfl rfl (by decide) rfl rfl rfl rfl rfl rfl ?_
  refine s_hasRollK hX ?_
  rw [hasF_in hr (by omega)]
  refine x_if_ne rfl (fun c8 => ?_) (fun c8 => ?_)
  rotate_left
  · exact absurd c8 (by first | decide | omega)
  refine x_iload_n rfl rfl ?_
  skip
  refine x_swIn (tgt := 44) rfl (by decide) (by decide) rfl rfl ?_
  refine x_aload_n rfl rfl ?_
  refine x_getR (u := .ref _) rfl rfl rfl rfl ?_
  refine x_getR (u := .ref _) rfl rfl rfl rfl ?_
  refine x_iload_n rfl rfl ?_
  refine x_ialE (j := r) rfl rfl (rfl) (by omega) (hX.rday hr) ?_
  refine x_iret rfl rfl ?_
  exact hP
set_option maxRecDepth 20000 in
theorem m_at_0 {r : Nat} (hM : RK (VI 76) K) (hW : WF K) (hr : r < K 94) (hP : P (some (.int (nI (K (51 + r))))) (LY ++ ext) VI VL (vr G)) : Ex (d + 4) mi183 0 (entL [.ref 74, .int (nI r), .int 0] 3) [] (LY ++ ext) VI VL (vr G) 0 0 P := by
  have h8 : K 94 ≤ 8 := hW.2.1
  refine x_aload_n rfl rfl ?_
  refine x_iload_n rfl rfl ?_
  refine x_callV (M' := mi165) (As := [_]) (bc1 := 0) (bs1 := 0) (bc2 := 0) (bs2 := 0) rfl rfl rfl rfl ok165 rfl rfl (by decide) rfl rfl rfl rfl rfl rfl ?_
  refine m_isRollK hM hW ?_
  rw [hasF_in hr (by omega)]
  refine x_if_ne rfl (fun c5 => ?_) (fun c5 => ?_)
  rotate_left
  · exact absurd c5 (by first | decide | omega)
  refine x_iload_n rfl rfl ?_
  skip
  refine x_swIn (tgt := 40) rfl (by decide) (by decide) rfl rfl ?_
  refine x_aload_n rfl rfl ?_
  refine x_getR (u := .ref _) rfl rfl rfl rfl ?_
  refine x_bipushN (q := 51) rfl ?_
  refine x_iload_n rfl rfl ?_
  refine x_iaddN rfl ?_
  refine x_ialE (j := 51 + r) rfl rfl (rfl) (by omega) (hM.at (51 + r)) ?_
  refine x_iret rfl rfl ?_
  exact hP
set_option maxRecDepth 20000 in
theorem x_at_1 {r : Nat} (hX : RW 3 K VI) (hW : WF K) (hr : r < K 94) (hP : P (some (.int (nI (K (59 + r))))) (LY ++ ext) VI VL (vr G)) : Ex (d + 4) mi112 0 (entL [.ref 0, .int (nI r), .int 1] 3) [] (LY ++ ext) VI VL (vr G) 0 0 P := by
  have h8 : K 94 ≤ 8 := hW.2.1
  refine x_aload_n rfl rfl ?_
  refine x_getR (u := .ref _) rfl rfl rfl rfl ?_
  refine x_iload_n rfl rfl ?_
  refine x_callV (M' := mi96) (As := [_]) (bc1 := 0) (bs1 := 0) (bc2 := 0) (bs2 := 0) rfl rfl rfl rfl ok96 rfl rfl (by decide) rfl rfl rfl rfl rfl rfl ?_
  refine s_hasRollK hX ?_
  rw [hasF_in hr (by omega)]
  refine x_if_ne rfl (fun c8 => ?_) (fun c8 => ?_)
  rotate_left
  · exact absurd c8 (by first | decide | omega)
  refine x_iload_n rfl rfl ?_
  skip
  refine x_swIn (tgt := 54) rfl (by decide) (by decide) rfl rfl ?_
  refine x_aload_n rfl rfl ?_
  refine x_getR (u := .ref _) rfl rfl rfl rfl ?_
  refine x_getR (u := .ref _) rfl rfl rfl rfl ?_
  refine x_iload_n rfl rfl ?_
  refine x_ialE (j := r) rfl rfl (rfl) (by omega) (hX.ron hr) ?_
  refine x_iret rfl rfl ?_
  exact hP
set_option maxRecDepth 20000 in
theorem m_at_1 {r : Nat} (hM : RK (VI 76) K) (hW : WF K) (hr : r < K 94) (hP : P (some (.int (nI (K (59 + r))))) (LY ++ ext) VI VL (vr G)) : Ex (d + 4) mi183 0 (entL [.ref 74, .int (nI r), .int 1] 3) [] (LY ++ ext) VI VL (vr G) 0 0 P := by
  have h8 : K 94 ≤ 8 := hW.2.1
  refine x_aload_n rfl rfl ?_
  refine x_iload_n rfl rfl ?_
  refine x_callV (M' := mi165) (As := [_]) (bc1 := 0) (bs1 := 0) (bc2 := 0) (bs2 := 0) rfl rfl rfl rfl ok165 rfl rfl (by decide) rfl rfl rfl rfl rfl rfl ?_
  refine m_isRollK hM hW ?_
  rw [hasF_in hr (by omega)]
  refine x_if_ne rfl (fun c5 => ?_) (fun c5 => ?_)
  rotate_left
  · exact absurd c5 (by first | decide | omega)
  refine x_iload_n rfl rfl ?_
  skip
  refine x_swIn (tgt := 50) rfl (by decide) (by decide) rfl rfl ?_
  refine x_aload_n rfl rfl ?_
  refine x_getR (u := .ref _) rfl rfl rfl rfl ?_
  refine x_bipushN (q := 59) rfl ?_
  refine x_iload_n rfl rfl ?_
  refine x_iaddN rfl ?_
  refine x_ialE (j := 59 + r) rfl rfl (rfl) (by omega) (hM.at (59 + r)) ?_
  refine x_iret rfl rfl ?_
  exact hP
set_option maxRecDepth 20000 in
theorem x_at_2 {r : Nat} (hX : RW 3 K VI) (hW : WF K) (hr : r < K 94) (hP : P (some (.int (nI (K (30 + r))))) (LY ++ ext) VI VL (vr G)) : Ex (d + 4) mi112 0 (entL [.ref 0, .int (nI r), .int 2] 3) [] (LY ++ ext) VI VL (vr G) 0 0 P := by
  have h8 : K 94 ≤ 8 := hW.2.1
  refine x_aload_n rfl rfl ?_
  refine x_getR (u := .ref _) rfl rfl rfl rfl ?_
  refine x_iload_n rfl rfl ?_
  refine x_callV (M' := mi96) (As := [_]) (bc1 := 0) (bs1 := 0) (bc2 := 0) (bs2 := 0) rfl rfl rfl rfl ok96 rfl rfl (by decide) rfl rfl rfl rfl rfl rfl ?_
  refine s_hasRollK hX ?_
  rw [hasF_in hr (by omega)]
  refine x_if_ne rfl (fun c8 => ?_) (fun c8 => ?_)
  rotate_left
  · exact absurd c8 (by first | decide | omega)
  refine x_iload_n rfl rfl ?_
  skip
  refine x_swIn (tgt := 64) rfl (by decide) (by decide) rfl rfl ?_
  refine x_aload_n rfl rfl ?_
  refine x_getR (u := .ref _) rfl rfl rfl rfl ?_
  refine x_iload_n rfl rfl ?_
  refine x_callV (M' := mi99) (As := [_]) (bc1 := 0) (bs1 := 0) (bc2 := 0) (bs2 := 0) rfl rfl rfl rfl ok99 rfl rfl (by decide) rfl rfl rfl rfl rfl rfl ?_
  refine s_isDone_in hX.rn hX.dm hr hW.2.1 hW.dm ?_
  rw [dm_bit hW hr]
  refine x_if_eq rfl (fun c72 => ?_) (fun c72 => ?_)
  · refine x_iconst rfl ?_
    refine x_iret rfl rfl ?_
    first | exact P_i c72.symm hP | exact P_i (b02 (hW.roll hr).1 c72) hP
  · refine x_iconst rfl ?_
    refine x_goto rfl ?_
    refine x_iret rfl rfl ?_
    first | exact P_i c72.symm hP | exact P_i (b02 (hW.roll hr).1 c72) hP
set_option maxRecDepth 20000 in
theorem m_at_2 {r : Nat} (hM : RK (VI 76) K) (hW : WF K) (hr : r < K 94) (hP : P (some (.int (nI (K (30 + r))))) (LY ++ ext) VI VL (vr G)) : Ex (d + 4) mi183 0 (entL [.ref 74, .int (nI r), .int 2] 3) [] (LY ++ ext) VI VL (vr G) 0 0 P := by
  have h8 : K 94 ≤ 8 := hW.2.1
  refine x_aload_n rfl rfl ?_
  refine x_iload_n rfl rfl ?_
  refine x_callV (M' := mi165) (As := [_]) (bc1 := 0) (bs1 := 0) (bc2 := 0) (bs2 := 0) rfl rfl rfl rfl ok165 rfl rfl (by decide) rfl rfl rfl rfl rfl rfl ?_
  refine m_isRollK hM hW ?_
  rw [hasF_in hr (by omega)]
  refine x_if_ne rfl (fun c5 => ?_) (fun c5 => ?_)
  rotate_left
  · exact absurd c5 (by first | decide | omega)
  refine x_iload_n rfl rfl ?_
  skip
  refine x_swIn (tgt := 60) rfl (by decide) (by decide) rfl rfl ?_
  refine x_aload_n rfl rfl ?_
  refine x_getR (u := .ref _) rfl rfl rfl rfl ?_
  refine x_bipushN (q := 30) rfl ?_
  refine x_iload_n rfl rfl ?_
  refine x_iaddN rfl ?_
  refine x_ialE (j := 30 + r) rfl rfl (rfl) (by omega) (hM.at (30 + r)) ?_
  refine x_iret rfl rfl ?_
  exact hP
set_option maxRecDepth 20000 in
theorem agK_lt100 {K : KT} (hW : WF K) {r : Nat} (hr : r < K 94) : ∀ c, (agK K r).map z100 = some c → c < 1000 := by
  intro c hc
  cases h : agK K r with
  | none => rw [h] at hc; cases hc
  | some x =>
    rw [h] at hc
    have := agK_lt hW hr x h
    cases hc
    unfold z100
    split <;> omega
def agF (K : KT) (r : Nat) : Int32 := if agK K r = none then 0 else 1
set_option maxRecDepth 20000 in
theorem x_at_3 {r : Nat} (hX : RW 3 K VI) (hW : WF K) (hr : r < K 94) (hP : P (some (.int (agF K r))) (LY ++ ext) VI VL (vr G)) : Ex (d + 4) mi112 0 (entL [.ref 0, .int (nI r), .int 3] 3) [] (LY ++ ext) VI VL (vr G) 0 0 P := by
  have h8 : K 94 ≤ 8 := hW.2.1
  refine x_aload_n rfl rfl ?_
  refine x_getR (u := .ref _) rfl rfl rfl rfl ?_
  refine x_iload_n rfl rfl ?_
  refine x_callV (M' := mi96) (As := [_]) (bc1 := 0) (bs1 := 0) (bc2 := 0) (bs2 := 0) rfl rfl rfl rfl ok96 rfl rfl (by decide) rfl rfl rfl rfl rfl rfl ?_
  refine s_hasRollK hX ?_
  rw [hasF_in hr (by omega)]
  refine x_if_ne rfl (fun c8 => ?_) (fun c8 => ?_)
  rotate_left
  · exact absurd c8 (by first | decide | omega)
  refine x_iload_n rfl rfl ?_
  skip
  refine x_swIn (tgt := 81) rfl (by decide) (by decide) rfl rfl ?_
  refine x_aload_n rfl rfl ?_
  refine x_getR (u := .ref _) rfl rfl rfl rfl ?_
  refine x_iload_n rfl rfl ?_
  refine x_callV (M' := mi107) (As := [_]) (bc1 := 0) (bs1 := 0) (bc2 := 0) (bs2 := 0) rfl rfl rfl rfl ok107 rfl rfl (by decide) rfl rfl rfl rfl rfl rfl ?_
  refine s_accordK hX hW hr ?_
  refine x_iconst rfl ?_
  refine x_icmp_eq rfl (fun c90 => ?_) (fun c90 => ?_)
  · refine x_iconst rfl ?_
    refine x_iret rfl rfl ?_
    rw [agI_none (agK_lt100 hW hr), Option.map_eq_none_iff] at c90
    exact P_i (by simp [agF, c90]) hP
  · refine x_iconst rfl ?_
    refine x_goto rfl ?_
    refine x_iret rfl rfl ?_
    rw [agI_none (agK_lt100 hW hr), Option.map_eq_none_iff] at c90
    exact P_i (by simp [agF, c90]) hP
set_option maxRecDepth 20000 in
theorem m_at_3 {r : Nat} (hM : RK (VI 76) K) (hW : WF K) (hr : r < K 94) (hP : P (some (.int (agF K r))) (LY ++ ext) VI VL (vr G)) : Ex (d + 4) mi183 0 (entL [.ref 74, .int (nI r), .int 3] 3) [] (LY ++ ext) VI VL (vr G) 0 0 P := by
  have h8 : K 94 ≤ 8 := hW.2.1
  refine x_aload_n rfl rfl ?_
  refine x_iload_n rfl rfl ?_
  refine x_callV (M' := mi165) (As := [_]) (bc1 := 0) (bs1 := 0) (bc2 := 0) (bs2 := 0) rfl rfl rfl rfl ok165 rfl rfl (by decide) rfl rfl rfl rfl rfl rfl ?_
  refine m_isRollK hM hW ?_
  rw [hasF_in hr (by omega)]
  refine x_if_ne rfl (fun c5 => ?_) (fun c5 => ?_)
  rotate_left
  · exact absurd c5 (by first | decide | omega)
  refine x_iload_n rfl rfl ?_
  skip
  refine x_swIn (tgt := 70) rfl (by decide) (by decide) rfl rfl ?_
  refine x_aload_n rfl rfl ?_
  refine x_iload_n rfl rfl ?_
  refine x_callV (M' := mi182) (As := [_]) (bc1 := 0) (bs1 := 0) (bc2 := 0) (bs2 := 0) rfl rfl rfl rfl ok182 rfl rfl (by decide) rfl rfl rfl rfl rfl rfl ?_
  refine m_agreement hM hW hr ?_
  refine x_iconst rfl ?_
  refine x_icmp_ne rfl (fun c76 => ?_) (fun c76 => ?_)
  · refine x_iconst rfl ?_
    refine x_iret rfl rfl ?_
    rw [agI_none (agK_lt hW hr)] at c76
    exact P_i (by simp [agF, c76]) hP
  · refine x_iconst rfl ?_
    refine x_goto rfl ?_
    refine x_iret rfl rfl ?_
    rw [agI_none (agK_lt hW hr)] at c76
    exact P_i (by simp [agF, c76]) hP
set_option maxRecDepth 20000 in
theorem x_at_d {r : Nat} {w : Int32} (hX : RW 3 K VI) (hW : WF K) (hr : r < K 94) (hw : w.toInt < 0 ∨ 3 < w.toInt) (hP : P (some (.int (-1))) (LY ++ ext) VI VL (vr G)) : Ex (d + 4) mi112 0 (entL [.ref 0, .int (nI r), .int w] 3) [] (LY ++ ext) VI VL (vr G) 0 0 P := by
  have h8 : K 94 ≤ 8 := hW.2.1
  refine x_aload_n rfl rfl ?_
  refine x_getR (u := .ref _) rfl rfl rfl rfl ?_
  refine x_iload_n rfl rfl ?_
  refine x_callV (M' := mi96) (As := [_]) (bc1 := 0) (bs1 := 0) (bc2 := 0) (bs2 := 0) rfl rfl rfl rfl ok96 rfl rfl (by decide) rfl rfl rfl rfl rfl rfl ?_
  refine s_hasRollK hX ?_
  rw [hasF_in hr (by omega)]
  refine x_if_ne rfl (fun c8 => ?_) (fun c8 => ?_)
  rotate_left
  · exact absurd c8 (by first | decide | omega)
  refine x_iload_n rfl rfl ?_
  skip
  refine x_swOut (tgt := 99) rfl hw rfl ?_
  refine x_iconst rfl ?_
  refine x_iret rfl rfl ?_
  exact hP
set_option maxRecDepth 20000 in
theorem m_at_d {r : Nat} {w : Int32} (hM : RK (VI 76) K) (hW : WF K) (hr : r < K 94) (hw : w.toInt < 0 ∨ 3 < w.toInt) (hP : P (some (.int (-1))) (LY ++ ext) VI VL (vr G)) : Ex (d + 4) mi183 0 (entL [.ref 74, .int (nI r), .int w] 3) [] (LY ++ ext) VI VL (vr G) 0 0 P := by
  have h8 : K 94 ≤ 8 := hW.2.1
  refine x_aload_n rfl rfl ?_
  refine x_iload_n rfl rfl ?_
  refine x_callV (M' := mi165) (As := [_]) (bc1 := 0) (bs1 := 0) (bc2 := 0) (bs2 := 0) rfl rfl rfl rfl ok165 rfl rfl (by decide) rfl rfl rfl rfl rfl rfl ?_
  refine m_isRollK hM hW ?_
  rw [hasF_in hr (by omega)]
  refine x_if_ne rfl (fun c5 => ?_) (fun c5 => ?_)
  rotate_left
  · exact absurd c5 (by first | decide | omega)
  refine x_iload_n rfl rfl ?_
  skip
  refine x_swOut (tgt := 85) rfl hw rfl ?_
  refine x_iconst rfl ?_
  refine x_iret rfl rfl ?_
  exact hP
set_option maxRecDepth 20000 in
theorem x_drawn_out {p q : Int32} (h : hasF (VI 70 3) p = 0 ∨ hasF 4 q = 0) (hP : P (some (.int (-1))) (LY ++ ext) VI VL (vr G)) : Ex (d + 1) mi31 0 (entL [.ref 70, .int p, .int q] 3) [] (LY ++ ext) VI VL (vr G) 0 0 P := by
  refine x_iload_n rfl rfl ?_
  refine x_if_lt rfl (fun c1 => ?_) (fun c1 => ?_)
  · refine x_iconst rfl ?_
    refine x_iret rfl rfl ?_
    exact hP
  · refine x_iload_n rfl rfl ?_
    refine x_aload_n rfl rfl ?_
    refine x_getI rfl rfl rfl ?_
    refine x_icmp_ge rfl (fun c9 => ?_) (fun c9 => ?_)
    · refine x_iconst rfl ?_
      refine x_iret rfl rfl ?_
      exact hP
    · refine x_iload_n rfl rfl ?_
      refine x_callN (M' := mi150) (As := [_]) (bc1 := 0) (bs1 := 0) (bc2 := 0) (bs2 := 0) rfl rfl rfl rfl ok150 rfl rfl rfl rfl rfl rfl ?_
      refine s_isDay ?_
      refine x_if_eq rfl (fun c16 => ?_) (fun c16 => ?_)
      · refine x_iconst rfl ?_
        refine x_iret rfl rfl ?_
        exact hP
      · exact absurd h (by rintro (z | z) <;> first | exact absurd z (by rw [hasF, if_neg c1, if_neg c9]; decide) | exact c16 z)
set_option maxRecDepth 20000 in
theorem x_drawn_in {i q : Nat} (hn : VI 70 3 = nI n) (hn6 : n ≤ 6) (hi : i < n) (hq : q < 4) (hP : P (some (.int (VI 71 (i * 4 + q)))) (LY ++ ext) VI VL (vr G)) : Ex (d + 1) mi31 0 (entL [.ref 70, .int (nI i), .int (nI q)] 3) [] (LY ++ ext) VI VL (vr G) 0 0 P := by
  refine x_iload_n rfl rfl ?_
  refine x_ifN_lt rfl ?_
  refine x_iload_n rfl rfl ?_
  refine x_aload_n rfl rfl ?_
  refine x_getE rfl rfl rfl (hn) ?_
  refine x_icmpN_ge rfl (fun c9 => ?_) (fun c9 => ?_)
  · exact absurd c9 (by first | decide | omega)
  refine x_iload_n rfl rfl ?_
  refine x_callN (M' := mi150) (As := [_]) (bc1 := 0) (bs1 := 0) (bc2 := 0) (bs2 := 0) rfl rfl rfl rfl ok150 rfl rfl rfl rfl rfl rfl ?_
  refine s_isDay_in hq ?_
  refine x_if_eq rfl (fun c16 => ?_) (fun c16 => ?_)
  · exact absurd c16 (by first | decide | omega)
  refine x_aload_n rfl rfl ?_
  refine x_getR (u := .ref _) rfl rfl rfl rfl ?_
  refine x_iload_n rfl rfl ?_
  refine x_iconstN (q := 4) rfl ?_
  refine x_imulN rfl ?_
  refine x_iload_n rfl rfl ?_
  refine x_iaddN rfl ?_
  refine x_ialN (j := i * 4 + q) rfl rfl (rfl) (by omega) ?_
  refine x_goto rfl ?_
  refine x_iret rfl rfl ?_
  exact hP
set_option maxRecDepth 20000 in
theorem x_drawnX {p q : Int32} {a : Int32} (h : ∀ P' : Post, P' (some (.int a)) (LY ++ ext) VI VL (vr G) → Ex (d + 1) mi31 0 (entL [.ref 70, .int p, .int q] 3) [] (LY ++ ext) VI VL (vr G) 0 0 P') (hP : P (some (.int a)) (LY ++ ext) VI VL (vr G)) : Ex (d + 2) mi140 0 (entL [.ref 0, .int p, .int q] 3) [] (LY ++ ext) VI VL (vr G) 0 0 P := by
  refine x_aload_n rfl rfl ?_
  refine x_getR (u := .ref _) rfl rfl rfl rfl ?_
  refine x_iload_n rfl rfl ?_
  refine x_iload_n rfl rfl ?_
  refine x_callV (M' := mi31) (As := [_, _]) (bc1 := 0) (bs1 := 0) (bc2 := 0) (bs2 := 0) rfl rfl rfl rfl ok31 rfl rfl (by decide) rfl rfl rfl rfl rfl rfl ?_
  refine h _ ?_
  refine x_iret rfl rfl ?_
  exact hP
set_option maxRecDepth 20000 in
theorem m_drawn_out {p q : Int32} (h : liesF p 0 (VI 74 50 - 1) = false ∨ hasF 4 q = 0) (hP : P (some (.int (-1))) (LY ++ ext) VI VL (vr G)) : Ex (d + 2) mi276 0 (entL [.ref 74, .int p, .int q] 3) [] (LY ++ ext) VI VL (vr G) 0 0 P := by
  refine x_iload_n rfl rfl ?_
  refine x_iconst rfl ?_
  refine x_aload_n rfl rfl ?_
  refine x_getI rfl rfl rfl ?_
  refine x_iconst rfl ?_
  refine x_isub rfl ?_
  refine x_callS (M' := mi152) (As := [_, _, _]) (bc1 := 0) (bs1 := 0) (bc2 := 0) (bs2 := 0) rfl rfl rfl rfl ok152 rfl rfl rfl rfl rfl rfl ?_
  refine m_lies ?_
  refine x_if_eq rfl (fun c11 => ?_) (fun c11 => ?_)
  · refine x_iconst rfl ?_
    refine x_iret rfl rfl ?_
    exact hP
  · refine x_iload_n rfl rfl ?_
    refine x_callS (M' := mi166) (As := [_]) (bc1 := 0) (bs1 := 0) (bc2 := 0) (bs2 := 0) rfl rfl rfl rfl ok166 rfl rfl rfl rfl rfl rfl ?_
    refine m_isDayK ?_
    refine x_if_eq rfl (fun c18 => ?_) (fun c18 => ?_)
    · refine x_iconst rfl ?_
      refine x_iret rfl rfl ?_
      exact hP
    · exact absurd h (by simp [b1_ne c11, c18])
set_option maxRecDepth 20000 in
theorem m_drawn_in {i q : Nat} (hn : VI 74 50 = nI n) (hn6 : n ≤ 6) (hi : i < n) (hq : q < 4) (hP : P (some (.int (VI 99 (4 * i + q)))) (LY ++ ext) VI VL (vr G)) : Ex (d + 2) mi276 0 (entL [.ref 74, .int (nI i), .int (nI q)] 3) [] (LY ++ ext) VI VL (vr G) 0 0 P := by
  have e1 : b1 (liesF (nI i) 0 (nI n - 1)) = 1 := by rw [lies_has (by omega), hasF_in hi (by omega)]
  have e2 : hasF 4 (nI q) = 1 := hasF_in (n := 4) hq (by omega)
  refine x_iload_n rfl rfl ?_
  refine x_iconst rfl ?_
  refine x_aload_n rfl rfl ?_
  refine x_getE rfl rfl rfl (hn) ?_
  refine x_iconst rfl ?_
  refine x_isub rfl ?_
  refine x_callS (M' := mi152) (As := [_, _, _]) (bc1 := 0) (bs1 := 0) (bc2 := 0) (bs2 := 0) rfl rfl rfl rfl ok152 rfl rfl rfl rfl rfl rfl ?_
  refine m_lies ?_
  rw [e1]
  refine x_if_eq rfl (fun c11 => ?_) (fun c11 => ?_)
  · exact absurd c11 (by first | decide | omega)
  refine x_iload_n rfl rfl ?_
  refine x_callS (M' := mi166) (As := [_]) (bc1 := 0) (bs1 := 0) (bc2 := 0) (bs2 := 0) rfl rfl rfl rfl ok166 rfl rfl rfl rfl rfl rfl ?_
  refine m_isDayK ?_
  rw [e2]
  refine x_if_eq rfl (fun c18 => ?_) (fun c18 => ?_)
  · exact absurd c18 (by first | decide | omega)
  refine x_aload_n rfl rfl ?_
  refine x_getR (u := .ref _) rfl rfl rfl rfl ?_
  refine x_iconstN (q := 4) rfl ?_
  refine x_iload_n rfl rfl ?_
  refine x_imulN rfl ?_
  refine x_iload_n rfl rfl ?_
  refine x_iaddN rfl ?_
  refine x_ialN (j := 4 * i + q) rfl rfl (rfl) (by omega) ?_
  refine x_goto rfl ?_
  refine x_iret rfl rfl ?_
  exact hP
set_option maxRecDepth 20000 in
theorem x_refusedWith {v : Int32} (k : Nat) (hv : v = -nI (k + 1)) (hk : k < 6) (hP : P (some (.int (VI 73 k))) (LY ++ ext) VI VL (vr G)) : Ex d mi146 0 (entL [.ref 0, .int v] 2) [] (LY ++ ext) VI VL (vr G) 0 0 P := by
  obtain ⟨e0, e1, e2, e3⟩ := ref_facts hv hk
  refine x_iload_n rfl rfl ?_
  refine x_if_ge rfl (fun c1 => ?_) (fun c1 => ?_)
  · exact absurd c1 e1
  refine x_iload_n rfl rfl ?_
  refine x_bipush rfl ?_
  refine x_icmp_lt rfl (fun c7 => ?_) (fun c7 => ?_)
  · exact absurd c7 e2
  refine x_aload_n rfl rfl ?_
  refine x_getR (u := .ref _) rfl rfl rfl rfl ?_
  refine x_iload_n rfl rfl ?_
  refine x_ineg rfl ?_
  refine x_iconst rfl ?_
  refine x_isub rfl ?_
  refine x_ialN (j := k) rfl rfl (e3) (by omega) ?_
  refine x_goto rfl ?_
  refine x_iret rfl rfl ?_
  exact hP
set_option maxRecDepth 20000 in
theorem x_count0 (hP : P (some (.int (VI 3 0))) (LY ++ ext) VI VL (vr G)) : Ex (d + 1) mi143 0 (entL [.ref 0, .int 0] 2) [] (LY ++ ext) VI VL (vr G) 0 0 P := by
  refine x_iload_n rfl rfl ?_
  skip
  refine x_swIn (tgt := 72) rfl (by decide) (by decide) rfl rfl ?_
  refine x_aload_n rfl rfl ?_
  refine x_getR (u := .ref _) rfl rfl rfl rfl ?_
  refine x_getI rfl rfl rfl ?_
  refine x_iret rfl rfl ?_
  exact hP
set_option maxRecDepth 20000 in
theorem x_count1 (hX : RW 3 K VI) (hW : WF K) (hP : P (some (.int (nI (popN (lmK K) 8)))) (LY ++ ext) VI VL (vr G)) : Ex (d + 1) mi143 0 (entL [.ref 0, .int 1] 2) [] (LY ++ ext) VI VL (vr G) 0 0 P := by
  refine x_iload_n rfl rfl ?_
  skip
  refine x_swIn (tgt := 80) rfl (by decide) (by decide) rfl rfl ?_
  refine x_aload_n rfl rfl ?_
  refine x_getR (u := .ref _) rfl rfl rfl rfl ?_
  refine x_getE rfl rfl rfl (hX.lm) ?_
  refine x_callS (M' := mi280) (As := [_]) (bc1 := 0) (bs1 := 0) (bc2 := 0) (bs2 := 0) rfl rfl rfl rfl ok280 rfl rfl rfl rfl rfl rfl ?_
  refine s_bitCount (Nat.lt_trans hW.lm (by decide)) ?_
  refine x_iret rfl rfl ?_
  exact hP
set_option maxRecDepth 20000 in
theorem x_count2 (hP : P (some (.int (VI 3 5))) (LY ++ ext) VI VL (vr G)) : Ex (d + 1) mi143 0 (entL [.ref 0, .int 2] 2) [] (LY ++ ext) VI VL (vr G) 0 0 P := by
  refine x_iload_n rfl rfl ?_
  skip
  refine x_swIn (tgt := 91) rfl (by decide) (by decide) rfl rfl ?_
  refine x_aload_n rfl rfl ?_
  refine x_getR (u := .ref _) rfl rfl rfl rfl ?_
  refine x_getI rfl rfl rfl ?_
  refine x_iret rfl rfl ?_
  exact hP
set_option maxRecDepth 20000 in
theorem x_count3 (hX : RW 3 K VI) (hW : WF K) (hP : P (some (.int (nI (popN (dmK K) 8)))) (LY ++ ext) VI VL (vr G)) : Ex (d + 1) mi143 0 (entL [.ref 0, .int 3] 2) [] (LY ++ ext) VI VL (vr G) 0 0 P := by
  refine x_iload_n rfl rfl ?_
  skip
  refine x_swIn (tgt := 99) rfl (by decide) (by decide) rfl rfl ?_
  refine x_aload_n rfl rfl ?_
  refine x_getR (u := .ref _) rfl rfl rfl rfl ?_
  refine x_getE rfl rfl rfl (hX.dm) ?_
  refine x_callS (M' := mi280) (As := [_]) (bc1 := 0) (bs1 := 0) (bc2 := 0) (bs2 := 0) rfl rfl rfl rfl ok280 rfl rfl rfl rfl rfl rfl ?_
  refine s_bitCount hW.dm ?_
  refine x_iret rfl rfl ?_
  exact hP
set_option maxRecDepth 20000 in
theorem x_count4 (hP : P (some (.int (VI 3 9))) (LY ++ ext) VI VL (vr G)) : Ex (d + 1) mi143 0 (entL [.ref 0, .int 4] 2) [] (LY ++ ext) VI VL (vr G) 0 0 P := by
  refine x_iload_n rfl rfl ?_
  skip
  refine x_swIn (tgt := 110) rfl (by decide) (by decide) rfl rfl ?_
  refine x_aload_n rfl rfl ?_
  refine x_getR (u := .ref _) rfl rfl rfl rfl ?_
  refine x_getI rfl rfl rfl ?_
  refine x_iret rfl rfl ?_
  exact hP
set_option maxRecDepth 20000 in
theorem x_count5 (hP : P (some (.int (VI 3 14))) (LY ++ ext) VI VL (vr G)) : Ex (d + 1) mi143 0 (entL [.ref 0, .int 5] 2) [] (LY ++ ext) VI VL (vr G) 0 0 P := by
  refine x_iload_n rfl rfl ?_
  skip
  refine x_swIn (tgt := 118) rfl (by decide) (by decide) rfl rfl ?_
  refine x_aload_n rfl rfl ?_
  refine x_getR (u := .ref _) rfl rfl rfl rfl ?_
  refine x_getI rfl rfl rfl ?_
  refine x_iret rfl rfl ?_
  exact hP
set_option maxRecDepth 20000 in
theorem x_count6 (hP : P (some (.int (VI 45 2))) (LY ++ ext) VI VL (vr G)) : Ex (d + 1) mi143 0 (entL [.ref 0, .int 6] 2) [] (LY ++ ext) VI VL (vr G) 0 0 P := by
  refine x_iload_n rfl rfl ?_
  skip
  refine x_swIn (tgt := 126) rfl (by decide) (by decide) rfl rfl ?_
  refine x_aload_n rfl rfl ?_
  refine x_getR (u := .ref _) rfl rfl rfl rfl ?_
  refine x_getI rfl rfl rfl ?_
  refine x_iret rfl rfl ?_
  exact hP
set_option maxRecDepth 20000 in
theorem x_count7 (hP : P (some (.int (VI 0 13))) (LY ++ ext) VI VL (vr G)) : Ex (d + 1) mi143 0 (entL [.ref 0, .int 7] 2) [] (LY ++ ext) VI VL (vr G) 0 0 P := by
  refine x_iload_n rfl rfl ?_
  skip
  refine x_swIn (tgt := 134) rfl (by decide) (by decide) rfl rfl ?_
  refine x_aload_n rfl rfl ?_
  refine x_getI rfl rfl rfl ?_
  refine x_iret rfl rfl ?_
  exact hP
set_option maxRecDepth 20000 in
theorem x_count8 (hP : P (some (.int (VI 73 0))) (LY ++ ext) VI VL (vr G)) : Ex (d + 1) mi143 0 (entL [.ref 0, .int 8] 2) [] (LY ++ ext) VI VL (vr G) 0 0 P := by
  refine x_iload_n rfl rfl ?_
  skip
  refine x_swIn (tgt := 139) rfl (by decide) (by decide) rfl rfl ?_
  refine x_aload_n rfl rfl ?_
  refine x_iconst rfl ?_
  refine x_callV (M' := mi146) (As := [_]) (bc1 := 0) (bs1 := 0) (bc2 := 0) (bs2 := 0) rfl rfl rfl rfl ok146 rfl rfl (by decide) rfl rfl rfl rfl rfl rfl ?_
  refine x_refusedWith 0 rfl (by decide) ?_
  refine x_iret rfl rfl ?_
  exact hP
set_option maxRecDepth 20000 in
theorem x_count9 (hP : P (some (.int (VI 73 1))) (LY ++ ext) VI VL (vr G)) : Ex (d + 1) mi143 0 (entL [.ref 0, .int 9] 2) [] (LY ++ ext) VI VL (vr G) 0 0 P := by
  refine x_iload_n rfl rfl ?_
  skip
  refine x_swIn (tgt := 145) rfl (by decide) (by decide) rfl rfl ?_
  refine x_aload_n rfl rfl ?_
  refine x_bipush rfl ?_
  refine x_callV (M' := mi146) (As := [_]) (bc1 := 0) (bs1 := 0) (bc2 := 0) (bs2 := 0) rfl rfl rfl rfl ok146 rfl rfl (by decide) rfl rfl rfl rfl rfl rfl ?_
  refine x_refusedWith 1 rfl (by decide) ?_
  refine x_iret rfl rfl ?_
  exact hP
set_option maxRecDepth 20000 in
theorem x_count10 (hP : P (some (.int (VI 73 2))) (LY ++ ext) VI VL (vr G)) : Ex (d + 1) mi143 0 (entL [.ref 0, .int 10] 2) [] (LY ++ ext) VI VL (vr G) 0 0 P := by
  refine x_iload_n rfl rfl ?_
  skip
  refine x_swIn (tgt := 152) rfl (by decide) (by decide) rfl rfl ?_
  refine x_aload_n rfl rfl ?_
  refine x_bipush rfl ?_
  refine x_callV (M' := mi146) (As := [_]) (bc1 := 0) (bs1 := 0) (bc2 := 0) (bs2 := 0) rfl rfl rfl rfl ok146 rfl rfl (by decide) rfl rfl rfl rfl rfl rfl ?_
  refine x_refusedWith 2 rfl (by decide) ?_
  refine x_iret rfl rfl ?_
  exact hP
set_option maxRecDepth 20000 in
theorem x_count11 (hP : P (some (.int (VI 73 4))) (LY ++ ext) VI VL (vr G)) : Ex (d + 1) mi143 0 (entL [.ref 0, .int 11] 2) [] (LY ++ ext) VI VL (vr G) 0 0 P := by
  refine x_iload_n rfl rfl ?_
  skip
  refine x_swIn (tgt := 159) rfl (by decide) (by decide) rfl rfl ?_
  refine x_aload_n rfl rfl ?_
  refine x_bipush rfl ?_
  refine x_callV (M' := mi146) (As := [_]) (bc1 := 0) (bs1 := 0) (bc2 := 0) (bs2 := 0) rfl rfl rfl rfl ok146 rfl rfl (by decide) rfl rfl rfl rfl rfl rfl ?_
  refine x_refusedWith 4 rfl (by decide) ?_
  refine x_iret rfl rfl ?_
  exact hP
set_option maxRecDepth 20000 in
theorem x_count12 (hP : P (some (.int (VI 73 5))) (LY ++ ext) VI VL (vr G)) : Ex (d + 1) mi143 0 (entL [.ref 0, .int 12] 2) [] (LY ++ ext) VI VL (vr G) 0 0 P := by
  refine x_iload_n rfl rfl ?_
  skip
  refine x_swIn (tgt := 166) rfl (by decide) (by decide) rfl rfl ?_
  refine x_aload_n rfl rfl ?_
  refine x_bipush rfl ?_
  refine x_callV (M' := mi146) (As := [_]) (bc1 := 0) (bs1 := 0) (bc2 := 0) (bs2 := 0) rfl rfl rfl rfl ok146 rfl rfl (by decide) rfl rfl rfl rfl rfl rfl ?_
  refine x_refusedWith 5 rfl (by decide) ?_
  refine x_iret rfl rfl ?_
  exact hP
set_option maxRecDepth 20000 in
theorem x_count13 (hP : P (some (.int (VI 3 15))) (LY ++ ext) VI VL (vr G)) : Ex (d + 1) mi143 0 (entL [.ref 0, .int 13] 2) [] (LY ++ ext) VI VL (vr G) 0 0 P := by
  refine x_iload_n rfl rfl ?_
  skip
  refine x_swIn (tgt := 173) rfl (by decide) (by decide) rfl rfl ?_
  refine x_aload_n rfl rfl ?_
  refine x_getR (u := .ref _) rfl rfl rfl rfl ?_
  refine x_getI rfl rfl rfl ?_
  refine x_iret rfl rfl ?_
  exact hP
set_option maxRecDepth 20000 in
theorem x_count14 (hP : P (some (.int (VI 12 0))) (LY ++ ext) VI VL (vr G)) : Ex (d + 1) mi143 0 (entL [.ref 0, .int 14] 2) [] (LY ++ ext) VI VL (vr G) 0 0 P := by
  refine x_iload_n rfl rfl ?_
  skip
  refine x_swOut (tgt := 181) rfl (by decide) rfl ?_
  refine x_iload_n rfl rfl ?_
  refine x_bipush rfl ?_
  refine x_icmp_lt rfl (fun c184 => ?_) (fun c184 => ?_)
  · exact absurd c184 (by first | decide | omega)
  refine x_iload_n rfl rfl ?_
  refine x_bipush rfl ?_
  refine x_icmp_ge rfl (fun c190 => ?_) (fun c190 => ?_)
  · exact absurd c190 (by first | decide | omega)
  refine x_aload_n rfl rfl ?_
  refine x_getR (u := .ref _) rfl rfl rfl rfl ?_
  refine x_getR (u := .ref _) rfl rfl rfl rfl ?_
  refine x_iload_n rfl rfl ?_
  refine x_bipush rfl ?_
  refine x_isub rfl ?_
  refine x_ialN (j := 0) rfl rfl (rfl) (by omega) ?_
  refine x_goto rfl ?_
  refine x_iret rfl rfl ?_
  exact hP
set_option maxRecDepth 20000 in
theorem x_count15 (hP : P (some (.int (VI 12 1))) (LY ++ ext) VI VL (vr G)) : Ex (d + 1) mi143 0 (entL [.ref 0, .int 15] 2) [] (LY ++ ext) VI VL (vr G) 0 0 P := by
  refine x_iload_n rfl rfl ?_
  skip
  refine x_swOut (tgt := 181) rfl (by decide) rfl ?_
  refine x_iload_n rfl rfl ?_
  refine x_bipush rfl ?_
  refine x_icmp_lt rfl (fun c184 => ?_) (fun c184 => ?_)
  · exact absurd c184 (by first | decide | omega)
  refine x_iload_n rfl rfl ?_
  refine x_bipush rfl ?_
  refine x_icmp_ge rfl (fun c190 => ?_) (fun c190 => ?_)
  · exact absurd c190 (by first | decide | omega)
  refine x_aload_n rfl rfl ?_
  refine x_getR (u := .ref _) rfl rfl rfl rfl ?_
  refine x_getR (u := .ref _) rfl rfl rfl rfl ?_
  refine x_iload_n rfl rfl ?_
  refine x_bipush rfl ?_
  refine x_isub rfl ?_
  refine x_ialN (j := 1) rfl rfl (rfl) (by omega) ?_
  refine x_goto rfl ?_
  refine x_iret rfl rfl ?_
  exact hP
set_option maxRecDepth 20000 in
theorem x_count16 (hP : P (some (.int (VI 12 2))) (LY ++ ext) VI VL (vr G)) : Ex (d + 1) mi143 0 (entL [.ref 0, .int 16] 2) [] (LY ++ ext) VI VL (vr G) 0 0 P := by
  refine x_iload_n rfl rfl ?_
  skip
  refine x_swOut (tgt := 181) rfl (by decide) rfl ?_
  refine x_iload_n rfl rfl ?_
  refine x_bipush rfl ?_
  refine x_icmp_lt rfl (fun c184 => ?_) (fun c184 => ?_)
  · exact absurd c184 (by first | decide | omega)
  refine x_iload_n rfl rfl ?_
  refine x_bipush rfl ?_
  refine x_icmp_ge rfl (fun c190 => ?_) (fun c190 => ?_)
  · exact absurd c190 (by first | decide | omega)
  refine x_aload_n rfl rfl ?_
  refine x_getR (u := .ref _) rfl rfl rfl rfl ?_
  refine x_getR (u := .ref _) rfl rfl rfl rfl ?_
  refine x_iload_n rfl rfl ?_
  refine x_bipush rfl ?_
  refine x_isub rfl ?_
  refine x_ialN (j := 2) rfl rfl (rfl) (by omega) ?_
  refine x_goto rfl ?_
  refine x_iret rfl rfl ?_
  exact hP
set_option maxRecDepth 20000 in
theorem m_count0 (hP : P (some (.int (VI 76 93))) (LY ++ ext) VI VL (vr G)) : Ex (d + 2) mi278 0 (entL [.ref 74, .int 0] 2) [] (LY ++ ext) VI VL (vr G) 0 0 P := by
  refine x_iload_n rfl rfl ?_
  skip
  refine x_swIn (tgt := 84) rfl (by decide) (by decide) rfl rfl ?_
  refine x_aload_n rfl rfl ?_
  refine x_getR (u := .ref _) rfl rfl rfl rfl ?_
  refine x_bipush rfl ?_
  refine x_ialN (j := 93) rfl rfl (rfl) (by omega) ?_
  refine x_iret rfl rfl ?_
  exact hP
set_option maxRecDepth 20000 in
theorem m_count2 (hP : P (some (.int (VI 76 94))) (LY ++ ext) VI VL (vr G)) : Ex (d + 2) mi278 0 (entL [.ref 74, .int 2] 2) [] (LY ++ ext) VI VL (vr G) 0 0 P := by
  refine x_iload_n rfl rfl ?_
  skip
  refine x_swIn (tgt := 100) rfl (by decide) (by decide) rfl rfl ?_
  refine x_aload_n rfl rfl ?_
  refine x_getR (u := .ref _) rfl rfl rfl rfl ?_
  refine x_bipush rfl ?_
  refine x_ialN (j := 94) rfl rfl (rfl) (by omega) ?_
  refine x_iret rfl rfl ?_
  exact hP
set_option maxRecDepth 20000 in
theorem m_count4 (hP : P (some (.int (VI 76 95))) (LY ++ ext) VI VL (vr G)) : Ex (d + 2) mi278 0 (entL [.ref 74, .int 4] 2) [] (LY ++ ext) VI VL (vr G) 0 0 P := by
  refine x_iload_n rfl rfl ?_
  skip
  refine x_swIn (tgt := 113) rfl (by decide) (by decide) rfl rfl ?_
  refine x_aload_n rfl rfl ?_
  refine x_getR (u := .ref _) rfl rfl rfl rfl ?_
  refine x_bipush rfl ?_
  refine x_ialN (j := 95) rfl rfl (rfl) (by omega) ?_
  refine x_iret rfl rfl ?_
  exact hP
set_option maxRecDepth 20000 in
theorem m_count5 (hP : P (some (.int (VI 76 96))) (LY ++ ext) VI VL (vr G)) : Ex (d + 2) mi278 0 (entL [.ref 74, .int 5] 2) [] (LY ++ ext) VI VL (vr G) 0 0 P := by
  refine x_iload_n rfl rfl ?_
  skip
  refine x_swIn (tgt := 121) rfl (by decide) (by decide) rfl rfl ?_
  refine x_aload_n rfl rfl ?_
  refine x_getR (u := .ref _) rfl rfl rfl rfl ?_
  refine x_bipush rfl ?_
  refine x_ialN (j := 96) rfl rfl (rfl) (by omega) ?_
  refine x_iret rfl rfl ?_
  exact hP
set_option maxRecDepth 20000 in
theorem m_count13 (hP : P (some (.int (VI 76 97))) (LY ++ ext) VI VL (vr G)) : Ex (d + 2) mi278 0 (entL [.ref 74, .int 13] 2) [] (LY ++ ext) VI VL (vr G) 0 0 P := by
  refine x_iload_n rfl rfl ?_
  skip
  refine x_swIn (tgt := 164) rfl (by decide) (by decide) rfl rfl ?_
  refine x_aload_n rfl rfl ?_
  refine x_getR (u := .ref _) rfl rfl rfl rfl ?_
  refine x_bipush rfl ?_
  refine x_ialN (j := 97) rfl rfl (rfl) (by omega) ?_
  refine x_iret rfl rfl ?_
  exact hP
set_option maxRecDepth 20000 in
theorem m_count14 (hP : P (some (.int (VI 76 38))) (LY ++ ext) VI VL (vr G)) : Ex (d + 2) mi278 0 (entL [.ref 74, .int 14] 2) [] (LY ++ ext) VI VL (vr G) 0 0 P := by
  refine x_iload_n rfl rfl ?_
  skip
  refine x_swIn (tgt := 172) rfl (by decide) (by decide) rfl rfl ?_
  refine x_aload_n rfl rfl ?_
  refine x_getR (u := .ref _) rfl rfl rfl rfl ?_
  refine x_bipush rfl ?_
  refine x_ialN (j := 38) rfl rfl (rfl) (by omega) ?_
  refine x_iret rfl rfl ?_
  exact hP
set_option maxRecDepth 20000 in
theorem m_count1 (hM : RK (VI 76) K) (hW : WF K) (hP : P (some (.int (nI (popN (lmK K) 6)))) (LY ++ ext) VI VL (vr G)) : Ex (d + 2) mi278 0 (entL [.ref 74, .int 1] 2) [] (LY ++ ext) VI VL (vr G) 0 0 P := by
  refine x_iload_n rfl rfl ?_
  skip
  refine x_swIn (tgt := 92) rfl (by decide) (by decide) rfl rfl ?_
  refine x_aload_n rfl rfl ?_
  refine x_callV (M' := mi170) (As := []) (bc1 := 0) (bs1 := 0) (bc2 := 0) (bs2 := 0) rfl rfl rfl rfl ok170 rfl rfl (by decide) rfl rfl rfl rfl rfl rfl ?_
  refine m_livingK hM hW ?_
  refine x_callS (M' := mi158) (As := [_]) (bc1 := 0) (bs1 := 0) (bc2 := 0) (bs2 := 0) rfl rfl rfl rfl ok158 rfl rfl rfl rfl rfl rfl ?_
  refine m_ones (Nat.lt_trans hW.lm (by decide)) ?_
  refine x_iret rfl rfl ?_
  exact hP
set_option maxRecDepth 20000 in
theorem m_count3 (hM : RK (VI 76) K) (hW : WF K) (hP : P (some (.int (nI (sumN (fun r => K (30 + r)) (K 94))))) (LY ++ ext) VI VL (vr G)) : Ex (d + 2) mi278 0 (entL [.ref 74, .int 3] 2) [] (LY ++ ext) VI VL (vr G) 0 0 P := by
  refine x_iload_n rfl rfl ?_
  skip
  refine x_swIn (tgt := 108) rfl (by decide) (by decide) rfl rfl ?_
  refine x_aload_n rfl rfl ?_
  refine x_callV (M' := mi277) (As := []) (bc1 := 0) (bs1 := 0) (bc2 := 0) (bs2 := 0) rfl rfl rfl rfl ok277 rfl rfl (by decide) rfl rfl rfl rfl rfl rfl ?_
  refine m_manyDone (f := fun r => K (30 + r)) (hM.at 94) hW.2.1 (fun p hp => hM.at (30 + p) (by have h8 : K 94 ≤ 8 := hW.2.1; omega) (by have h8 : K 94 ≤ 8 := hW.2.1; omega)) ?_
  refine x_iret rfl rfl ?_
  exact hP
set_option maxRecDepth 20000 in
theorem m_count6 (hP : P (some (.int (VI 74 32))) (LY ++ ext) VI VL (vr G)) : Ex (d + 2) mi278 0 (entL [.ref 74, .int 6] 2) [] (LY ++ ext) VI VL (vr G) 0 0 P := by
  refine x_iload_n rfl rfl ?_
  skip
  refine x_swIn (tgt := 129) rfl (by decide) (by decide) rfl rfl ?_
  refine x_aload_n rfl rfl ?_
  refine x_getI rfl rfl rfl ?_
  refine x_iret rfl rfl ?_
  exact hP
set_option maxRecDepth 20000 in
theorem m_count7 (hP : P (some (.int (VI 74 13))) (LY ++ ext) VI VL (vr G)) : Ex (d + 2) mi278 0 (entL [.ref 74, .int 7] 2) [] (LY ++ ext) VI VL (vr G) 0 0 P := by
  refine x_iload_n rfl rfl ?_
  skip
  refine x_swIn (tgt := 134) rfl (by decide) (by decide) rfl rfl ?_
  refine x_aload_n rfl rfl ?_
  refine x_getI rfl rfl rfl ?_
  refine x_iret rfl rfl ?_
  exact hP
set_option maxRecDepth 20000 in
theorem m_count8 (hP : P (some (.int (VI 75 1))) (LY ++ ext) VI VL (vr G)) : Ex (d + 2) mi278 0 (entL [.ref 74, .int 8] 2) [] (LY ++ ext) VI VL (vr G) 0 0 P := by
  refine x_iload_n rfl rfl ?_
  skip
  refine x_swIn (tgt := 139) rfl (by decide) (by decide) rfl rfl ?_
  refine x_aload_n rfl rfl ?_
  refine x_getR (u := .ref _) rfl rfl rfl rfl ?_
  refine x_iload_n rfl rfl ?_
  refine x_bipush rfl ?_
  refine x_isub rfl ?_
  refine x_ialN (j := 1) rfl rfl (rfl) (by omega) ?_
  refine x_iret rfl rfl ?_
  exact hP
set_option maxRecDepth 20000 in
theorem m_count9 (hP : P (some (.int (VI 75 2))) (LY ++ ext) VI VL (vr G)) : Ex (d + 2) mi278 0 (entL [.ref 74, .int 9] 2) [] (LY ++ ext) VI VL (vr G) 0 0 P := by
  refine x_iload_n rfl rfl ?_
  skip
  refine x_swIn (tgt := 139) rfl (by decide) (by decide) rfl rfl ?_
  refine x_aload_n rfl rfl ?_
  refine x_getR (u := .ref _) rfl rfl rfl rfl ?_
  refine x_iload_n rfl rfl ?_
  refine x_bipush rfl ?_
  refine x_isub rfl ?_
  refine x_ialN (j := 2) rfl rfl (rfl) (by omega) ?_
  refine x_iret rfl rfl ?_
  exact hP
set_option maxRecDepth 20000 in
theorem m_count10 (hP : P (some (.int (VI 75 3))) (LY ++ ext) VI VL (vr G)) : Ex (d + 2) mi278 0 (entL [.ref 74, .int 10] 2) [] (LY ++ ext) VI VL (vr G) 0 0 P := by
  refine x_iload_n rfl rfl ?_
  skip
  refine x_swIn (tgt := 139) rfl (by decide) (by decide) rfl rfl ?_
  refine x_aload_n rfl rfl ?_
  refine x_getR (u := .ref _) rfl rfl rfl rfl ?_
  refine x_iload_n rfl rfl ?_
  refine x_bipush rfl ?_
  refine x_isub rfl ?_
  refine x_ialN (j := 3) rfl rfl (rfl) (by omega) ?_
  refine x_iret rfl rfl ?_
  exact hP
set_option maxRecDepth 20000 in
theorem m_count11 (hP : P (some (.int (VI 75 5))) (LY ++ ext) VI VL (vr G)) : Ex (d + 2) mi278 0 (entL [.ref 74, .int 11] 2) [] (LY ++ ext) VI VL (vr G) 0 0 P := by
  refine x_iload_n rfl rfl ?_
  skip
  refine x_swIn (tgt := 149) rfl (by decide) (by decide) rfl rfl ?_
  refine x_aload_n rfl rfl ?_
  refine x_getR (u := .ref _) rfl rfl rfl rfl ?_
  refine x_iconst rfl ?_
  refine x_ialN (j := 5) rfl rfl (rfl) (by omega) ?_
  refine x_iret rfl rfl ?_
  exact hP
set_option maxRecDepth 20000 in
theorem m_count12 (hP : P (some (.int (VI 75 6))) (LY ++ ext) VI VL (vr G)) : Ex (d + 2) mi278 0 (entL [.ref 74, .int 12] 2) [] (LY ++ ext) VI VL (vr G) 0 0 P := by
  refine x_iload_n rfl rfl ?_
  skip
  refine x_swIn (tgt := 156) rfl (by decide) (by decide) rfl rfl ?_
  refine x_aload_n rfl rfl ?_
  refine x_getR (u := .ref _) rfl rfl rfl rfl ?_
  refine x_bipush rfl ?_
  refine x_ialN (j := 6) rfl rfl (rfl) (by omega) ?_
  refine x_iret rfl rfl ?_
  exact hP
set_option maxRecDepth 20000 in
theorem m_count15 (hP : P (some (.int (VI 76 91))) (LY ++ ext) VI VL (vr G)) : Ex (d + 2) mi278 0 (entL [.ref 74, .int 15] 2) [] (LY ++ ext) VI VL (vr G) 0 0 P := by
  refine x_iload_n rfl rfl ?_
  skip
  refine x_swIn (tgt := 180) rfl (by decide) (by decide) rfl rfl ?_
  refine x_aload_n rfl rfl ?_
  refine x_getR (u := .ref _) rfl rfl rfl rfl ?_
  refine x_bipush rfl ?_
  refine x_iload_n rfl rfl ?_
  refine x_iadd rfl ?_
  refine x_bipush rfl ?_
  refine x_isub rfl ?_
  refine x_ialN (j := 91) rfl rfl (rfl) (by omega) ?_
  refine x_iret rfl rfl ?_
  exact hP
set_option maxRecDepth 20000 in
theorem m_count16 (hP : P (some (.int (VI 76 92))) (LY ++ ext) VI VL (vr G)) : Ex (d + 2) mi278 0 (entL [.ref 74, .int 16] 2) [] (LY ++ ext) VI VL (vr G) 0 0 P := by
  refine x_iload_n rfl rfl ?_
  skip
  refine x_swIn (tgt := 180) rfl (by decide) (by decide) rfl rfl ?_
  refine x_aload_n rfl rfl ?_
  refine x_getR (u := .ref _) rfl rfl rfl rfl ?_
  refine x_bipush rfl ?_
  refine x_iload_n rfl rfl ?_
  refine x_iadd rfl ?_
  refine x_bipush rfl ?_
  refine x_isub rfl ?_
  refine x_ialN (j := 92) rfl rfl (rfl) (by omega) ?_
  refine x_iret rfl rfl ?_
  exact hP
set_option maxRecDepth 20000 in
theorem x_count_d {w : Int32} (h : w < 0 ∨ 17 ≤ w) (hP : P (some (.int (-1))) (LY ++ ext) VI VL (vr G)) : Ex (d + 1) mi143 0 (entL [.ref 0, .int w] 2) [] (LY ++ ext) VI VL (vr G) 0 0 P := by
  have h2 : w.toInt < 0 ∨ 17 ≤ w.toInt := by
    rw [Int32.lt_iff_toInt_lt, Int32.le_iff_toInt_le] at h
    have e0 : (0 : Int32).toInt = 0 := rfl
    have e1 : (17 : Int32).toInt = 17 := rfl
    omega
  refine x_iload_n rfl rfl ?_
  skip
  refine x_swOut (tgt := 181) rfl (by omega) rfl ?_
  refine x_iload_n rfl rfl ?_
  refine x_bipush rfl ?_
  refine x_icmp_lt rfl (fun c184 => ?_) (fun c184 => ?_)
  · refine x_iconst rfl ?_
    refine x_iret rfl rfl ?_
    exact hP
  · refine x_iload_n rfl rfl ?_
    refine x_bipush rfl ?_
    refine x_icmp_ge rfl (fun c190 => ?_) (fun c190 => ?_)
    · refine x_iconst rfl ?_
      refine x_iret rfl rfl ?_
      exact hP
    · (rw [Int32.lt_iff_toInt_lt] at c184; rw [Int32.le_iff_toInt_le] at c190; have e1 : (14 : Int32).toInt = 14 := rfl; have e2 : (17 : Int32).toInt = 17 := rfl; omega)
set_option maxRecDepth 20000 in
theorem m_count_d {w : Int32} (h : w < 0 ∨ 17 ≤ w) (hP : P (some (.int (-1))) (LY ++ ext) VI VL (vr G)) : Ex (d + 2) mi278 0 (entL [.ref 74, .int w] 2) [] (LY ++ ext) VI VL (vr G) 0 0 P := by
  have h2 : w.toInt < 0 ∨ 17 ≤ w.toInt := by
    rw [Int32.lt_iff_toInt_lt, Int32.le_iff_toInt_le] at h
    have e0 : (0 : Int32).toInt = 0 := rfl
    have e1 : (17 : Int32).toInt = 17 := rfl
    omega
  refine x_iload_n rfl rfl ?_
  skip
  refine x_swOut (tgt := 193) rfl (by omega) rfl ?_
  refine x_iconst rfl ?_
  refine x_iret rfl rfl ?_
  exact hP
end Reads2
