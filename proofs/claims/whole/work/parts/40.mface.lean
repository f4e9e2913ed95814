/-! ===== RollsAgreeModel: what its small methods do ===== -/
section MFace
variable {d : Nat} {VI : VIT} {VL : VLT} {G : VRT} {P : Post} {ext : HL}
def liesF (v lo hi : Int32) : Bool := decide (¬ v < lo ∧ ¬ hi < v)
theorem m_lies {lay : HL} {VR : VRT} {v lo hi : Int32} (hP : P (some (.int (b1 (liesF v lo hi)))) lay VI VL VR) : Ex d mi152 0 (entL [.int v, .int lo, .int hi] 3) [] lay VI VL VR 0 0 P := by
  refine x_iload_n rfl rfl ?_
  refine x_iload_n rfl rfl ?_
  refine x_icmp_lt rfl (fun c2 => ?_) (fun c2 => ?_)
  · refine x_iconst rfl ?_
    refine x_zret rfl rfl (by first | exact Or.inl rfl | exact Or.inr rfl) ?_
    exact P_i (by simp [b1, liesF, *]) hP
  · refine x_iload_n rfl rfl ?_
    refine x_iload_n rfl rfl ?_
    refine x_icmp_gt rfl (fun c7 => ?_) (fun c7 => ?_)
    · refine x_iconst rfl ?_
      refine x_zret rfl rfl (by first | exact Or.inl rfl | exact Or.inr rfl) ?_
      exact P_i (by simp [b1, liesF, *]) hP
    · refine x_iconst rfl ?_
      refine x_goto rfl ?_
      refine x_zret rfl rfl (by first | exact Or.inl rfl | exact Or.inr rfl) ?_
      exact P_i (by simp [b1, liesF, *]) hP
theorem m_greater {lay : HL} {VR : VRT} {a b : Int32} (hP : P (some (.int (if a ≤ b then b else a))) lay VI VL VR) : Ex d mi153 0 (entL [.int a, .int b] 2) [] lay VI VL VR 0 0 P := by
  refine x_iload_n rfl rfl ?_
  refine x_iload_n rfl rfl ?_
  refine x_icmp_le rfl (fun c2 => ?_) (fun c2 => ?_)
  · refine x_iload_n rfl rfl ?_
    refine x_iret rfl rfl ?_
    exact P_i (by simp [*]) hP
  · refine x_iload_n rfl rfl ?_
    refine x_goto rfl ?_
    refine x_iret rfl rfl ?_
    exact P_i (by simp [*]) hP
theorem m_isDay {lay : HL} {VR : VRT} {v : Int32} (hP : P (some (.int (b1 (liesF v 0 3)))) lay VI VL VR) : Ex (d + 1) mi166 0 (entL [.int v] 1) [] lay VI VL VR 0 0 P := by
  refine x_iload_n rfl rfl ?_
  refine x_iconst rfl ?_
  refine x_iconst rfl ?_
  refine x_callS (M' := mi152) (As := [_, _, _]) (bc1 := 0) (bs1 := 0) (bc2 := 0) (bs2 := 0) rfl rfl rfl rfl ok152 rfl rfl rfl rfl rfl rfl ?_
  refine m_lies ?_
  refine x_zret rfl rfl (b1_01 _) ?_
  exact hP
theorem m_refuses {v : Int32} (k : Nat) (hv : v = -nI k) (hk : k < 7) (hP : P (some (.int v)) (LY ++ ext) (up (up VI 74 0 v) 75 k (VI 75 k + 1)) VL (vr G)) : Ex d mi154 0 (entL [.ref 74, .int v] 2) [] (LY ++ ext) VI VL (vr G) 0 0 P := by
  have e3 : -v = nI k := by rw [hv, Int32.neg_neg]
  refine x_aload_n rfl rfl ?_
  refine x_iload_n rfl rfl ?_
  refine x_putI rfl rfl rfl rfl ?_
  refine x_aload_n rfl rfl ?_
  refine x_getR (u := .ref _) rfl rfl rfl rfl ?_
  refine x_iload_n rfl rfl ?_
  refine x_ineg rfl ?_
  refine x_dup2 rfl rfl rfl ?_
  refine x_ialN (j := k) rfl rfl (e3) (by omega) ?_
  refine x_iconst rfl ?_
  refine x_iadd rfl ?_
  refine x_iasN (j := k) rfl rfl (e3) (by omega) ?_
  refine x_iload_n rfl rfl ?_
  refine x_iret rfl rfl ?_
  exact hP
theorem m_good {v : Int32} (hP : P (some (.int v)) (LY ++ ext) (up VI 74 0 0) VL (vr G)) : Ex d mi155 0 (entL [.ref 74, .int v] 2) [] (LY ++ ext) VI VL (vr G) 0 0 P := by
  refine x_aload_n rfl rfl ?_
  refine x_iconst rfl ?_
  refine x_putI rfl rfl rfl rfl ?_
  refine x_iload_n rfl rfl ?_
  refine x_iret rfl rfl ?_
  exact hP
theorem m_settled {v : Int32} (hP : P (some (.int v)) (LY ++ ext) (up (up VI 74 32 0) 74 0 0) VL (vr G)) : Ex (d + 1) mi156 0 (entL [.ref 74, .int v] 2) [] (LY ++ ext) VI VL (vr G) 0 0 P := by
  refine x_aload_n rfl rfl ?_
  refine x_iconst rfl ?_
  refine x_putI rfl rfl rfl rfl ?_
  refine x_aload_n rfl rfl ?_
  refine x_iload_n rfl rfl ?_
  refine x_callV (M' := mi155) (As := [_]) (bc1 := 0) (bs1 := 0) (bc2 := 0) (bs2 := 0) rfl rfl rfl rfl ok155 rfl rfl (by decide) rfl rfl rfl rfl rfl rfl ?_
  refine m_good ?_
  refine x_iret rfl rfl ?_
  exact hP
theorem m_isPerson {v : Int32} (hP : P (some (.int (b1 (liesF v 0 (VI 76 93 - 1))))) (LY ++ ext) VI VL (vr G)) : Ex (d + 1) mi164 0 (entL [.ref 74, .int v] 2) [] (LY ++ ext) VI VL (vr G) 0 0 P := by
  refine x_iload_n rfl rfl ?_
  refine x_iconst rfl ?_
  refine x_aload_n rfl rfl ?_
  refine x_getR (u := .ref _) rfl rfl rfl rfl ?_
  refine x_bipush rfl ?_
  refine x_ialN (j := 93) rfl rfl (rfl) (by omega) ?_
  refine x_iconst rfl ?_
  refine x_isub rfl ?_
  refine x_callS (M' := mi152) (As := [_, _, _]) (bc1 := 0) (bs1 := 0) (bc2 := 0) (bs2 := 0) rfl rfl rfl rfl ok152 rfl rfl rfl rfl rfl rfl ?_
  refine m_lies ?_
  refine x_zret rfl rfl (b1_01 _) ?_
  exact hP
theorem m_isRoll {v : Int32} (hP : P (some (.int (b1 (liesF v 0 (VI 76 94 - 1))))) (LY ++ ext) VI VL (vr G)) : Ex (d + 1) mi165 0 (entL [.ref 74, .int v] 2) [] (LY ++ ext) VI VL (vr G) 0 0 P := by
  refine x_iload_n rfl rfl ?_
  refine x_iconst rfl ?_
  refine x_aload_n rfl rfl ?_
  refine x_getR (u := .ref _) rfl rfl rfl rfl ?_
  refine x_bipush rfl ?_
  refine x_ialN (j := 94) rfl rfl (rfl) (by omega) ?_
  refine x_iconst rfl ?_
  refine x_isub rfl ?_
  refine x_callS (M' := mi152) (As := [_, _, _]) (bc1 := 0) (bs1 := 0) (bc2 := 0) (bs2 := 0) rfl rfl rfl rfl ok152 rfl rfl rfl rfl rfl rfl ?_
  refine m_lies ?_
  refine x_zret rfl rfl (b1_01 _) ?_
  exact hP
theorem m_lives {p : Nat} (hp : p < 6) (hP : P (some (.int (b1 (decide (VI 76 (24 + p) = 1))))) (LY ++ ext) VI VL (vr G)) : Ex d mi167 0 (entL [.ref 74, .int (nI p)] 2) [] (LY ++ ext) VI VL (vr G) 0 0 P := by
  refine x_aload_n rfl rfl ?_
  refine x_getR (u := .ref _) rfl rfl rfl rfl ?_
  refine x_bipushN (q := 24) rfl ?_
  refine x_iload_n rfl rfl ?_
  refine x_iaddN rfl ?_
  refine x_ialN (j := 24 + p) rfl rfl (rfl) (by omega) ?_
  refine x_iconst rfl ?_
  refine x_icmp_ne rfl (fun c10 => ?_) (fun c10 => ?_)
  · refine x_iconstN (q := 0) rfl ?_
    refine x_zret rfl rfl (by first | exact Or.inl rfl | exact Or.inr rfl) ?_
    exact P_i (by simp [b1, *]; try rfl) hP
  · refine x_iconstN (q := 1) rfl ?_
    refine x_goto rfl ?_
    refine x_zret rfl rfl (by first | exact Or.inl rfl | exact Or.inr rfl) ?_
    exact P_i (by simp [b1, *]; try rfl) hP
theorem m_markOf {p q : Nat} (hp : p < 6) (hq : q < 4) (hP : P (some (.int (VI 76 (4 * p + q)))) (LY ++ ext) VI VL (vr G)) : Ex d mi168 0 (entL [.ref 74, .int (nI p), .int (nI q)] 3) [] (LY ++ ext) VI VL (vr G) 0 0 P := by
  refine x_aload_n rfl rfl ?_
  refine x_getR (u := .ref _) rfl rfl rfl rfl ?_
  refine x_iconstN (q := 0) rfl ?_
  refine x_iconstN (q := 4) rfl ?_
  refine x_iload_n rfl rfl ?_
  refine x_imulN rfl ?_
  refine x_iaddN rfl ?_
  refine x_iload_n rfl rfl ?_
  refine x_iaddN rfl ?_
  refine x_ialN (j := 4 * p + q) rfl rfl (by rw [Nat.zero_add]) (by omega) ?_
  refine x_iret rfl rfl ?_
  exact hP
theorem m_allPeople (hP : P (some (.int ((1 : Int32) <<< (VI 76 93 &&& 31) - 1))) (LY ++ ext) VI VL (vr G)) : Ex d mi169 0 (entL [.ref 74] 1) [] (LY ++ ext) VI VL (vr G) 0 0 P := by
  refine x_iconst rfl ?_
  refine x_aload_n rfl rfl ?_
  refine x_getR (u := .ref _) rfl rfl rfl rfl ?_
  refine x_bipush rfl ?_
  refine x_ialN (j := 93) rfl rfl (rfl) (by omega) ?_
  refine x_ishl rfl ?_
  refine x_iconst rfl ?_
  refine x_isub rfl ?_
  refine x_iret rfl rfl ?_
  exact hP
theorem lies3 (f a m : Int32) : (liesF f 0 9 && liesF a 0 99 && liesF m 0 255) = canF f a m := by
  simp [liesF, canF, Bool.and_assoc, Bool.decide_and]
theorem m_canBe {lay : HL} {VR : VRT} {f a m : Int32} (hP : P (some (.int (b1 (canF f a m)))) lay VI VL VR) : Ex (d + 1) mi171 0 (entL [.int f, .int a, .int m] 3) [] lay VI VL VR 0 0 P := by
  refine x_iload_n rfl rfl ?_
  refine x_iconst rfl ?_
  refine x_bipush rfl ?_
  refine x_callS (M' := mi152) (As := [_, _, _]) (bc1 := 0) (bs1 := 0) (bc2 := 0) (bs2 := 0) rfl rfl rfl rfl ok152 rfl rfl rfl rfl rfl rfl ?_
  refine m_lies ?_
  refine x_if_eq rfl (fun c7 => ?_) (fun c7 => ?_)
  · refine x_iconst rfl ?_
    refine x_zret rfl rfl (by first | exact Or.inl rfl | exact Or.inr rfl) ?_
    refine P_i ?_ hP
    rw [← lies3]
    revert c7
    try revert c17
    try revert c28
    cases liesF f 0 9 <;> cases liesF a 0 99 <;> cases liesF m 0 255 <;> simp [b1]
  · refine x_iload_n rfl rfl ?_
    refine x_iconst rfl ?_
    refine x_bipush rfl ?_
    refine x_callS (M' := mi152) (As := [_, _, _]) (bc1 := 0) (bs1 := 0) (bc2 := 0) (bs2 := 0) rfl rfl rfl rfl ok152 rfl rfl rfl rfl rfl rfl ?_
    refine m_lies ?_
    refine x_if_eq rfl (fun c17 => ?_) (fun c17 => ?_)
    · refine x_iconst rfl ?_
      refine x_zret rfl rfl (by first | exact Or.inl rfl | exact Or.inr rfl) ?_
      refine P_i ?_ hP
      rw [← lies3]
      revert c7
      try revert c17
      try revert c28
      cases liesF f 0 9 <;> cases liesF a 0 99 <;> cases liesF m 0 255 <;> simp [b1]
    · refine x_iload_n rfl rfl ?_
      refine x_iconst rfl ?_
      refine x_sipush rfl ?_
      refine x_callS (M' := mi152) (As := [_, _, _]) (bc1 := 0) (bs1 := 0) (bc2 := 0) (bs2 := 0) rfl rfl rfl rfl ok152 rfl rfl rfl rfl rfl rfl ?_
      refine m_lies ?_
      refine x_if_eq rfl (fun c28 => ?_) (fun c28 => ?_)
      · refine x_iconst rfl ?_
        refine x_zret rfl rfl (by first | exact Or.inl rfl | exact Or.inr rfl) ?_
        refine P_i ?_ hP
        rw [← lies3]
        revert c7
        try revert c17
        try revert c28
        cases liesF f 0 9 <;> cases liesF a 0 99 <;> cases liesF m 0 255 <;> simp [b1]
      · refine x_iconst rfl ?_
        refine x_goto rfl ?_
        refine x_zret rfl rfl (by first | exact Or.inl rfl | exact Or.inr rfl) ?_
        refine P_i ?_ hP
        rw [← lies3]
        revert c7
        try revert c17
        try revert c28
        cases liesF f 0 9 <;> cases liesF a 0 99 <;> cases liesF m 0 255 <;> simp [b1]
end MFace
