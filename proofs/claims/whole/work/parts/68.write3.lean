/-! ===== terms, told, forget, force, end: both sides, joined ===== -/
set_option maxRecDepth 20000 in
theorem RW.keep {w : Nat} {K K' : KT} {VI VI' : VIT} (h : RW w K VI) (h6 : K 93 ≤ 6) (h8 : K 94 ≤ 8) (h95 : K 95 ≤ 8) (eK : ∀ i, i < 98 → i ≠ 38 → i ≠ 91 → i ≠ 92 → K' i = K i) (eV : ∀ a, w ≤ a → a ≤ w + 8 → VI' a = VI a) (t0 : VI' (w + 9) 0 = nI (K' 38)) (t1 : VI' (w + 9) 1 = nI (K' 91)) (t2 : VI' (w + 9) 2 = nI (K' 92)) : RW w K' VI' := by
  obtain ⟨w1, w2, w3, w4, w5, w6, w7, w8, w9, w10, w11, w12⟩ := h
  have hlm : lmK K' = lmK K := by
    show mskN (fun r => K' (24 + r)) (K' 93) = _
    rw [eK 93 (by omega) (by omega) (by omega) (by omega), mskN_congr (g := fun r => K (24 + r)) (fun r hr => eK _ (by omega) (by omega) (by omega) (by omega))]
  have hdm : dmK K' = dmK K := by
    show mskN (fun r => K' (30 + r)) (K' 94) = _
    rw [eK 94 (by omega) (by omega) (by omega) (by omega), mskN_congr (g := fun r => K (30 + r)) (fun r hr => eK _ (by omega) (by omega) (by omega) (by omega))]
  unfold RW
  rw [hlm, hdm, eK 93 (by omega) (by omega) (by omega) (by omega), eK 94 (by omega) (by omega) (by omega) (by omega), eK 95 (by omega) (by omega) (by omega) (by omega), eK 96 (by omega) (by omega) (by omega) (by omega), eK 97 (by omega) (by omega) (by omega) (by omega), eV w (by omega) (by omega), eV (w + 1) (by omega) (by omega), eV (w + 2) (by omega) (by omega), eV (w + 3) (by omega) (by omega), eV (w + 4) (by omega) (by omega), eV (w + 5) (by omega) (by omega), eV (w + 6) (by omega) (by omega), eV (w + 7) (by omega) (by omega), eV (w + 8) (by omega) (by omega)]
  refine ⟨w1, w2, w3, w4, w5, w6, w7, fun p hp => ?_, fun p q hp hq => ?_, fun r hr => ?_, fun k hk => ?_, t0, t1, t2⟩
  · rw [eK _ (by omega) (by omega) (by omega) (by omega), eK _ (by omega) (by omega) (by omega) (by omega)]; exact w8 p hp
  · rw [eK _ (by omega) (by omega) (by omega) (by omega)]; exact w9 p q hp hq
  · rw [eK _ (by omega) (by omega) (by omega) (by omega), eK _ (by omega) (by omega) (by omega) (by omega)]; exact w10 r hr
  · rw [eK _ (by omega) (by omega) (by omega) (by omega), eK _ (by omega) (by omega) (by omega) (by omega), eK _ (by omega) (by omega) (by omega) (by omega)]; exact w11 k hk
set_option maxRecDepth 20000 in
theorem WF.keep {K K' : KT} (h : WF K) (eK : ∀ i, i < 98 → i ≠ 38 → i ≠ 91 → i ≠ 92 → K' i = K i) (t0 : K' 38 ≤ 999) (t1 : K' 91 ≤ 10) (t2 : K' 92 ≤ 9) : WF K' := by
  obtain ⟨w1, w2, w3, w4, w5, w6, w7, w8, w9, w10, w11, w12⟩ := h
  unfold WF
  rw [eK 93 (by omega) (by omega) (by omega) (by omega), eK 94 (by omega) (by omega) (by omega) (by omega), eK 95 (by omega) (by omega) (by omega) (by omega), eK 96 (by omega) (by omega) (by omega) (by omega), eK 97 (by omega) (by omega) (by omega) (by omega)]
  refine ⟨w1, w2, w3, w4, w5, t0, t1, t2, fun p hp => ?_, fun p q hp hq => ?_, fun r hr => ?_, fun k hk => ?_⟩
  · rw [eK _ (by omega) (by omega) (by omega) (by omega), eK _ (by omega) (by omega) (by omega) (by omega), eK _ (by omega) (by omega) (by omega) (by omega)]; exact w9 p hp
  · rw [eK _ (by omega) (by omega) (by omega) (by omega)]; exact w10 p q hp hq
  · rw [eK _ (by omega) (by omega) (by omega) (by omega), eK _ (by omega) (by omega) (by omega) (by omega), eK _ (by omega) (by omega) (by omega) (by omega)]; exact w11 r hr
  · rw [eK _ (by omega) (by omega) (by omega) (by omega), eK _ (by omega) (by omega) (by omega) (by omega), eK _ (by omega) (by omega) (by omega) (by omega)]; exact w12 k hk
set_option maxRecDepth 20000 in
theorem Und.K {K K' : KT} {u : Nat} {US : Nat → KT} {lg : Nat → Nat} {VI : VIT} (h : Und K u US lg VI) (e : ∀ i, i < 39 → K' i = K i) (e1 : K' 93 = K 93) (e2 : K' 94 = K 94) : Und K' u US lg VI := by
  obtain ⟨h1, h2, h3, h4, h5⟩ := h
  refine ⟨h1, h2, h3, fun k hk => by rw [e k hk]; exact h4 k hk, ?_⟩
  rw [e1, e2]; exact h5
set_option maxRecDepth 20000 in
theorem rk97 {VI : VIT} {K : KT} {v : Nat} {x : Int32} (h : RK (VI 76) K) (hx : x = nI v - 1) : RK (up VI 76 97 x 76) (ku K 97 v) := by
  refine h.set (fun j hj hn => Or.inl ⟨?_, ku_ne hn⟩) (Or.inr ?_)
  · exact up_at' hn
  · rw [ku_same, ← hx]; exact up_at
section Write3
variable {d : Nat} {VI : VIT} {VL : VLT} {G : VRT} {P : Post} {ext : HL} {n : Nat} {K : KT}
set_option maxRecDepth 20000 in
theorem x_terms_bad {a b : Int32} (hb : a < 0 ∨ 3 ≤ a ∨ b < 0 ∨ ¬ b ≤ mostF a) (hP : P (some (.int (-1))) (LY ++ ext) (up (up VI 0 17 (-1)) 73 0 (VI 73 0 + 1)) VL (vr G)) : Ex (d + 1) mi113 0 (entL [.ref 0, .int a, .int b] 4) [] (LY ++ ext) VI VL (vr G) 0 0 P := by
  refine x_iload_n rfl rfl ?_
  refine x_if_lt rfl (fun c1 => ?_) (fun c1 => ?_)
  · refine x_aload_n rfl rfl ?_
    refine x_iconst rfl ?_
    refine x_callV (M' := mi145) (As := [_]) (bc1 := 0) (bs1 := 0) (bc2 := 0) (bs2 := 0) rfl rfl rfl rfl ok145 rfl rfl (by decide) rfl rfl rfl rfl rfl rfl ?_
    refine s_settled_ref 0 rfl (by decide) ?_
    refine x_iret rfl rfl ?_
    exact hP
  · refine x_iload_n rfl rfl ?_
    refine x_iconst rfl ?_
    refine x_icmp_ge rfl (fun c6 => ?_) (fun c6 => ?_)
    · refine x_aload_n rfl rfl ?_
      refine x_iconst rfl ?_
      refine x_callV (M' := mi145) (As := [_]) (bc1 := 0) (bs1 := 0) (bc2 := 0) (bs2 := 0) rfl rfl rfl rfl ok145 rfl rfl (by decide) rfl rfl rfl rfl rfl rfl ?_
      refine s_settled_ref 0 rfl (by decide) ?_
      refine x_iret rfl rfl ?_
      exact hP
    · refine x_iload_n rfl rfl ?_
      refine x_if_lt rfl (fun c10 => ?_) (fun c10 => ?_)
      · refine x_aload_n rfl rfl ?_
        refine x_iconst rfl ?_
        refine x_callV (M' := mi145) (As := [_]) (bc1 := 0) (bs1 := 0) (bc2 := 0) (bs2 := 0) rfl rfl rfl rfl ok145 rfl rfl (by decide) rfl rfl rfl rfl rfl rfl ?_
        refine s_settled_ref 0 rfl (by decide) ?_
        refine x_iret rfl rfl ?_
        exact hP
      · refine x_iload_n rfl rfl ?_
        refine x_iload_n rfl rfl ?_
        refine x_callS (M' := mi151) (As := [_]) (bc1 := 0) (bs1 := 0) (bc2 := 0) (bs2 := 0) rfl rfl rfl rfl ok151 rfl rfl rfl rfl rfl rfl ?_
        refine s_mostOfTerm ?_
        refine x_icmp_le rfl (fun c18 => ?_) (fun c18 => ?_)
        · exact absurd hb (by rintro (h | h | h | h) <;> first | exact c1 h | exact c6 h | exact c10 h | exact h c18)
        · refine x_aload_n rfl rfl ?_
          refine x_iconst rfl ?_
          refine x_callV (M' := mi145) (As := [_]) (bc1 := 0) (bs1 := 0) (bc2 := 0) (bs2 := 0) rfl rfl rfl rfl ok145 rfl rfl (by decide) rfl rfl rfl rfl rfl rfl ?_
          refine s_settled_ref 0 rfl (by decide) ?_
          refine x_iret rfl rfl ?_
          exact hP
set_option maxRecDepth 20000 in
theorem m_isTerm0 {lay : HL} {VR : VRT} {b : Int32} (hP : P (some (.int (b1 (liesF b 0 999)))) lay VI VL VR) : Ex (d + 1) mi184 0 (entL [.int 0, .int b] 2) [] lay VI VL VR 0 0 P := by
  refine x_iload_n rfl rfl ?_
  skip
  refine x_swIn (tgt := 28) rfl (by decide) (by decide) rfl rfl ?_
  refine x_iload_n rfl rfl ?_
  refine x_iconst rfl ?_
  refine x_sipush rfl ?_
  refine x_callS (M' := mi152) (As := [_, _, _]) (bc1 := 0) (bs1 := 0) (bc2 := 0) (bs2 := 0) rfl rfl rfl rfl ok152 rfl rfl rfl rfl rfl rfl ?_
  refine m_lies ?_
  refine x_zret rfl rfl (b1_01 _) ?_
  exact hP
set_option maxRecDepth 20000 in
theorem m_isTerm1 {lay : HL} {VR : VRT} {b : Int32} (hP : P (some (.int (b1 (liesF b 0 10)))) lay VI VL VR) : Ex (d + 1) mi184 0 (entL [.int 1, .int b] 2) [] lay VI VL VR 0 0 P := by
  refine x_iload_n rfl rfl ?_
  skip
  refine x_swIn (tgt := 37) rfl (by decide) (by decide) rfl rfl ?_
  refine x_iload_n rfl rfl ?_
  refine x_iconst rfl ?_
  refine x_bipush rfl ?_
  refine x_callS (M' := mi152) (As := [_, _, _]) (bc1 := 0) (bs1 := 0) (bc2 := 0) (bs2 := 0) rfl rfl rfl rfl ok152 rfl rfl rfl rfl rfl rfl ?_
  refine m_lies ?_
  refine x_zret rfl rfl (b1_01 _) ?_
  exact hP
set_option maxRecDepth 20000 in
theorem m_isTerm2 {lay : HL} {VR : VRT} {b : Int32} (hP : P (some (.int (b1 (liesF b 0 9)))) lay VI VL VR) : Ex (d + 1) mi184 0 (entL [.int 2, .int b] 2) [] lay VI VL VR 0 0 P := by
  refine x_iload_n rfl rfl ?_
  skip
  refine x_swIn (tgt := 45) rfl (by decide) (by decide) rfl rfl ?_
  refine x_iload_n rfl rfl ?_
  refine x_iconst rfl ?_
  refine x_bipush rfl ?_
  refine x_callS (M' := mi152) (As := [_, _, _]) (bc1 := 0) (bs1 := 0) (bc2 := 0) (bs2 := 0) rfl rfl rfl rfl ok152 rfl rfl rfl rfl rfl rfl ?_
  refine m_lies ?_
  refine x_zret rfl rfl (b1_01 _) ?_
  exact hP
set_option maxRecDepth 20000 in
theorem m_isTerm_d {lay : HL} {VR : VRT} {a b : Int32} (h : a.toInt < 0 ∨ 2 < a.toInt) (hP : P (some (.int 0)) lay VI VL VR) : Ex (d + 1) mi184 0 (entL [.int a, .int b] 2) [] lay VI VL VR 0 0 P := by
  refine x_iload_n rfl rfl ?_
  skip
  refine x_swOut (tgt := 53) rfl h rfl ?_
  refine x_iconst rfl ?_
  refine x_zret rfl rfl (by first | exact Or.inl rfl | exact Or.inr rfl) ?_
  exact hP
set_option maxRecDepth 20000 in
theorem m_isTermB {a b : Int32} (hb : a < 0 ∨ 3 ≤ a ∨ b < 0 ∨ ¬ b ≤ mostF a) (hP : P (some (.int 0)) (LY ++ ext) VI VL (vr G)) : Ex (d + 1) mi184 0 (entL [.int a, .int b] 2) [] (LY ++ ext) VI VL (vr G) 0 0 P := by
  by_cases h0 : a < 0
  · exact m_isTerm_d (Or.inl (by rw [Int32.lt_iff_toInt_lt] at h0; have e0 : (0 : Int32).toInt = 0 := rfl; omega)) hP
  · by_cases h3 : 3 ≤ a
    · exact m_isTerm_d (Or.inr (by rw [Int32.le_iff_toInt_le] at h3; have e0 : (3 : Int32).toInt = 3 := rfl; omega)) hP
    · have hb2 : b < 0 ∨ ¬ b ≤ mostF a := (hb.resolve_left h0).resolve_left h3
      rcases in3 h0 h3 with e | e | e <;> subst e
      · refine m_isTerm0 (P_i ?_ hP)
        rw [show liesF b 0 999 = false from decide_eq_false (fun hh => hb2.elim hh.1 (fun z => z (Int32.not_lt.mp hh.2)))]; rfl
      · refine m_isTerm1 (P_i ?_ hP)
        rw [show liesF b 0 10 = false from decide_eq_false (fun hh => hb2.elim hh.1 (fun z => z (Int32.not_lt.mp hh.2)))]; rfl
      · refine m_isTerm2 (P_i ?_ hP)
        rw [show liesF b 0 9 = false from decide_eq_false (fun hh => hb2.elim hh.1 (fun z => z (Int32.not_lt.mp hh.2)))]; rfl
set_option maxRecDepth 20000 in
theorem m_terms_bad {a b : Int32} (hb : a < 0 ∨ 3 ≤ a ∨ b < 0 ∨ ¬ b ≤ mostF a) (hP : P (some (.int (-1))) (LY ++ ext) (up (up VI 74 0 (-1)) 75 1 (VI 75 1 + 1)) VL (vr G)) : Ex (d + 2) mi185 0 (entL [.ref 74, .int a, .int b] 5) [] (LY ++ ext) VI VL (vr G) 0 0 P := by
  refine x_iload_n rfl rfl ?_
  refine x_iload_n rfl rfl ?_
  refine x_callS (M' := mi184) (As := [_, _]) (bc1 := 0) (bs1 := 0) (bc2 := 0) (bs2 := 0) rfl rfl rfl rfl ok184 rfl rfl rfl rfl rfl rfl ?_
  refine m_isTermB hb ?_
  refine x_if_ne rfl (fun c5 => ?_) (fun c5 => ?_)
  · exact absurd c5 (by first | decide | omega)
  refine x_aload_n rfl rfl ?_
  refine x_iconst rfl ?_
  refine x_callV (M' := mi154) (As := [_]) (bc1 := 0) (bs1 := 0) (bc2 := 0) (bs2 := 0) rfl rfl rfl rfl ok154 rfl rfl (by decide) rfl rfl rfl rfl rfl rfl ?_
  refine m_refuses 1 rfl (by decide) ?_
  refine x_iret rfl rfl ?_
  exact hP
set_option maxRecDepth 20000 in
theorem x_terms0 {v x : Nat} (hv : v ≤ 999) (hx : VI 12 0 = nI x) (hx2 : x < 2147483648) (hP : P (some (.int (nI x))) (LY ++ ext) (up (up (up VI 45 2 0) 12 0 (nI v)) 0 17 0) VL (vr G)) : Ex (d + 1) mi113 0 (entL [.ref 0, .int 0, .int (nI v)] 4) [] (LY ++ ext) VI VL (vr G) 0 0 P := by
  have h1 : ¬ nI v < 0 := nI_pos (by omega)
  have h2 : nI v ≤ mostF 0 := nI_le (b := 999) hv (by omega)
  refine x_iload_n rfl rfl ?_
  refine x_if_lt rfl (fun c1 => ?_) (fun c1 => ?_)
  · exact absurd c1 (by first | decide | omega)
  refine x_iload_n rfl rfl ?_
  refine x_iconst rfl ?_
  refine x_icmp_ge rfl (fun c6 => ?_) (fun c6 => ?_)
  · exact absurd c6 (by first | decide | omega)
  refine x_iload_n rfl rfl ?_
  refine x_if_lt rfl (fun c10 => ?_) (fun c10 => ?_)
  · exact absurd c10 h1
  refine x_iload_n rfl rfl ?_
  refine x_iload_n rfl rfl ?_
  refine x_callS (M' := mi151) (As := [_]) (bc1 := 0) (bs1 := 0) (bc2 := 0) (bs2 := 0) rfl rfl rfl rfl ok151 rfl rfl rfl rfl rfl rfl ?_
  refine s_mostOfTerm ?_
  refine x_icmp_le rfl (fun c18 => ?_) (fun c18 => ?_)
  rotate_left
  · exact absurd h2 c18
  refine x_aload_n rfl rfl ?_
  refine x_getR (u := .ref _) rfl rfl rfl rfl ?_
  refine x_callV (M' := mi6) (As := []) (bc1 := 0) (bs1 := 0) (bc2 := 0) (bs2 := 0) rfl rfl rfl rfl ok6 rfl rfl (by decide) rfl rfl rfl rfl rfl rfl ?_
  refine s_forgetAll ?_
  refine x_aload_n rfl rfl ?_
  refine x_getR (u := .ref _) rfl rfl rfl rfl ?_
  refine x_getR (u := .ref _) rfl rfl rfl rfl ?_
  refine x_iload_n rfl rfl ?_
  refine x_ialE (j := 0) rfl rfl (rfl) (by omega) (hx) ?_
  refine x_istore_n (ls' := [_, _, _, _]) rfl rfl rfl ?_
  refine x_aload_n rfl rfl ?_
  refine x_getR (u := .ref _) rfl rfl rfl rfl ?_
  refine x_getR (u := .ref _) rfl rfl rfl rfl ?_
  refine x_iload_n rfl rfl ?_
  refine x_iload_n rfl rfl ?_
  refine x_iasN (j := 0) rfl rfl (rfl) (by omega) ?_
  refine x_aload_n rfl rfl ?_
  refine x_iload_n rfl rfl ?_
  refine x_callV (M' := mi145) (As := [_]) (bc1 := 0) (bs1 := 0) (bc2 := 0) (bs2 := 0) rfl rfl rfl rfl ok145 rfl rfl (by decide) rfl rfl rfl rfl rfl rfl ?_
  refine s_settled_ok hx2 ?_
  refine x_iret rfl rfl ?_
  exact hP
set_option maxRecDepth 20000 in
theorem m_terms0 {v : Nat} (hv : v ≤ 999) (hP : P (some (.int (VI 76 38))) (LY ++ ext) (up (up (up VI 76 38 (nI v)) 74 32 0) 74 0 0) VL (vr G)) : Ex (d + 2) mi185 0 (entL [.ref 74, .int 0, .int (nI v)] 5) [] (LY ++ ext) VI VL (vr G) 0 0 P := by
  have h1 : ¬ nI v < 0 := nI_pos (by omega)
  have h2 : ¬ 999 < nI v := Int32.not_lt.mpr (nI_le (b := 999) hv (by omega))
  refine x_iload_n rfl rfl ?_
  refine x_iload_n rfl rfl ?_
  refine x_callS (M' := mi184) (As := [_, _]) (bc1 := 0) (bs1 := 0) (bc2 := 0) (bs2 := 0) rfl rfl rfl rfl ok184 rfl rfl rfl rfl rfl rfl ?_
  refine m_isTerm0 ?_
  rw [show liesF (nI v) 0 999 = true from by simp only [liesF, decide_eq_true_eq]; exact ⟨h1, h2⟩]
  refine x_if_ne rfl (fun c5 => ?_) (fun c5 => ?_)
  rotate_left
  · exact absurd c5 (by first | decide | omega)
  refine x_iload_n rfl rfl ?_
  refine x_if_ne rfl (fun c15 => ?_) (fun c15 => ?_)
  · exact absurd c15 (by first | decide | omega)
  refine x_bipush rfl ?_
  refine x_goto rfl ?_
  refine x_istore_n (ls' := [_, _, _, _, _]) rfl rfl rfl ?_
  refine x_aload_n rfl rfl ?_
  refine x_getR (u := .ref _) rfl rfl rfl rfl ?_
  refine x_iload_n rfl rfl ?_
  refine x_ialN (j := 38) rfl rfl (rfl) (by omega) ?_
  refine x_istore (ls' := [_, _, _, _, _]) rfl rfl rfl ?_
  refine x_aload_n rfl rfl ?_
  refine x_getR (u := .ref _) rfl rfl rfl rfl ?_
  refine x_iload_n rfl rfl ?_
  refine x_iload_n rfl rfl ?_
  refine x_iasN (j := 38) rfl rfl (rfl) (by omega) ?_
  refine x_aload_n rfl rfl ?_
  refine x_iload rfl rfl ?_
  refine x_callV (M' := mi156) (As := [_]) (bc1 := 0) (bs1 := 0) (bc2 := 0) (bs2 := 0) rfl rfl rfl rfl ok156 rfl rfl (by decide) rfl rfl rfl rfl rfl rfl ?_
  refine m_settled ?_
  refine x_iret rfl rfl ?_
  exact hP
set_option maxRecDepth 20000 in
theorem x_terms1 {v x : Nat} (hv : v ≤ 10) (hx : VI 12 1 = nI x) (hx2 : x < 2147483648) (hP : P (some (.int (nI x))) (LY ++ ext) (up (up (up VI 45 2 0) 12 1 (nI v)) 0 17 0) VL (vr G)) : Ex (d + 1) mi113 0 (entL [.ref 0, .int 1, .int (nI v)] 4) [] (LY ++ ext) VI VL (vr G) 0 0 P := by
  have h1 : ¬ nI v < 0 := nI_pos (by omega)
  have h2 : nI v ≤ mostF 1 := nI_le (b := 10) hv (by omega)
  refine x_iload_n rfl rfl ?_
  refine x_if_lt rfl (fun c1 => ?_) (fun c1 => ?_)
  · exact absurd c1 (by first | decide | omega)
  refine x_iload_n rfl rfl ?_
  refine x_iconst rfl ?_
  refine x_icmp_ge rfl (fun c6 => ?_) (fun c6 => ?_)
  · exact absurd c6 (by first | decide | omega)
  refine x_iload_n rfl rfl ?_
  refine x_if_lt rfl (fun c10 => ?_) (fun c10 => ?_)
  · exact absurd c10 h1
  refine x_iload_n rfl rfl ?_
  refine x_iload_n rfl rfl ?_
  refine x_callS (M' := mi151) (As := [_]) (bc1 := 0) (bs1 := 0) (bc2 := 0) (bs2 := 0) rfl rfl rfl rfl ok151 rfl rfl rfl rfl rfl rfl ?_
  refine s_mostOfTerm ?_
  refine x_icmp_le rfl (fun c18 => ?_) (fun c18 => ?_)
  rotate_left
  · exact absurd h2 c18
  refine x_aload_n rfl rfl ?_
  refine x_getR (u := .ref _) rfl rfl rfl rfl ?_
  refine x_callV (M' := mi6) (As := []) (bc1 := 0) (bs1 := 0) (bc2 := 0) (bs2 := 0) rfl rfl rfl rfl ok6 rfl rfl (by decide) rfl rfl rfl rfl rfl rfl ?_
  refine s_forgetAll ?_
  refine x_aload_n rfl rfl ?_
  refine x_getR (u := .ref _) rfl rfl rfl rfl ?_
  refine x_getR (u := .ref _) rfl rfl rfl rfl ?_
  refine x_iload_n rfl rfl ?_
  refine x_ialE (j := 1) rfl rfl (rfl) (by omega) (hx) ?_
  refine x_istore_n (ls' := [_, _, _, _]) rfl rfl rfl ?_
  refine x_aload_n rfl rfl ?_
  refine x_getR (u := .ref _) rfl rfl rfl rfl ?_
  refine x_getR (u := .ref _) rfl rfl rfl rfl ?_
  refine x_iload_n rfl rfl ?_
  refine x_iload_n rfl rfl ?_
  refine x_iasN (j := 1) rfl rfl (rfl) (by omega) ?_
  refine x_aload_n rfl rfl ?_
  refine x_iload_n rfl rfl ?_
  refine x_callV (M' := mi145) (As := [_]) (bc1 := 0) (bs1 := 0) (bc2 := 0) (bs2 := 0) rfl rfl rfl rfl ok145 rfl rfl (by decide) rfl rfl rfl rfl rfl rfl ?_
  refine s_settled_ok hx2 ?_
  refine x_iret rfl rfl ?_
  exact hP
set_option maxRecDepth 20000 in
theorem m_terms1 {v : Nat} (hv : v ≤ 10) (hP : P (some (.int (VI 76 91))) (LY ++ ext) (up (up (up VI 76 91 (nI v)) 74 32 0) 74 0 0) VL (vr G)) : Ex (d + 2) mi185 0 (entL [.ref 74, .int 1, .int (nI v)] 5) [] (LY ++ ext) VI VL (vr G) 0 0 P := by
  have h1 : ¬ nI v < 0 := nI_pos (by omega)
  have h2 : ¬ 10 < nI v := Int32.not_lt.mpr (nI_le (b := 10) hv (by omega))
  refine x_iload_n rfl rfl ?_
  refine x_iload_n rfl rfl ?_
  refine x_callS (M' := mi184) (As := [_, _]) (bc1 := 0) (bs1 := 0) (bc2 := 0) (bs2 := 0) rfl rfl rfl rfl ok184 rfl rfl rfl rfl rfl rfl ?_
  refine m_isTerm1 ?_
  rw [show liesF (nI v) 0 10 = true from by simp only [liesF, decide_eq_true_eq]; exact ⟨h1, h2⟩]
  refine x_if_ne rfl (fun c5 => ?_) (fun c5 => ?_)
  rotate_left
  · exact absurd c5 (by first | decide | omega)
  refine x_iload_n rfl rfl ?_
  refine x_if_ne rfl (fun c15 => ?_) (fun c15 => ?_)
  rotate_left
  · exact absurd c15 (by first | decide | omega)
  refine x_bipush rfl ?_
  refine x_iload_n rfl rfl ?_
  refine x_iadd rfl ?_
  refine x_iconst rfl ?_
  refine x_isub rfl ?_
  refine x_istore_n (ls' := [_, _, _, _, _]) rfl rfl rfl ?_
  refine x_aload_n rfl rfl ?_
  refine x_getR (u := .ref _) rfl rfl rfl rfl ?_
  refine x_iload_n rfl rfl ?_
  refine x_ialN (j := 91) rfl rfl (rfl) (by omega) ?_
  refine x_istore (ls' := [_, _, _, _, _]) rfl rfl rfl ?_
  refine x_aload_n rfl rfl ?_
  refine x_getR (u := .ref _) rfl rfl rfl rfl ?_
  refine x_iload_n rfl rfl ?_
  refine x_iload_n rfl rfl ?_
  refine x_iasN (j := 91) rfl rfl (rfl) (by omega) ?_
  refine x_aload_n rfl rfl ?_
  refine x_iload rfl rfl ?_
  refine x_callV (M' := mi156) (As := [_]) (bc1 := 0) (bs1 := 0) (bc2 := 0) (bs2 := 0) rfl rfl rfl rfl ok156 rfl rfl (by decide) rfl rfl rfl rfl rfl rfl ?_
  refine m_settled ?_
  refine x_iret rfl rfl ?_
  exact hP
set_option maxRecDepth 20000 in
theorem x_terms2 {v x : Nat} (hv : v ≤ 9) (hx : VI 12 2 = nI x) (hx2 : x < 2147483648) (hP : P (some (.int (nI x))) (LY ++ ext) (up (up (up VI 45 2 0) 12 2 (nI v)) 0 17 0) VL (vr G)) : Ex (d + 1) mi113 0 (entL [.ref 0, .int 2, .int (nI v)] 4) [] (LY ++ ext) VI VL (vr G) 0 0 P := by
  have h1 : ¬ nI v < 0 := nI_pos (by omega)
  have h2 : nI v ≤ mostF 2 := nI_le (b := 9) hv (by omega)
  refine x_iload_n rfl rfl ?_
  refine x_if_lt rfl (fun c1 => ?_) (fun c1 => ?_)
  · exact absurd c1 (by first | decide | omega)
  refine x_iload_n rfl rfl ?_
  refine x_iconst rfl ?_
  refine x_icmp_ge rfl (fun c6 => ?_) (fun c6 => ?_)
  · exact absurd c6 (by first | decide | omega)
  refine x_iload_n rfl rfl ?_
  refine x_if_lt rfl (fun c10 => ?_) (fun c10 => ?_)
  · exact absurd c10 h1
  refine x_iload_n rfl rfl ?_
  refine x_iload_n rfl rfl ?_
  refine x_callS (M' := mi151) (As := [_]) (bc1 := 0) (bs1 := 0) (bc2 := 0) (bs2 := 0) rfl rfl rfl rfl ok151 rfl rfl rfl rfl rfl rfl ?_
  refine s_mostOfTerm ?_
  refine x_icmp_le rfl (fun c18 => ?_) (fun c18 => ?_)
  rotate_left
  · exact absurd h2 c18
  refine x_aload_n rfl rfl ?_
  refine x_getR (u := .ref _) rfl rfl rfl rfl ?_
  refine x_callV (M' := mi6) (As := []) (bc1 := 0) (bs1 := 0) (bc2 := 0) (bs2 := 0) rfl rfl rfl rfl ok6 rfl rfl (by decide) rfl rfl rfl rfl rfl rfl ?_
  refine s_forgetAll ?_
  refine x_aload_n rfl rfl ?_
  refine x_getR (u := .ref _) rfl rfl rfl rfl ?_
  refine x_getR (u := .ref _) rfl rfl rfl rfl ?_
  refine x_iload_n rfl rfl ?_
  refine x_ialE (j := 2) rfl rfl (rfl) (by omega) (hx) ?_
  refine x_istore_n (ls' := [_, _, _, _]) rfl rfl rfl ?_
  refine x_aload_n rfl rfl ?_
  refine x_getR (u := .ref _) rfl rfl rfl rfl ?_
  refine x_getR (u := .ref _) rfl rfl rfl rfl ?_
  refine x_iload_n rfl rfl ?_
  refine x_iload_n rfl rfl ?_
  refine x_iasN (j := 2) rfl rfl (rfl) (by omega) ?_
  refine x_aload_n rfl rfl ?_
  refine x_iload_n rfl rfl ?_
  refine x_callV (M' := mi145) (As := [_]) (bc1 := 0) (bs1 := 0) (bc2 := 0) (bs2 := 0) rfl rfl rfl rfl ok145 rfl rfl (by decide) rfl rfl rfl rfl rfl rfl ?_
  refine s_settled_ok hx2 ?_
  refine x_iret rfl rfl ?_
  exact hP
set_option maxRecDepth 20000 in
theorem m_terms2 {v : Nat} (hv : v ≤ 9) (hP : P (some (.int (VI 76 92))) (LY ++ ext) (up (up (up VI 76 92 (nI v)) 74 32 0) 74 0 0) VL (vr G)) : Ex (d + 2) mi185 0 (entL [.ref 74, .int 2, .int (nI v)] 5) [] (LY ++ ext) VI VL (vr G) 0 0 P := by
  have h1 : ¬ nI v < 0 := nI_pos (by omega)
  have h2 : ¬ 9 < nI v := Int32.not_lt.mpr (nI_le (b := 9) hv (by omega))
  refine x_iload_n rfl rfl ?_
  refine x_iload_n rfl rfl ?_
  refine x_callS (M' := mi184) (As := [_, _]) (bc1 := 0) (bs1 := 0) (bc2 := 0) (bs2 := 0) rfl rfl rfl rfl ok184 rfl rfl rfl rfl rfl rfl ?_
  refine m_isTerm2 ?_
  rw [show liesF (nI v) 0 9 = true from by simp only [liesF, decide_eq_true_eq]; exact ⟨h1, h2⟩]
  refine x_if_ne rfl (fun c5 => ?_) (fun c5 => ?_)
  rotate_left
  · exact absurd c5 (by first | decide | omega)
  refine x_iload_n rfl rfl ?_
  refine x_if_ne rfl (fun c15 => ?_) (fun c15 => ?_)
  rotate_left
  · exact absurd c15 (by first | decide | omega)
  refine x_bipush rfl ?_
  refine x_iload_n rfl rfl ?_
  refine x_iadd rfl ?_
  refine x_iconst rfl ?_
  refine x_isub rfl ?_
  refine x_istore_n (ls' := [_, _, _, _, _]) rfl rfl rfl ?_
  refine x_aload_n rfl rfl ?_
  refine x_getR (u := .ref _) rfl rfl rfl rfl ?_
  refine x_iload_n rfl rfl ?_
  refine x_ialN (j := 92) rfl rfl (rfl) (by omega) ?_
  refine x_istore (ls' := [_, _, _, _, _]) rfl rfl rfl ?_
  refine x_aload_n rfl rfl ?_
  refine x_getR (u := .ref _) rfl rfl rfl rfl ?_
  refine x_iload_n rfl rfl ?_
  refine x_iload_n rfl rfl ?_
  refine x_iasN (j := 92) rfl rfl (rfl) (by omega) ?_
  refine x_aload_n rfl rfl ?_
  refine x_iload rfl rfl ?_
  refine x_callV (M' := mi156) (As := [_]) (bc1 := 0) (bs1 := 0) (bc2 := 0) (bs2 := 0) rfl rfl rfl rfl ok156 rfl rfl (by decide) rfl rfl rfl rfl rfl rfl ?_
  refine m_settled ?_
  refine x_iret rfl rfl ?_
  exact hP
set_option maxRecDepth 20000 in
theorem x_told_bad1 {p q e : Int32} (hb : hasF 4 e = 0 ∨ p = q) (hP : P (some (.int (-1))) (LY ++ ext) (up (up VI 0 17 (-1)) 73 0 (VI 73 0 + 1)) VL (vr G)) : Ex (d + 1) mi133 0 (entL [.ref 0, .int p, .int q, .int e] 4) [] (LY ++ ext) VI VL (vr G) 0 0 P := by
  refine x_iload_n rfl rfl ?_
  refine x_callS (M' := mi150) (As := [_]) (bc1 := 0) (bs1 := 0) (bc2 := 0) (bs2 := 0) rfl rfl rfl rfl ok150 rfl rfl rfl rfl rfl rfl ?_
  refine s_isDay ?_
  refine x_if_eq rfl (fun c4 => ?_) (fun c4 => ?_)
  · refine x_aload_n rfl rfl ?_
    refine x_iconst rfl ?_
    refine x_callV (M' := mi145) (As := [_]) (bc1 := 0) (bs1 := 0) (bc2 := 0) (bs2 := 0) rfl rfl rfl rfl ok145 rfl rfl (by decide) rfl rfl rfl rfl rfl rfl ?_
    refine s_settled_ref 0 rfl (by decide) ?_
    refine x_iret rfl rfl ?_
    exact hP
  · refine x_iload_n rfl rfl ?_
    refine x_iload_n rfl rfl ?_
    refine x_icmp_ne rfl (fun c9 => ?_) (fun c9 => ?_)
    · exact absurd hb (by rintro (h | h) <;> first | exact c4 h | exact c9 h)
    · refine x_aload_n rfl rfl ?_
      refine x_iconst rfl ?_
      refine x_callV (M' := mi145) (As := [_]) (bc1 := 0) (bs1 := 0) (bc2 := 0) (bs2 := 0) rfl rfl rfl rfl ok145 rfl rfl (by decide) rfl rfl rfl rfl rfl rfl ?_
      refine s_settled_ref 0 rfl (by decide) ?_
      refine x_iret rfl rfl ?_
      exact hP
set_option maxRecDepth 20000 in
theorem m_told_bad1 {p q e : Int32} (hb : hasF 4 e = 0 ∨ p = q) (hP : P (some (.int (-1))) (LY ++ ext) (up (up VI 74 0 (-1)) 75 1 (VI 75 1 + 1)) VL (vr G)) : Ex (d + 2) mi258 0 (entL [.ref 74, .int p, .int q, .int e] 5) [] (LY ++ ext) VI VL (vr G) 0 0 P := by
  refine x_iload_n rfl rfl ?_
  refine x_iload_n rfl rfl ?_
  refine x_icmp_eq rfl (fun c2 => ?_) (fun c2 => ?_)
  · refine x_aload_n rfl rfl ?_
    refine x_iconst rfl ?_
    refine x_callV (M' := mi154) (As := [_]) (bc1 := 0) (bs1 := 0) (bc2 := 0) (bs2 := 0) rfl rfl rfl rfl ok154 rfl rfl (by decide) rfl rfl rfl rfl rfl rfl ?_
    refine m_refuses 1 rfl (by decide) ?_
    refine x_iret rfl rfl ?_
    exact hP
  · refine x_iload_n rfl rfl ?_
    refine x_callS (M' := mi166) (As := [_]) (bc1 := 0) (bs1 := 0) (bc2 := 0) (bs2 := 0) rfl rfl rfl rfl ok166 rfl rfl rfl rfl rfl rfl ?_
    refine m_isDayK ?_
    refine x_if_ne rfl (fun c9 => ?_) (fun c9 => ?_)
    · exact absurd hb (by rintro (h | h) <;> first | exact c9 h | exact c2 h)
    · refine x_aload_n rfl rfl ?_
      refine x_iconst rfl ?_
      refine x_callV (M' := mi154) (As := [_]) (bc1 := 0) (bs1 := 0) (bc2 := 0) (bs2 := 0) rfl rfl rfl rfl ok154 rfl rfl (by decide) rfl rfl rfl rfl rfl rfl ?_
      refine m_refuses 1 rfl (by decide) ?_
      refine x_iret rfl rfl ?_
      exact hP
set_option maxRecDepth 20000 in
theorem x_told_bad2 {p q e : Int32} (hX : RW 3 K VI) (he : hasF 4 e = 1) (hpq : ¬ p = q) (hb : hasF (nI (K 93)) p = 0 ∨ hasF (nI (K 93)) q = 0) (hP : P (some (.int (-2))) (LY ++ ext) (up (up VI 0 17 (-2)) 73 1 (VI 73 1 + 1)) VL (vr G)) : Ex (d + 1) mi133 0 (entL [.ref 0, .int p, .int q, .int e] 4) [] (LY ++ ext) VI VL (vr G) 0 0 P := by
  refine x_iload_n rfl rfl ?_
  refine x_callS (M' := mi150) (As := [_]) (bc1 := 0) (bs1 := 0) (bc2 := 0) (bs2 := 0) rfl rfl rfl rfl ok150 rfl rfl rfl rfl rfl rfl ?_
  refine s_isDay ?_
  rw [he]
  refine x_if_eq rfl (fun c4 => ?_) (fun c4 => ?_)
  · exact absurd c4 (by first | decide | omega)
  refine x_iload_n rfl rfl ?_
  refine x_iload_n rfl rfl ?_
  refine x_icmp_ne rfl (fun c9 => ?_) (fun c9 => ?_)
  rotate_left
  · exact absurd c9 hpq
  refine x_aload_n rfl rfl ?_
  refine x_getR (u := .ref _) rfl rfl rfl rfl ?_
  refine x_iload_n rfl rfl ?_
  refine x_callV (M' := mi95) (As := [_]) (bc1 := 0) (bs1 := 0) (bc2 := 0) (bs2 := 0) rfl rfl rfl rfl ok95 rfl rfl (by decide) rfl rfl rfl rfl rfl rfl ?_
  refine s_hasPersonK hX ?_
  refine x_if_eq rfl (fun c26 => ?_) (fun c26 => ?_)
  · refine x_aload_n rfl rfl ?_
    refine x_bipush rfl ?_
    refine x_callV (M' := mi145) (As := [_]) (bc1 := 0) (bs1 := 0) (bc2 := 0) (bs2 := 0) rfl rfl rfl rfl ok145 rfl rfl (by decide) rfl rfl rfl rfl rfl rfl ?_
    refine s_settled_ref 1 rfl (by decide) ?_
    refine x_iret rfl rfl ?_
    exact hP
  · refine x_aload_n rfl rfl ?_
    refine x_getR (u := .ref _) rfl rfl rfl rfl ?_
    refine x_iload_n rfl rfl ?_
    refine x_callV (M' := mi95) (As := [_]) (bc1 := 0) (bs1 := 0) (bc2 := 0) (bs2 := 0) rfl rfl rfl rfl ok95 rfl rfl (by decide) rfl rfl rfl rfl rfl rfl ?_
    refine s_hasPersonK hX ?_
    refine x_if_ne rfl (fun c37 => ?_) (fun c37 => ?_)
    · exact absurd hb (by rintro (h | h) <;> first | exact c26 h | exact c37 h)
    · refine x_aload_n rfl rfl ?_
      refine x_bipush rfl ?_
      refine x_callV (M' := mi145) (As := [_]) (bc1 := 0) (bs1 := 0) (bc2 := 0) (bs2 := 0) rfl rfl rfl rfl ok145 rfl rfl (by decide) rfl rfl rfl rfl rfl rfl ?_
      refine s_settled_ref 1 rfl (by decide) ?_
      refine x_iret rfl rfl ?_
      exact hP
set_option maxRecDepth 20000 in
theorem m_told_bad2 {p q e : Int32} (hM : RK (VI 76) K) (hW : WF K) (he : hasF 4 e = 1) (hpq : ¬ p = q) (hb : hasF (nI (K 93)) p = 0 ∨ hasF (nI (K 93)) q = 0) (hP : P (some (.int (-2))) (LY ++ ext) (up (up VI 74 0 (-2)) 75 2 (VI 75 2 + 1)) VL (vr G)) : Ex (d + 2) mi258 0 (entL [.ref 74, .int p, .int q, .int e] 5) [] (LY ++ ext) VI VL (vr G) 0 0 P := by
  refine x_iload_n rfl rfl ?_
  refine x_iload_n rfl rfl ?_
  refine x_icmp_eq rfl (fun c2 => ?_) (fun c2 => ?_)
  · exact absurd c2 hpq
  refine x_iload_n rfl rfl ?_
  refine x_callS (M' := mi166) (As := [_]) (bc1 := 0) (bs1 := 0) (bc2 := 0) (bs2 := 0) rfl rfl rfl rfl ok166 rfl rfl rfl rfl rfl rfl ?_
  refine m_isDayK ?_
  rw [he]
  refine x_if_ne rfl (fun c9 => ?_) (fun c9 => ?_)
  rotate_left
  · exact absurd c9 (by first | decide | omega)
  refine x_aload_n rfl rfl ?_
  refine x_iload_n rfl rfl ?_
  refine x_callV (M' := mi164) (As := [_]) (bc1 := 0) (bs1 := 0) (bc2 := 0) (bs2 := 0) rfl rfl rfl rfl ok164 rfl rfl (by decide) rfl rfl rfl rfl rfl rfl ?_
  refine m_isPersonK hM hW ?_
  refine x_if_eq rfl (fun c23 => ?_) (fun c23 => ?_)
  · refine x_aload_n rfl rfl ?_
    refine x_bipush rfl ?_
    refine x_callV (M' := mi154) (As := [_]) (bc1 := 0) (bs1 := 0) (bc2 := 0) (bs2 := 0) rfl rfl rfl rfl ok154 rfl rfl (by decide) rfl rfl rfl rfl rfl rfl ?_
    refine m_refuses 2 rfl (by decide) ?_
    refine x_iret rfl rfl ?_
    exact hP
  · refine x_aload_n rfl rfl ?_
    refine x_iload_n rfl rfl ?_
    refine x_callV (M' := mi164) (As := [_]) (bc1 := 0) (bs1 := 0) (bc2 := 0) (bs2 := 0) rfl rfl rfl rfl ok164 rfl rfl (by decide) rfl rfl rfl rfl rfl rfl ?_
    refine m_isPersonK hM hW ?_
    refine x_if_ne rfl (fun c31 => ?_) (fun c31 => ?_)
    · exact absurd hb (by rintro (h | h) <;> first | exact c23 h | exact c31 h)
    · refine x_aload_n rfl rfl ?_
      refine x_bipush rfl ?_
      refine x_callV (M' := mi154) (As := [_]) (bc1 := 0) (bs1 := 0) (bc2 := 0) (bs2 := 0) rfl rfl rfl rfl ok154 rfl rfl (by decide) rfl rfl rfl rfl rfl rfl ?_
      refine m_refuses 2 rfl (by decide) ?_
      refine x_iret rfl rfl ?_
      exact hP
set_option maxRecDepth 20000 in
theorem x_told_full {p q e : Int32} (hX : RW 3 K VI) (he : hasF 4 e = 1) (hpq : ¬ p = q) (hp : hasF (nI (K 93)) p = 1) (hq : hasF (nI (K 93)) q = 1) (hn : VI 3 9 = nI 8) (hP : P (some (.int (-5))) (LY ++ ext) (up (up VI 0 17 (-5)) 73 4 (VI 73 4 + 1)) VL (vr G)) : Ex (d + 1) mi133 0 (entL [.ref 0, .int p, .int q, .int e] 4) [] (LY ++ ext) VI VL (vr G) 0 0 P := by
  refine x_iload_n rfl rfl ?_
  refine x_callS (M' := mi150) (As := [_]) (bc1 := 0) (bs1 := 0) (bc2 := 0) (bs2 := 0) rfl rfl rfl rfl ok150 rfl rfl rfl rfl rfl rfl ?_
  refine s_isDay ?_
  rw [he]
  refine x_if_eq rfl (fun c4 => ?_) (fun c4 => ?_)
  · exact absurd c4 (by first | decide | omega)
  refine x_iload_n rfl rfl ?_
  refine x_iload_n rfl rfl ?_
  refine x_icmp_ne rfl (fun c9 => ?_) (fun c9 => ?_)
  rotate_left
  · exact absurd c9 hpq
  refine x_aload_n rfl rfl ?_
  refine x_getR (u := .ref _) rfl rfl rfl rfl ?_
  refine x_iload_n rfl rfl ?_
  refine x_callV (M' := mi95) (As := [_]) (bc1 := 0) (bs1 := 0) (bc2 := 0) (bs2 := 0) rfl rfl rfl rfl ok95 rfl rfl (by decide) rfl rfl rfl rfl rfl rfl ?_
  refine s_hasPersonK hX ?_
  rw [hp]
  refine x_if_eq rfl (fun c26 => ?_) (fun c26 => ?_)
  · exact absurd c26 (by first | decide | omega)
  refine x_aload_n rfl rfl ?_
  refine x_getR (u := .ref _) rfl rfl rfl rfl ?_
  refine x_iload_n rfl rfl ?_
  refine x_callV (M' := mi95) (As := [_]) (bc1 := 0) (bs1 := 0) (bc2 := 0) (bs2 := 0) rfl rfl rfl rfl ok95 rfl rfl (by decide) rfl rfl rfl rfl rfl rfl ?_
  refine s_hasPersonK hX ?_
  rw [hq]
  refine x_if_ne rfl (fun c37 => ?_) (fun c37 => ?_)
  rotate_left
  · exact absurd c37 (by first | decide | omega)
  refine x_aload_n rfl rfl ?_
  refine x_aload_n rfl rfl ?_
  refine x_getR (u := .ref _) rfl rfl rfl rfl ?_
  refine x_getE (y := 9) rfl rfl rfl (hn) ?_
  refine x_bipush rfl ?_
  refine x_icmp_lt rfl (fun c57 => ?_) (fun c57 => ?_)
  · exact absurd c57 (by first | decide | omega)
  refine x_bipush rfl ?_
  refine x_goto rfl ?_
  refine x_callV (M' := mi145) (As := [_]) (bc1 := 0) (bs1 := 0) (bc2 := 0) (bs2 := 0) rfl rfl rfl rfl ok145 rfl rfl (by decide) rfl rfl rfl rfl rfl rfl ?_
  refine s_settled_ref 4 rfl (by decide) ?_
  refine x_iret rfl rfl ?_
  exact hP
set_option maxRecDepth 20000 in
theorem m_told_full {p q e : Int32} (hM : RK (VI 76) K) (hW : WF K) (he : hasF 4 e = 1) (hpq : ¬ p = q) (hp : hasF (nI (K 93)) p = 1) (hq : hasF (nI (K 93)) q = 1) (hn : VI 76 95 = nI 8) (hP : P (some (.int (-5))) (LY ++ ext) (up (up VI 74 0 (-5)) 75 5 (VI 75 5 + 1)) VL (vr G)) : Ex (d + 2) mi258 0 (entL [.ref 74, .int p, .int q, .int e] 5) [] (LY ++ ext) VI VL (vr G) 0 0 P := by
  refine x_iload_n rfl rfl ?_
  refine x_iload_n rfl rfl ?_
  refine x_icmp_eq rfl (fun c2 => ?_) (fun c2 => ?_)
  · exact absurd c2 hpq
  refine x_iload_n rfl rfl ?_
  refine x_callS (M' := mi166) (As := [_]) (bc1 := 0) (bs1 := 0) (bc2 := 0) (bs2 := 0) rfl rfl rfl rfl ok166 rfl rfl rfl rfl rfl rfl ?_
  refine m_isDayK ?_
  rw [he]
  refine x_if_ne rfl (fun c9 => ?_) (fun c9 => ?_)
  rotate_left
  · exact absurd c9 (by first | decide | omega)
  refine x_aload_n rfl rfl ?_
  refine x_iload_n rfl rfl ?_
  refine x_callV (M' := mi164) (As := [_]) (bc1 := 0) (bs1 := 0) (bc2 := 0) (bs2 := 0) rfl rfl rfl rfl ok164 rfl rfl (by decide) rfl rfl rfl rfl rfl rfl ?_
  refine m_isPersonK hM hW ?_
  rw [hp]
  refine x_if_eq rfl (fun c23 => ?_) (fun c23 => ?_)
  · exact absurd c23 (by first | decide | omega)
  refine x_aload_n rfl rfl ?_
  refine x_iload_n rfl rfl ?_
  refine x_callV (M' := mi164) (As := [_]) (bc1 := 0) (bs1 := 0) (bc2 := 0) (bs2 := 0) rfl rfl rfl rfl ok164 rfl rfl (by decide) rfl rfl rfl rfl rfl rfl ?_
  refine m_isPersonK hM hW ?_
  rw [hq]
  refine x_if_ne rfl (fun c31 => ?_) (fun c31 => ?_)
  rotate_left
  · exact absurd c31 (by first | decide | omega)
  refine x_aload_n rfl rfl ?_
  refine x_getR (u := .ref _) rfl rfl rfl rfl ?_
  refine x_bipush rfl ?_
  refine x_ialE (j := 95) rfl rfl (rfl) (by omega) (hn) ?_
  refine x_istore (ls' := [_, _, _, _, _]) rfl rfl rfl ?_
  refine x_iload rfl rfl ?_
  refine x_bipush rfl ?_
  refine x_icmp_ne rfl (fun c54 => ?_) (fun c54 => ?_)
  · exact absurd rfl c54
  refine x_aload_n rfl rfl ?_
  refine x_bipush rfl ?_
  refine x_callV (M' := mi154) (As := [_]) (bc1 := 0) (bs1 := 0) (bc2 := 0) (bs2 := 0) rfl rfl rfl rfl ok154 rfl rfl (by decide) rfl rfl rfl rfl rfl rfl ?_
  refine m_refuses 5 rfl (by decide) ?_
  refine x_iret rfl rfl ?_
  exact hP
set_option maxRecDepth 20000 in
theorem s_addTold {p q e t : Nat} (hn : VI 3 9 = nI t) (ht : t < 8) (hP : P (some (.int (nI (t + 1)))) (LY ++ ext) (up (up (up (up VI 9 t (nI p)) 10 t (nI q)) 11 t (nI e)) 3 9 (nI (t + 1))) VL (vr G)) : Ex d mi93 0 (entL [.ref 3, .int (nI p), .int (nI q), .int (nI e)] 4) [] (LY ++ ext) VI VL (vr G) 0 0 P := by
  refine x_aload_n rfl rfl ?_
  refine x_getE (y := 9) rfl rfl rfl (hn) ?_
  refine x_bipushN (q := 8) rfl ?_
  refine x_icmpN_lt rfl (fun c6 => ?_) (fun c6 => ?_)
  rotate_left
  · exact absurd c6 (by first | decide | omega)
  refine x_aload_n rfl rfl ?_
  refine x_getR (u := .ref _) rfl rfl rfl rfl ?_
  refine x_aload_n rfl rfl ?_
  refine x_getE (y := 9) rfl rfl rfl (hn) ?_
  refine x_iload_n rfl rfl ?_
  refine x_iasN (j := t) rfl rfl (rfl) (by omega) ?_
  refine x_aload_n rfl rfl ?_
  refine x_getR (u := .ref _) rfl rfl rfl rfl ?_
  refine x_aload_n rfl rfl ?_
  refine x_getE (y := 9) rfl rfl rfl (hn) ?_
  refine x_iload_n rfl rfl ?_
  refine x_iasN (j := t) rfl rfl (rfl) (by omega) ?_
  refine x_aload_n rfl rfl ?_
  refine x_getR (u := .ref _) rfl rfl rfl rfl ?_
  refine x_aload_n rfl rfl ?_
  refine x_getE (y := 9) rfl rfl rfl (hn) ?_
  refine x_iload_n rfl rfl ?_
  refine x_iasN (j := t) rfl rfl (rfl) (by omega) ?_
  refine x_aload_n rfl rfl ?_
  refine x_dup rfl rfl ?_
  refine x_getE (y := 9) rfl rfl rfl (hn) ?_
  refine x_iconstN (q := 1) rfl ?_
  refine x_iaddN rfl ?_
  refine x_putI rfl rfl rfl rfl ?_
  skip
  refine x_aload_n rfl rfl ?_
  refine x_getE (y := 9) rfl rfl rfl (up_at) ?_
  refine x_iret rfl rfl ?_
  exact hP
set_option maxRecDepth 20000 in
theorem x_told_ok {p q e t : Nat} (hX : RW 3 K VI) (hW : WF K) (he : e < 4) (hpq : p ≠ q) (hp : p < K 93) (hq : q < K 93) (hn : VI 3 9 = nI t) (ht : t < 8) (hP : P (some (.int (nI (t + 1)))) (LY ++ ext) (up (up (up (up (up VI 9 t (nI p)) 10 t (nI q)) 11 t (nI e)) 3 9 (nI (t + 1))) 0 17 0) VL (vr G)) : Ex (d + 1) mi133 0 (entL [.ref 0, .int (nI p), .int (nI q), .int (nI e)] 4) [] (LY ++ ext) VI VL (vr G) 0 0 P := by
  have h6 := hW.n
  refine x_iload_n rfl rfl ?_
  refine x_callS (M' := mi150) (As := [_]) (bc1 := 0) (bs1 := 0) (bc2 := 0) (bs2 := 0) rfl rfl rfl rfl ok150 rfl rfl rfl rfl rfl rfl ?_
  refine s_isDay_in he ?_
  refine x_if_eq rfl (fun c4 => ?_) (fun c4 => ?_)
  · exact absurd c4 (by first | decide | omega)
  refine x_iload_n rfl rfl ?_
  refine x_iload_n rfl rfl ?_
  refine x_icmpN_ne rfl (fun c9 => ?_) (fun c9 => ?_)
  rotate_left
  · exact absurd c9 (by first | decide | omega)
  refine x_aload_n rfl rfl ?_
  refine x_getR (u := .ref _) rfl rfl rfl rfl ?_
  refine x_iload_n rfl rfl ?_
  refine x_callV (M' := mi95) (As := [_]) (bc1 := 0) (bs1 := 0) (bc2 := 0) (bs2 := 0) rfl rfl rfl rfl ok95 rfl rfl (by decide) rfl rfl rfl rfl rfl rfl ?_
  refine s_hasPerson_in hX.n hp h6 ?_
  refine x_if_eq rfl (fun c26 => ?_) (fun c26 => ?_)
  · exact absurd c26 (by first | decide | omega)
  refine x_aload_n rfl rfl ?_
  refine x_getR (u := .ref _) rfl rfl rfl rfl ?_
  refine x_iload_n rfl rfl ?_
  refine x_callV (M' := mi95) (As := [_]) (bc1 := 0) (bs1 := 0) (bc2 := 0) (bs2 := 0) rfl rfl rfl rfl ok95 rfl rfl (by decide) rfl rfl rfl rfl rfl rfl ?_
  refine s_hasPerson_in hX.n hq h6 ?_
  refine x_if_ne rfl (fun c37 => ?_) (fun c37 => ?_)
  rotate_left
  · exact absurd c37 (by first | decide | omega)
  refine x_aload_n rfl rfl ?_
  refine x_aload_n rfl rfl ?_
  refine x_getR (u := .ref _) rfl rfl rfl rfl ?_
  refine x_getE (y := 9) rfl rfl rfl (hn) ?_
  refine x_bipushN (q := 8) rfl ?_
  refine x_icmpN_lt rfl (fun c57 => ?_) (fun c57 => ?_)
  rotate_left
  · exact absurd c57 (by first | decide | omega)
  refine x_aload_n rfl rfl ?_
  refine x_getR (u := .ref _) rfl rfl rfl rfl ?_
  refine x_iload_n rfl rfl ?_
  refine x_iload_n rfl rfl ?_
  refine x_iload_n rfl rfl ?_
  refine x_callV (M' := mi93) (As := [_, _, _]) (bc1 := 0) (bs1 := 0) (bc2 := 0) (bs2 := 0) rfl rfl rfl rfl ok93 rfl rfl (by decide) rfl rfl rfl rfl rfl rfl ?_
  refine s_addTold hn ht ?_
  refine x_callV (M' := mi145) (As := [_]) (bc1 := 0) (bs1 := 0) (bc2 := 0) (bs2 := 0) rfl rfl rfl rfl ok145 rfl rfl (by decide) rfl rfl rfl rfl rfl rfl ?_
  refine s_settled_ok (by omega) ?_
  refine x_iret rfl rfl ?_
  exact hP
set_option maxRecDepth 20000 in
theorem m_told_lt {p q e t : Nat} (hM : RK (VI 76) K) (hW : WF K) (he : e < 4) (hpq : p < q) (hp : p < K 93) (hq : q < K 93) (hn : VI 76 95 = nI t) (ht : t < 8) (hP : P (some (.int (nI (t + 1)))) (LY ++ ext) (up (up (up (up (up VI 76 (67 + 3 * t) (nI p)) 76 (67 + 3 * t + 1) (nI q)) 76 (67 + 3 * t + 2) (nI e)) 76 95 (nI (t + 1))) 74 0 0) VL (vr G)) : Ex (d + 2) mi258 0 (entL [.ref 74, .int (nI p), .int (nI q), .int (nI e)] 5) [] (LY ++ ext) VI VL (vr G) 0 0 P := by
  have h6 := hW.n
  refine x_iload_n rfl rfl ?_
  refine x_iload_n rfl rfl ?_
  refine x_icmpN_eq rfl (fun c2 => ?_) (fun c2 => ?_)
  · exact absurd c2 (by first | decide | omega)
  refine x_iload_n rfl rfl ?_
  refine x_callS (M' := mi166) (As := [_]) (bc1 := 0) (bs1 := 0) (bc2 := 0) (bs2 := 0) rfl rfl rfl rfl ok166 rfl rfl rfl rfl rfl rfl ?_
  refine m_isDayK ?_
  rw [show hasF 4 (nI e) = 1 from hasF_in (n := 4) he (by omega)]
  refine x_if_ne rfl (fun c9 => ?_) (fun c9 => ?_)
  rotate_left
  · exact absurd c9 (by first | decide | omega)
  refine x_aload_n rfl rfl ?_
  refine x_iload_n rfl rfl ?_
  refine x_callV (M' := mi164) (As := [_]) (bc1 := 0) (bs1 := 0) (bc2 := 0) (bs2 := 0) rfl rfl rfl rfl ok164 rfl rfl (by decide) rfl rfl rfl rfl rfl rfl ?_
  refine m_isPersonK hM hW ?_
  rw [hasF_in hp (by omega)]
  refine x_if_eq rfl (fun c23 => ?_) (fun c23 => ?_)
  · exact absurd c23 (by first | decide | omega)
  refine x_aload_n rfl rfl ?_
  refine x_iload_n rfl rfl ?_
  refine x_callV (M' := mi164) (As := [_]) (bc1 := 0) (bs1 := 0) (bc2 := 0) (bs2 := 0) rfl rfl rfl rfl ok164 rfl rfl (by decide) rfl rfl rfl rfl rfl rfl ?_
  refine m_isPersonK hM hW ?_
  rw [hasF_in hq (by omega)]
  refine x_if_ne rfl (fun c31 => ?_) (fun c31 => ?_)
  rotate_left
  · exact absurd c31 (by first | decide | omega)
  refine x_aload_n rfl rfl ?_
  refine x_getR (u := .ref _) rfl rfl rfl rfl ?_
  refine x_bipushN (q := 95) rfl ?_
  refine x_ialE (j := 95) rfl rfl (rfl) (by omega) (hn) ?_
  refine x_istore (ls' := [_, _, _, _, _]) rfl rfl rfl ?_
  refine x_iload rfl rfl ?_
  refine x_bipushN (q := 8) rfl ?_
  refine x_icmpN_ne rfl (fun c54 => ?_) (fun c54 => ?_)
  rotate_left
  · exact absurd c54 (by first | decide | omega)
  refine x_aload_n rfl rfl ?_
  refine x_getR (u := .ref _) rfl rfl rfl rfl ?_
  refine x_bipushN (q := 67) rfl ?_
  refine x_iconstN (q := 3) rfl ?_
  refine x_iload rfl rfl ?_
  refine x_imulN rfl ?_
  refine x_iaddN rfl ?_
  refine x_iload_n rfl rfl ?_
  refine x_iload_n rfl rfl ?_
  refine x_icmpN_ge rfl (fun c77 => ?_) (fun c77 => ?_)
  · exact absurd c77 (by first | decide | omega)
  refine x_iload_n rfl rfl ?_
  refine x_goto rfl ?_
  refine x_iasN (j := 67 + 3 * t) rfl rfl (rfl) (by omega) ?_
  refine x_aload_n rfl rfl ?_
  refine x_getR (u := .ref _) rfl rfl rfl rfl ?_
  refine x_bipushN (q := 67) rfl ?_
  refine x_iconstN (q := 3) rfl ?_
  refine x_iload rfl rfl ?_
  refine x_imulN rfl ?_
  refine x_iaddN rfl ?_
  refine x_iconstN (q := 1) rfl ?_
  refine x_iaddN rfl ?_
  refine x_iload_n rfl rfl ?_
  refine x_iload_n rfl rfl ?_
  refine x_icmpN_ge rfl (fun c101 => ?_) (fun c101 => ?_)
  · exact absurd c101 (by first | decide | omega)
  refine x_iload_n rfl rfl ?_
  refine x_goto rfl ?_
  refine x_iasN (j := 67 + 3 * t + 1) rfl rfl (rfl) (by omega) ?_
  refine x_aload_n rfl rfl ?_
  refine x_getR (u := .ref _) rfl rfl rfl rfl ?_
  refine x_bipushN (q := 67) rfl ?_
  refine x_iconstN (q := 3) rfl ?_
  refine x_iload rfl rfl ?_
  refine x_imulN rfl ?_
  refine x_iaddN rfl ?_
  refine x_iconstN (q := 2) rfl ?_
  refine x_iaddN rfl ?_
  refine x_iload_n rfl rfl ?_
  refine x_iasN (j := 67 + 3 * t + 2) rfl rfl (rfl) (by omega) ?_
  refine x_aload_n rfl rfl ?_
  refine x_getR (u := .ref _) rfl rfl rfl rfl ?_
  refine x_bipushN (q := 95) rfl ?_
  refine x_dup2 rfl rfl rfl ?_
  refine x_ialE (j := 95) rfl rfl (rfl) (by omega) ((show _ = nI t by rw [up_at' (by omega), up_at' (by omega), up_at' (by omega)]; exact hn)) ?_
  refine x_iconstN (q := 1) rfl ?_
  refine x_iaddN rfl ?_
  refine x_iasN (j := 95) rfl rfl (rfl) (by omega) ?_
  refine x_aload_n rfl rfl ?_
  refine x_iload rfl rfl ?_
  refine x_iconstN (q := 1) rfl ?_
  refine x_iaddN rfl ?_
  refine x_callV (M' := mi155) (As := [_]) (bc1 := 0) (bs1 := 0) (bc2 := 0) (bs2 := 0) rfl rfl rfl rfl ok155 rfl rfl (by decide) rfl rfl rfl rfl rfl rfl ?_
  refine m_good ?_
  refine x_iret rfl rfl ?_
  exact hP
set_option maxRecDepth 20000 in
theorem m_told_gt {p q e t : Nat} (hM : RK (VI 76) K) (hW : WF K) (he : e < 4) (hpq : q < p) (hp : p < K 93) (hq : q < K 93) (hn : VI 76 95 = nI t) (ht : t < 8) (hP : P (some (.int (nI (t + 1)))) (LY ++ ext) (up (up (up (up (up VI 76 (67 + 3 * t) (nI q)) 76 (67 + 3 * t + 1) (nI p)) 76 (67 + 3 * t + 2) (nI e)) 76 95 (nI (t + 1))) 74 0 0) VL (vr G)) : Ex (d + 2) mi258 0 (entL [.ref 74, .int (nI p), .int (nI q), .int (nI e)] 5) [] (LY ++ ext) VI VL (vr G) 0 0 P := by
  have h6 := hW.n
  refine x_iload_n rfl rfl ?_
  refine x_iload_n rfl rfl ?_
  refine x_icmpN_eq rfl (fun c2 => ?_) (fun c2 => ?_)
  · exact absurd c2 (by first | decide | omega)
  refine x_iload_n rfl rfl ?_
  refine x_callS (M' := mi166) (As := [_]) (bc1 := 0) (bs1 := 0) (bc2 := 0) (bs2 := 0) rfl rfl rfl rfl ok166 rfl rfl rfl rfl rfl rfl ?_
  refine m_isDayK ?_
  rw [show hasF 4 (nI e) = 1 from hasF_in (n := 4) he (by omega)]
  refine x_if_ne rfl (fun c9 => ?_) (fun c9 => ?_)
  rotate_left
  · exact absurd c9 (by first | decide | omega)
  refine x_aload_n rfl rfl ?_
  refine x_iload_n rfl rfl ?_
  refine x_callV (M' := mi164) (As := [_]) (bc1 := 0) (bs1 := 0) (bc2 := 0) (bs2 := 0) rfl rfl rfl rfl ok164 rfl rfl (by decide) rfl rfl rfl rfl rfl rfl ?_
  refine m_isPersonK hM hW ?_
  rw [hasF_in hp (by omega)]
  refine x_if_eq rfl (fun c23 => ?_) (fun c23 => ?_)
  · exact absurd c23 (by first | decide | omega)
  refine x_aload_n rfl rfl ?_
  refine x_iload_n rfl rfl ?_
  refine x_callV (M' := mi164) (As := [_]) (bc1 := 0) (bs1 := 0) (bc2 := 0) (bs2 := 0) rfl rfl rfl rfl ok164 rfl rfl (by decide) rfl rfl rfl rfl rfl rfl ?_
  refine m_isPersonK hM hW ?_
  rw [hasF_in hq (by omega)]
  refine x_if_ne rfl (fun c31 => ?_) (fun c31 => ?_)
  rotate_left
  · exact absurd c31 (by first | decide | omega)
  refine x_aload_n rfl rfl ?_
  refine x_getR (u := .ref _) rfl rfl rfl rfl ?_
  refine x_bipushN (q := 95) rfl ?_
  refine x_ialE (j := 95) rfl rfl (rfl) (by omega) (hn) ?_
  refine x_istore (ls' := [_, _, _, _, _]) rfl rfl rfl ?_
  refine x_iload rfl rfl ?_
  refine x_bipushN (q := 8) rfl ?_
  refine x_icmpN_ne rfl (fun c54 => ?_) (fun c54 => ?_)
  rotate_left
  · exact absurd c54 (by first | decide | omega)
  refine x_aload_n rfl rfl ?_
  refine x_getR (u := .ref _) rfl rfl rfl rfl ?_
  refine x_bipushN (q := 67) rfl ?_
  refine x_iconstN (q := 3) rfl ?_
  refine x_iload rfl rfl ?_
  refine x_imulN rfl ?_
  refine x_iaddN rfl ?_
  refine x_iload_n rfl rfl ?_
  refine x_iload_n rfl rfl ?_
  refine x_icmpN_ge rfl (fun c77 => ?_) (fun c77 => ?_)
  rotate_left
  · exact absurd c77 (by first | decide | omega)
  refine x_iload_n rfl rfl ?_
  refine x_iasN (j := 67 + 3 * t) rfl rfl (rfl) (by omega) ?_
  refine x_aload_n rfl rfl ?_
  refine x_getR (u := .ref _) rfl rfl rfl rfl ?_
  refine x_bipushN (q := 67) rfl ?_
  refine x_iconstN (q := 3) rfl ?_
  refine x_iload rfl rfl ?_
  refine x_imulN rfl ?_
  refine x_iaddN rfl ?_
  refine x_iconstN (q := 1) rfl ?_
  refine x_iaddN rfl ?_
  refine x_iload_n rfl rfl ?_
  refine x_iload_n rfl rfl ?_
  refine x_icmpN_ge rfl (fun c101 => ?_) (fun c101 => ?_)
  rotate_left
  · exact absurd c101 (by first | decide | omega)
  refine x_iload_n rfl rfl ?_
  refine x_iasN (j := 67 + 3 * t + 1) rfl rfl (rfl) (by omega) ?_
  refine x_aload_n rfl rfl ?_
  refine x_getR (u := .ref _) rfl rfl rfl rfl ?_
  refine x_bipushN (q := 67) rfl ?_
  refine x_iconstN (q := 3) rfl ?_
  refine x_iload rfl rfl ?_
  refine x_imulN rfl ?_
  refine x_iaddN rfl ?_
  refine x_iconstN (q := 2) rfl ?_
  refine x_iaddN rfl ?_
  refine x_iload_n rfl rfl ?_
  refine x_iasN (j := 67 + 3 * t + 2) rfl rfl (rfl) (by omega) ?_
  refine x_aload_n rfl rfl ?_
  refine x_getR (u := .ref _) rfl rfl rfl rfl ?_
  refine x_bipushN (q := 95) rfl ?_
  refine x_dup2 rfl rfl rfl ?_
  refine x_ialE (j := 95) rfl rfl (rfl) (by omega) ((show _ = nI t by rw [up_at' (by omega), up_at' (by omega), up_at' (by omega)]; exact hn)) ?_
  refine x_iconstN (q := 1) rfl ?_
  refine x_iaddN rfl ?_
  refine x_iasN (j := 95) rfl rfl (rfl) (by omega) ?_
  refine x_aload_n rfl rfl ?_
  refine x_iload rfl rfl ?_
  refine x_iconstN (q := 1) rfl ?_
  refine x_iaddN rfl ?_
  refine x_callV (M' := mi155) (As := [_]) (bc1 := 0) (bs1 := 0) (bc2 := 0) (bs2 := 0) rfl rfl rfl rfl ok155 rfl rfl (by decide) rfl rfl rfl rfl rfl rfl ?_
  refine m_good ?_
  refine x_iret rfl rfl ?_
  exact hP
set_option maxRecDepth 20000 in
theorem x_forget (hP : P (some (.int (VI 3 9))) (LY ++ ext) (up VI 3 9 0) VL (vr G)) : Ex d mi134 0 (entL [.ref 0] 2) [] (LY ++ ext) VI VL (vr G) 0 0 P := by
  refine x_aload_n rfl rfl ?_
  refine x_getR (u := .ref _) rfl rfl rfl rfl ?_
  refine x_getI rfl rfl rfl ?_
  refine x_istore_n (ls' := [_, _]) rfl rfl rfl ?_
  refine x_aload_n rfl rfl ?_
  refine x_getR (u := .ref _) rfl rfl rfl rfl ?_
  refine x_iconst rfl ?_
  refine x_putI rfl rfl rfl rfl ?_
  refine x_iload_n rfl rfl ?_
  refine x_iret rfl rfl ?_
  exact hP
set_option maxRecDepth 20000 in
theorem m_forget (hP : P (some (.int (VI 76 95))) (LY ++ ext) (up VI 76 95 0) VL (vr G)) : Ex d mi259 0 (entL [.ref 74] 2) [] (LY ++ ext) VI VL (vr G) 0 0 P := by
  refine x_aload_n rfl rfl ?_
  refine x_getR (u := .ref _) rfl rfl rfl rfl ?_
  refine x_bipush rfl ?_
  refine x_ialN (j := 95) rfl rfl (rfl) (by omega) ?_
  refine x_istore_n (ls' := [_, _]) rfl rfl rfl ?_
  refine x_aload_n rfl rfl ?_
  refine x_getR (u := .ref _) rfl rfl rfl rfl ?_
  refine x_bipush rfl ?_
  refine x_iconst rfl ?_
  refine x_iasN (j := 95) rfl rfl (rfl) (by omega) ?_
  refine x_iload_n rfl rfl ?_
  refine x_iret rfl rfl ?_
  exact hP
set_option maxRecDepth 20000 in
theorem x_force_bad {l : Int32} (h1 : ¬ l = -1) (h : hasF (VI 3 14) l = 0) (hP : P (some (.int (-2))) (LY ++ ext) (up (up VI 0 17 (-2)) 73 1 (VI 73 1 + 1)) VL (vr G)) : Ex (d + 1) mi122 0 (entL [.ref 0, .int l] 3) [] (LY ++ ext) VI VL (vr G) 0 0 P := by
  refine x_iload_n rfl rfl ?_
  refine x_iconst rfl ?_
  refine x_icmp_eq rfl (fun c2 => ?_) (fun c2 => ?_)
  · exact absurd c2 h1
  refine x_aload_n rfl rfl ?_
  refine x_getR (u := .ref _) rfl rfl rfl rfl ?_
  refine x_iload_n rfl rfl ?_
  refine x_callV (M' := mi97) (As := [_]) (bc1 := 0) (bs1 := 0) (bc2 := 0) (bs2 := 0) rfl rfl rfl rfl ok97 rfl rfl (by decide) rfl rfl rfl rfl rfl rfl ?_
  refine s_hasLaw ?_
  rw [h]
  refine x_if_ne rfl (fun c13 => ?_) (fun c13 => ?_)
  · exact absurd c13 (by first | decide | omega)
  refine x_aload_n rfl rfl ?_
  refine x_bipush rfl ?_
  refine x_callV (M' := mi145) (As := [_]) (bc1 := 0) (bs1 := 0) (bc2 := 0) (bs2 := 0) rfl rfl rfl rfl ok145 rfl rfl (by decide) rfl rfl rfl rfl rfl rfl ?_
  refine s_settled_ref 1 rfl (by decide) ?_
  refine x_iret rfl rfl ?_
  exact hP
set_option maxRecDepth 20000 in
theorem x_force_ok {l : Int32} (h : l = -1 ∨ hasF (VI 3 14) l = 1) (hP : P (some (.int (VI 3 15))) (LY ++ ext) (up (up VI 3 15 l) 0 17 0) VL (vr G)) : Ex (d + 1) mi122 0 (entL [.ref 0, .int l] 3) [] (LY ++ ext) VI VL (vr G) 0 0 P := by
  refine x_iload_n rfl rfl ?_
  refine x_iconst rfl ?_
  refine x_icmp_eq rfl (fun c2 => ?_) (fun c2 => ?_)
  · refine x_aload_n rfl rfl ?_
    refine x_getR (u := .ref _) rfl rfl rfl rfl ?_
    refine x_getI rfl rfl rfl ?_
    refine x_istore_n (ls' := [_, _, _]) rfl rfl rfl ?_
    refine x_aload_n rfl rfl ?_
    refine x_getR (u := .ref _) rfl rfl rfl rfl ?_
    refine x_iload_n rfl rfl ?_
    refine x_putI rfl rfl rfl rfl ?_
    refine x_aload_n rfl rfl ?_
    refine x_iconst rfl ?_
    refine x_putI rfl rfl rfl rfl ?_
    refine x_iload_n rfl rfl ?_
    refine x_iret rfl rfl ?_
    exact hP
  · refine x_aload_n rfl rfl ?_
    refine x_getR (u := .ref _) rfl rfl rfl rfl ?_
    refine x_iload_n rfl rfl ?_
    refine x_callV (M' := mi97) (As := [_]) (bc1 := 0) (bs1 := 0) (bc2 := 0) (bs2 := 0) rfl rfl rfl rfl ok97 rfl rfl (by decide) rfl rfl rfl rfl rfl rfl ?_
    refine s_hasLaw ?_
    refine x_if_ne rfl (fun c13 => ?_) (fun c13 => ?_)
    · refine x_aload_n rfl rfl ?_
      refine x_getR (u := .ref _) rfl rfl rfl rfl ?_
      refine x_getI rfl rfl rfl ?_
      refine x_istore_n (ls' := [_, _, _]) rfl rfl rfl ?_
      refine x_aload_n rfl rfl ?_
      refine x_getR (u := .ref _) rfl rfl rfl rfl ?_
      refine x_iload_n rfl rfl ?_
      refine x_putI rfl rfl rfl rfl ?_
      refine x_aload_n rfl rfl ?_
      refine x_iconst rfl ?_
      refine x_putI rfl rfl rfl rfl ?_
      refine x_iload_n rfl rfl ?_
      refine x_iret rfl rfl ?_
      exact hP
    · exact absurd h (by rintro (h | h) <;> first | exact c2 h | exact absurd (c13.symm.trans h) (by decide))
set_option maxRecDepth 20000 in
theorem m_force_bad {l : Int32} (h : liesF l (-1) (VI 76 96 - 1) = false) (hP : P (some (.int (-2))) (LY ++ ext) (up (up VI 74 0 (-2)) 75 2 (VI 75 2 + 1)) VL (vr G)) : Ex (d + 1) mi215 0 (entL [.ref 74, .int l] 3) [] (LY ++ ext) VI VL (vr G) 0 0 P := by
  refine x_iload_n rfl rfl ?_
  refine x_iconst rfl ?_
  refine x_aload_n rfl rfl ?_
  refine x_getR (u := .ref _) rfl rfl rfl rfl ?_
  refine x_bipush rfl ?_
  refine x_ialN (j := 96) rfl rfl (rfl) (by omega) ?_
  refine x_iconst rfl ?_
  refine x_isub rfl ?_
  refine x_callS (M' := mi152) (As := [_, _, _]) (bc1 := 0) (bs1 := 0) (bc2 := 0) (bs2 := 0) rfl rfl rfl rfl ok152 rfl rfl rfl rfl rfl rfl ?_
  refine m_lies ?_
  rw [h]
  refine x_if_ne rfl (fun c14 => ?_) (fun c14 => ?_)
  · exact absurd c14 (by first | decide | omega)
  refine x_aload_n rfl rfl ?_
  refine x_bipush rfl ?_
  refine x_callV (M' := mi154) (As := [_]) (bc1 := 0) (bs1 := 0) (bc2 := 0) (bs2 := 0) rfl rfl rfl rfl ok154 rfl rfl (by decide) rfl rfl rfl rfl rfl rfl ?_
  refine m_refuses 2 rfl (by decide) ?_
  refine x_iret rfl rfl ?_
  exact hP
set_option maxRecDepth 20000 in
theorem m_force_ok {l : Int32} (h : liesF l (-1) (VI 76 96 - 1) = true) (hP : P (some (.int (VI 76 97))) (LY ++ ext) (up (up VI 76 97 l) 74 0 0) VL (vr G)) : Ex (d + 1) mi215 0 (entL [.ref 74, .int l] 3) [] (LY ++ ext) VI VL (vr G) 0 0 P := by
  refine x_iload_n rfl rfl ?_
  refine x_iconst rfl ?_
  refine x_aload_n rfl rfl ?_
  refine x_getR (u := .ref _) rfl rfl rfl rfl ?_
  refine x_bipush rfl ?_
  refine x_ialN (j := 96) rfl rfl (rfl) (by omega) ?_
  refine x_iconst rfl ?_
  refine x_isub rfl ?_
  refine x_callS (M' := mi152) (As := [_, _, _]) (bc1 := 0) (bs1 := 0) (bc2 := 0) (bs2 := 0) rfl rfl rfl rfl ok152 rfl rfl rfl rfl rfl rfl ?_
  refine m_lies ?_
  rw [h]
  refine x_if_ne rfl (fun c14 => ?_) (fun c14 => ?_)
  rotate_left
  · exact absurd c14 (by first | decide | omega)
  refine x_aload_n rfl rfl ?_
  refine x_getR (u := .ref _) rfl rfl rfl rfl ?_
  refine x_bipush rfl ?_
  refine x_ialN (j := 97) rfl rfl (rfl) (by omega) ?_
  refine x_istore_n (ls' := [_, _, _]) rfl rfl rfl ?_
  refine x_aload_n rfl rfl ?_
  refine x_getR (u := .ref _) rfl rfl rfl rfl ?_
  refine x_bipush rfl ?_
  refine x_iload_n rfl rfl ?_
  refine x_iasN (j := 97) rfl rfl (rfl) (by omega) ?_
  refine x_aload_n rfl rfl ?_
  refine x_iload_n rfl rfl ?_
  refine x_callV (M' := mi155) (As := [_]) (bc1 := 0) (bs1 := 0) (bc2 := 0) (bs2 := 0) rfl rfl rfl rfl ok155 rfl rfl (by decide) rfl rfl rfl rfl rfl rfl ?_
  refine m_good ?_
  refine x_iret rfl rfl ?_
  exact hP
set_option maxRecDepth 20000 in
theorem x_end_bad {n : Int32} (h : n < 0 ∨ ¬ n ≤ VI 0 13) (hP : P (some (.int (-1))) (LY ++ ext) VI VL (vr G)) : Ex d mi115 0 (entL [.ref 0, .int n] 2) [] (LY ++ ext) VI VL (vr G) 0 0 P := by
  refine x_iload_n rfl rfl ?_
  refine x_if_lt rfl (fun c1 => ?_) (fun c1 => ?_)
  · refine x_iconst rfl ?_
    refine x_iret rfl rfl ?_
    exact hP
  · refine x_iload_n rfl rfl ?_
    refine x_aload_n rfl rfl ?_
    refine x_getI rfl rfl rfl ?_
    refine x_icmp_le rfl (fun c9 => ?_) (fun c9 => ?_)
    · exact absurd h (by rintro (h | h) <;> first | exact c1 h | exact h c9)
    · refine x_iconst rfl ?_
      refine x_iret rfl rfl ?_
      exact hP
set_option maxRecDepth 20000 in
theorem x_end_ok {n : Int32} (h : ¬ n < 0) (h2 : n ≤ VI 0 13) (hP : P (some (.int n)) (LY ++ ext) (up VI 0 13 n) VL (vr G)) : Ex d mi115 0 (entL [.ref 0, .int n] 2) [] (LY ++ ext) VI VL (vr G) 0 0 P := by
  refine x_iload_n rfl rfl ?_
  refine x_if_lt rfl (fun c1 => ?_) (fun c1 => ?_)
  · exact absurd c1 h
  refine x_iload_n rfl rfl ?_
  refine x_aload_n rfl rfl ?_
  refine x_getI rfl rfl rfl ?_
  refine x_icmp_le rfl (fun c9 => ?_) (fun c9 => ?_)
  rotate_left
  · exact absurd h2 c9
  refine x_aload_n rfl rfl ?_
  refine x_iload_n rfl rfl ?_
  refine x_putI rfl rfl rfl rfl ?_
  refine x_iload_n rfl rfl ?_
  refine x_iret rfl rfl ?_
  exact hP
set_option maxRecDepth 20000 in
theorem m_end_bad {n : Int32} (h : n < 0 ∨ ¬ n ≤ VI 74 13) (hP : P (some (.int (-1))) (LY ++ ext) VI VL (vr G)) : Ex (d + 1) mi189 0 (entL [.ref 74, .int n] 2) [] (LY ++ ext) VI VL (vr G) 0 0 P := by
  have hl : liesF n 0 (VI 74 13) = false := by
    simp only [liesF, decide_eq_false_iff_not]
    exact fun hh => h.elim hh.1 (fun z => z (Int32.not_lt.mp hh.2))
  refine x_iload_n rfl rfl ?_
  refine x_iconst rfl ?_
  refine x_aload_n rfl rfl ?_
  refine x_getI rfl rfl rfl ?_
  refine x_callS (M' := mi152) (As := [_, _, _]) (bc1 := 0) (bs1 := 0) (bc2 := 0) (bs2 := 0) rfl rfl rfl rfl ok152 rfl rfl rfl rfl rfl rfl ?_
  refine m_lies ?_
  rw [hl]
  refine x_if_ne rfl (fun c9 => ?_) (fun c9 => ?_)
  · exact absurd c9 (by first | decide | omega)
  refine x_iconst rfl ?_
  refine x_iret rfl rfl ?_
  exact hP
set_option maxRecDepth 20000 in
theorem m_end_ok {n : Int32} (h : ¬ n < 0) (h2 : n ≤ VI 74 13) (hP : P (some (.int n)) (LY ++ ext) (up VI 74 13 n) VL (vr G)) : Ex (d + 1) mi189 0 (entL [.ref 74, .int n] 2) [] (LY ++ ext) VI VL (vr G) 0 0 P := by
  have hl : liesF n 0 (VI 74 13) = true := by
    simp only [liesF, decide_eq_true_eq]
    exact ⟨h, Int32.not_lt.mpr h2⟩
  refine x_iload_n rfl rfl ?_
  refine x_iconst rfl ?_
  refine x_aload_n rfl rfl ?_
  refine x_getI rfl rfl rfl ?_
  refine x_callS (M' := mi152) (As := [_, _, _]) (bc1 := 0) (bs1 := 0) (bc2 := 0) (bs2 := 0) rfl rfl rfl rfl ok152 rfl rfl rfl rfl rfl rfl ?_
  refine m_lies ?_
  rw [hl]
  refine x_if_ne rfl (fun c9 => ?_) (fun c9 => ?_)
  rotate_left
  · exact absurd c9 (by first | decide | omega)
  refine x_aload_n rfl rfl ?_
  refine x_iload_n rfl rfl ?_
  refine x_putI rfl rfl rfl rfl ?_
  refine x_iload_n rfl rfl ?_
  refine x_iret rfl rfl ?_
  exact hP
def toldK (K : KT) (lo hi e : Nat) : KT := ku (ku (ku (ku K (67 + 3 * K 95) lo) (67 + 3 * K 95 + 1) hi) (67 + 3 * K 95 + 2) e) 95 (K 95 + 1)
set_option maxRecDepth 20000 in
theorem toldK_ne {lo hi e i : Nat} (h1 : i < 67 + 3 * K 95 ∨ 67 + 3 * K 95 + 2 < i) (h4 : i ≠ 95) : toldK K lo hi e i = K i := by
  unfold toldK
  rw [ku_ne h4, ku_ne (by omega), ku_ne (by omega), ku_ne (by omega)]
set_option maxRecDepth 20000 in
theorem toldK_95 {lo hi e : Nat} : toldK K lo hi e 95 = K 95 + 1 := ku_same
set_option maxRecDepth 20000 in
theorem toldK_0 {lo hi e : Nat} (h : K 95 < 8) : toldK K lo hi e (67 + 3 * K 95) = lo := by
  unfold toldK
  rw [ku_ne (by omega), ku_ne (by omega), ku_ne (by omega), ku_same]
set_option maxRecDepth 20000 in
theorem toldK_1 {lo hi e : Nat} (h : K 95 < 8) : toldK K lo hi e (68 + 3 * K 95) = hi := by
  unfold toldK
  rw [ku_ne (by omega), ku_ne (by omega), show 68 + 3 * K 95 = 67 + 3 * K 95 + 1 by omega, ku_same]
set_option maxRecDepth 20000 in
theorem toldK_2 {lo hi e : Nat} (h : K 95 < 8) : toldK K lo hi e (69 + 3 * K 95) = e := by
  unfold toldK
  rw [ku_ne (by omega), show 69 + 3 * K 95 = 67 + 3 * K 95 + 2 by omega, ku_same]
set_option maxRecDepth 20000 in
theorem toldK_WF {lo hi e : Nat} (h : WF K) (h8 : K 95 < 8) (he : e < 4) (hlo : lo < hi) (hhi : hi < K 93) : WF (toldK K lo hi e) := by
  obtain ⟨w1, w2, w3, w4, w5, w6, w7, w8, w9, w10, w11, w12⟩ := h
  have e0 : ∀ i, (91 ≤ i ∨ i < 67) → i ≠ 95 → toldK K lo hi e i = K i := fun i hi hn => toldK_ne (by omega) hn
  unfold WF
  rw [toldK_95, e0 93 (by omega) (by omega), e0 94 (by omega) (by omega), e0 96 (by omega) (by omega), e0 97 (by omega) (by omega), e0 38 (by omega) (by omega), e0 91 (by omega) (by omega), e0 92 (by omega) (by omega)]
  refine ⟨w1, w2, by omega, w4, w5, w6, w7, w8, fun p hp => ?_, fun p q hp hq => ?_, fun r hr => ?_, fun k hk => ?_⟩
  · rw [e0 _ (by omega) (by omega), e0 _ (by omega) (by omega), e0 _ (by omega) (by omega)]; exact w9 p hp
  · rw [e0 _ (by omega) (by omega)]; exact w10 p q hp hq
  · rw [e0 _ (by omega) (by omega), e0 _ (by omega) (by omega), e0 _ (by omega) (by omega)]; exact w11 r hr
  · by_cases c : k = K 95
    · subst c
      rw [toldK_0 h8, toldK_1 h8, toldK_2 h8]; exact ⟨hlo, hhi, he⟩
    · rw [toldK_ne (by omega) (by omega), toldK_ne (by omega) (by omega), toldK_ne (by omega) (by omega)]; exact w12 k (by omega)
set_option maxRecDepth 20000 in
theorem toldK_RW {p q lo hi e : Nat} (h : RW 3 K VI) (hW : WF K) (h8 : K 95 < 8) (hpq : (p = lo ∧ q = hi) ∨ (p = hi ∧ q = lo)) : RW 3 (toldK K lo hi e) (up (up (up (up VI 9 (K 95) (nI p)) 10 (K 95) (nI q)) 11 (K 95) (nI e)) 3 9 (nI (K 95 + 1))) := by
  obtain ⟨w1, w2, w3, w4, w5, w6, w7, w8, w9, w10, w11, w12⟩ := h
  have h6 := hW.n
  have h94 : K 94 ≤ 8 := hW.2.1
  have e0 : ∀ i, (91 ≤ i ∨ i < 67) → i ≠ 95 → toldK K lo hi e i = K i := fun i hi hn => toldK_ne (by omega) hn
  have hlm : lmK (toldK K lo hi e) = lmK K := by
    show mskN (fun r => toldK K lo hi e (24 + r)) (toldK K lo hi e 93) = _
    rw [e0 93 (by omega) (by omega), mskN_congr (g := fun r => K (24 + r)) (fun r hr => e0 _ (by omega) (by omega))]
  have hdm : dmK (toldK K lo hi e) = dmK K := by
    show mskN (fun r => toldK K lo hi e (30 + r)) (toldK K lo hi e 94) = _
    rw [e0 94 (by omega) (by omega), mskN_congr (g := fun r => K (30 + r)) (fun r hr => e0 _ (by omega) (by omega))]
  refine ⟨by rw [e0 93 (by omega) (by omega)]; exact w1, by rw [hlm]; exact w2, by rw [e0 94 (by omega) (by omega)]; exact w3, by rw [hdm]; exact w4, by rw [toldK_95]; rfl, by rw [e0 96 (by omega) (by omega)]; exact w6, by rw [e0 97 (by omega) (by omega)]; exact w7, ?_, ?_, ?_, ?_, ?_⟩
  · intro p hp
    rw [e0 93 (by omega) (by omega)] at hp
    rw [e0 _ (by omega) (by omega), e0 _ (by omega) (by omega)]
    exact w8 p hp
  · intro p q hp hq
    rw [e0 93 (by omega) (by omega)] at hp
    rw [e0 _ (by omega) (by omega)]
    exact w9 p q hp hq
  · intro r hr
    rw [e0 94 (by omega) (by omega)] at hr
    rw [e0 _ (by omega) (by omega), e0 _ (by omega) (by omega)]
    exact w10 r hr
  · intro k hk
    rw [toldK_95] at hk
    show (((if k = K 95 then nI p else VI 9 k) = _ ∧ (if k = K 95 then nI q else VI 10 k) = _) ∨ ((if k = K 95 then nI p else VI 9 k) = _ ∧ (if k = K 95 then nI q else VI 10 k) = _)) ∧ (if k = K 95 then nI e else VI 11 k) = _
    by_cases c : k = K 95
    · subst c
      rw [if_pos rfl, if_pos rfl, if_pos rfl, toldK_0 h8, toldK_1 h8, toldK_2 h8]
      rcases hpq with ⟨rfl, rfl⟩ | ⟨rfl, rfl⟩
      · exact ⟨Or.inl ⟨rfl, rfl⟩, rfl⟩
      · exact ⟨Or.inr ⟨rfl, rfl⟩, rfl⟩
    · rw [if_neg c, if_neg c, if_neg c, toldK_ne (by omega) (by omega), toldK_ne (by omega) (by omega), toldK_ne (by omega) (by omega)]
      exact w11 k (by omega)
  · rw [e0 38 (by omega) (by omega), e0 91 (by omega) (by omega), e0 92 (by omega) (by omega)]
    exact w12
set_option maxRecDepth 20000 in
theorem toldK_RK {lo hi e : Nat} (hM : RK (VI 76) K) (h8 : K 95 < 8) : RK ((up (up (up (up VI 76 (67 + 3 * K 95) (nI lo)) 76 (67 + 3 * K 95 + 1) (nI hi)) 76 (67 + 3 * K 95 + 2) (nI e)) 76 95 (nI (K 95 + 1))) 76) (toldK K lo hi e) := by
  unfold toldK
  exact RK.ku (RK.ku (RK.ku (RK.ku hM (by omega) rfl) (by omega) rfl) (by omega) rfl) (by omega) rfl
end Write3
section Join3
variable {j : Nat} {lay : HL} {VI : VIT} {VL : VLT} {VR : VRT}
set_option maxRecDepth 20000 in
theorem j_terms {a b : Int32} (h : Inv j lay VI VL VR) : Pr 100 mi113 mi185 [.int a, .int b] lay VI VL VR (Inv (j + 1)) := by
  obtain ⟨ext, G, K, tn, T, u, US, lg, rfl, rfl, hS⟩ := h
  have hW := hS.1
  have hX := hS.2.1
  have hM := hS.2.2.1
  have hU := hS.2.2.2.2.2.1
  have h6 := hW.n
  have h8 : K 94 ≤ 8 := hW.2.1
  have h95 : K 95 ≤ 8 := hW.2.2.1
  have h96 := hW.l6
  by_cases hb : a < 0 ∨ 3 ≤ a ∨ b < 0 ∨ ¬ b ≤ mostF a
  · exact Pr_ref hS 0 (by omega) (-1) (fun P z => x_terms_bad hb z) (fun P z => m_terms_bad hb z)
  · simp only [not_or, Decidable.not_not] at hb
    obtain ⟨b0, b1', b2, b3⟩ := hb
    have h38 : K 38 ≤ 999 := hW.2.2.2.2.2.1
    have h91 : K 91 ≤ 10 := hW.2.2.2.2.2.2.1
    have h92 : K 92 ≤ 9 := hW.2.2.2.2.2.2.2.1
    rcases in3 b0 b1' with rfl | rfl | rfl
    · obtain ⟨v, hv, rfl⟩ := nI_of2 (M := 999) (n := 999) rfl b2 b3
      refine ExS.budget (bc := 0) (bs := 0) (x_terms0 (x := K 38) hv hX.t0 (by omega) ⟨_, ext, rfl, rfl, m_terms0 hv ⟨(show some (Value.int (VI 76 38)) = some (Value.int (nI (K 38))) by rw [hM.at 38]), St.inv (hS.write (K' := ku K 38 v) (u' := 0) (US' := fun _ => ku K 38 v) (lg' := fun _ => 0) (by repeat (first | exact Fr.refl | refine Fr.up ?_ rfl)) (hW.keep (fun i _ _ _ _ => ku_ne (by omega)) (by rw [ku_same]; exact hv) (by rw [ku_ne (by omega)]; exact h91) (by rw [ku_ne (by omega)]; exact h92)) ?_ ?_ (Und.none rfl rfl) rfl (ku_ne (by omega)) (fun i hi => ku_ne (by omega)))⟩⟩) (by omega) (by omega)
      · refine hX.keep h6 h8 h95 (fun i _ _ _ _ => ku_ne (by omega)) (fun a _ _ => ?_) (by rw [ku_same]; rfl) (by rw [ku_ne (by omega)]; exact hX.t1) (by rw [ku_ne (by omega)]; exact hX.t2)
        rw [up_ne (by omega), up_ne (by omega), up_ne (by omega), up_ne (by omega), up_ne (by omega), up_ne (by omega)]
      · exact RK.ku hM (by omega) rfl
    · obtain ⟨v, hv, rfl⟩ := nI_of2 (M := 10) (n := 10) rfl b2 b3
      refine ExS.budget (bc := 0) (bs := 0) (x_terms1 (x := K 91) hv hX.t1 (by omega) ⟨_, ext, rfl, rfl, m_terms1 hv ⟨(show some (Value.int (VI 76 91)) = some (Value.int (nI (K 91))) by rw [hM.at 91]), St.inv (hS.write (K' := ku K 91 v) (u' := 0) (US' := fun _ => ku K 91 v) (lg' := fun _ => 0) (by repeat (first | exact Fr.refl | refine Fr.up ?_ rfl)) (hW.keep (fun i _ _ _ _ => ku_ne (by omega)) (by rw [ku_ne (by omega)]; exact h38) (by rw [ku_same]; exact hv) (by rw [ku_ne (by omega)]; exact h92)) ?_ ?_ (Und.none rfl rfl) rfl (ku_ne (by omega)) (fun i hi => ku_ne (by omega)))⟩⟩) (by omega) (by omega)
      · refine hX.keep h6 h8 h95 (fun i _ _ _ _ => ku_ne (by omega)) (fun a _ _ => ?_) (by rw [ku_ne (by omega)]; exact hX.t0) (by rw [ku_same]; rfl) (by rw [ku_ne (by omega)]; exact hX.t2)
        rw [up_ne (by omega), up_ne (by omega), up_ne (by omega), up_ne (by omega), up_ne (by omega), up_ne (by omega)]
      · exact RK.ku hM (by omega) rfl
    · obtain ⟨v, hv, rfl⟩ := nI_of2 (M := 9) (n := 9) rfl b2 b3
      refine ExS.budget (bc := 0) (bs := 0) (x_terms2 (x := K 92) hv hX.t2 (by omega) ⟨_, ext, rfl, rfl, m_terms2 hv ⟨(show some (Value.int (VI 76 92)) = some (Value.int (nI (K 92))) by rw [hM.at 92]), St.inv (hS.write (K' := ku K 92 v) (u' := 0) (US' := fun _ => ku K 92 v) (lg' := fun _ => 0) (by repeat (first | exact Fr.refl | refine Fr.up ?_ rfl)) (hW.keep (fun i _ _ _ _ => ku_ne (by omega)) (by rw [ku_ne (by omega)]; exact h38) (by rw [ku_ne (by omega)]; exact h91) (by rw [ku_same]; exact hv)) ?_ ?_ (Und.none rfl rfl) rfl (ku_ne (by omega)) (fun i hi => ku_ne (by omega)))⟩⟩) (by omega) (by omega)
      · refine hX.keep h6 h8 h95 (fun i _ _ _ _ => ku_ne (by omega)) (fun a _ _ => ?_) (by rw [ku_ne (by omega)]; exact hX.t0) (by rw [ku_ne (by omega)]; exact hX.t1) (by rw [ku_same]; rfl)
        rw [up_ne (by omega), up_ne (by omega), up_ne (by omega), up_ne (by omega), up_ne (by omega), up_ne (by omega)]
      · exact RK.ku hM (by omega) rfl
set_option maxRecDepth 20000 in
theorem j_told {p q e : Int32} (h : Inv j lay VI VL VR) : Pr 100 mi133 mi258 [.int p, .int q, .int e] lay VI VL VR (Inv (j + 1)) := by
  obtain ⟨ext, G, K, tn, T, u, US, lg, rfl, rfl, hS⟩ := h
  have hW := hS.1
  have hX := hS.2.1
  have hM := hS.2.2.1
  have hU := hS.2.2.2.2.2.1
  have h6 := hW.n
  have h8 : K 94 ≤ 8 := hW.2.1
  have h95 : K 95 ≤ 8 := hW.2.2.1
  have h96 := hW.l6
  by_cases hb : hasF 4 e = 0 ∨ p = q
  · exact Pr_ref hS 0 (by omega) (-1) (fun P z => x_told_bad1 hb z) (fun P z => m_told_bad1 hb z)
  · simp only [not_or] at hb
    obtain ⟨hb1, hpq⟩ := hb
    have he1 := (hasF_01 4 e).resolve_left hb1
    by_cases hb2 : hasF (nI (K 93)) p = 0 ∨ hasF (nI (K 93)) q = 0
    · exact Pr_ref hS 1 (by omega) (-2) (fun P z => x_told_bad2 hX he1 hpq hb2 z) (fun P z => m_told_bad2 hM hW he1 hpq hb2 z)
    · simp only [not_or] at hb2
      have hp1 := (hasF_01 _ _).resolve_left hb2.1
      have hq1 := (hasF_01 _ _).resolve_left hb2.2
      by_cases hn : K 95 = 8
      · exact Pr_ref hS 4 (by omega) (-5) (fun P z => x_told_full hX he1 hpq hp1 hq1 (hn ▸ hX.tn) z) (fun P z => m_told_full hM hW he1 hpq hp1 hq1 (hn ▸ hM.at 95) z)
      · have hn8 : K 95 < 8 := by omega
        obtain ⟨e', he, rfl⟩ := (has_cases (n := 4) (by omega) e).resolve_left hb1
        obtain ⟨p', hp, rfl⟩ := (has_cases (n := K 93) (by omega) p).resolve_left hb2.1
        obtain ⟨q', hq, rfl⟩ := (has_cases (n := K 93) (by omega) q).resolve_left hb2.2
        have hne : p' ≠ q' := fun z => hpq (by rw [z])
        rcases Nat.lt_or_gt_of_ne hne with hlt | hlt
        · refine ExS.budget (bc := 0) (bs := 0) (x_told_ok hX hW he hne hp hq hX.tn hn8 ⟨_, ext, rfl, rfl, m_told_lt (t := K 95) hM hW he hlt hp hq (hM.at 95) hn8 ⟨rfl, St.inv (hS.write (K' := toldK K p' q' e') (u' := u) (US' := US) (lg' := lg) (by repeat (first | exact Fr.refl | refine Fr.up ?_ rfl)) (toldK_WF hW hn8 he hlt hq) ?_ ?_ ((hU.K (fun i hi => toldK_ne (by omega) (by omega)) (toldK_ne (by omega) (by omega)) (toldK_ne (by omega) (by omega))).same rfl rfl rfl rfl) rfl (toldK_ne (by omega) (by omega)) (fun i hi => toldK_ne (by omega) (by omega)))⟩⟩) (by omega) (by omega)
          · refine (toldK_RW (p := p') (q := q') (lo := p') (hi := q') (e := e') hX hW hn8 (Or.inl ⟨rfl, rfl⟩)).same (fun a _ _ => ?_)
            rw [up_ne (by omega), up_ne (by omega), up_ne (by omega), up_ne (by omega), up_ne (by omega), up_ne (by omega)]
          · exact toldK_RK hM hn8
        · refine ExS.budget (bc := 0) (bs := 0) (x_told_ok hX hW he hne hp hq hX.tn hn8 ⟨_, ext, rfl, rfl, m_told_gt (t := K 95) hM hW he hlt hp hq (hM.at 95) hn8 ⟨rfl, St.inv (hS.write (K' := toldK K q' p' e') (u' := u) (US' := US) (lg' := lg) (by repeat (first | exact Fr.refl | refine Fr.up ?_ rfl)) (toldK_WF hW hn8 he hlt hp) ?_ ?_ ((hU.K (fun i hi => toldK_ne (by omega) (by omega)) (toldK_ne (by omega) (by omega)) (toldK_ne (by omega) (by omega))).same rfl rfl rfl rfl) rfl (toldK_ne (by omega) (by omega)) (fun i hi => toldK_ne (by omega) (by omega)))⟩⟩) (by omega) (by omega)
          · refine (toldK_RW (p := p') (q := q') (lo := q') (hi := p') (e := e') hX hW hn8 (Or.inr ⟨rfl, rfl⟩)).same (fun a _ _ => ?_)
            rw [up_ne (by omega), up_ne (by omega), up_ne (by omega), up_ne (by omega), up_ne (by omega), up_ne (by omega)]
          · exact toldK_RK hM hn8
end Join3
