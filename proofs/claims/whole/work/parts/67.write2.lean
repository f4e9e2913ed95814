/-! ===== person, roll, terms, told, forget, force, end: both sides, joined ===== -/
set_option maxRecDepth 20000 in
theorem Pr_ref {D : Nat} {xm mm : MI} {As : List Value} {j : Nat} {ext : HL} {G : VRT} {K : KT} {tn : Nat} {T : Nat → Nat} {u : Nat} {US : Nat → KT} {lg : Nat → Nat} {VI : VIT} {VL : VLT} (hS : St j ext G K tn T u US lg VI) (k : Nat) (hk : k < 6) (v : Int32) (hx : ∀ P : Post, P (some (.int v)) (LY ++ ext) (up (up VI 0 17 v) 73 k (VI 73 k + 1)) VL (vr G) → Ex D xm 0 (entL (.ref 0 :: As) (mL xm)) [] (LY ++ ext) VI VL (vr G) 0 0 P) (hm : ∀ P : Post, P (some (.int v)) (LY ++ ext) (up (up (up (up VI 0 17 v) 73 k (VI 73 k + 1)) 74 0 v) 75 (k + 1) (VI 75 (k + 1) + 1)) VL (vr G) → Ex D mm 0 (entL (.ref 74 :: As) (mL mm)) [] (LY ++ ext) (up (up VI 0 17 v) 73 k (VI 73 k + 1)) VL (vr G) 0 0 P) : Pr D xm mm As (LY ++ ext) VI VL (vr G) (Inv (j + 1)) :=
  ExS.budget (bc := 0) (bs := 0) (hx _ ⟨v, ext, rfl, rfl, hm _ ⟨rfl, (hS.refuse hk).inv⟩⟩) (by omega) (by omega)
section Write2
variable {d : Nat} {VI : VIT} {VL : VLT} {G : VRT} {P : Post} {ext : HL} {n : Nat} {K : KT}
set_option maxRecDepth 20000 in
theorem x_person_bad {f a m : Int32} (h : canF f a m = false) (hP : P (some (.int (-1))) (LY ++ ext) (up (up VI 0 17 (-1)) 73 0 (VI 73 0 + 1)) VL (vr G)) : Ex (d + 1) mi109 0 (entL [.ref 0, .int f, .int a, .int m] 4) [] (LY ++ ext) VI VL (vr G) 0 0 P := by
  refine x_iload_n rfl rfl ?_
  refine x_iload_n rfl rfl ?_
  refine x_iload_n rfl rfl ?_
  refine x_callS (M' := mi90) (As := [_, _, _]) (bc1 := 0) (bs1 := 0) (bc2 := 0) (bs2 := 0) rfl rfl rfl rfl ok90 rfl rfl rfl rfl rfl rfl ?_
  refine s_canBePerson ?_
  rw [h]
  refine x_if_ne rfl (fun c6 => ?_) (fun c6 => ?_)
  · exact absurd c6 (by first | decide | omega)
  refine x_aload_n rfl rfl ?_
  refine x_iconst rfl ?_
  refine x_callV (M' := mi145) (As := [_]) (bc1 := 0) (bs1 := 0) (bc2 := 0) (bs2 := 0) rfl rfl rfl rfl ok145 rfl rfl (by decide) rfl rfl rfl rfl rfl rfl ?_
  refine s_settled_ref 0 rfl (by decide) ?_
  refine x_iret rfl rfl ?_
  exact hP
set_option maxRecDepth 20000 in
theorem m_person_bad {f a m : Int32} (h : canF f a m = false) (hP : P (some (.int (-1))) (LY ++ ext) (up (up VI 74 0 (-1)) 75 1 (VI 75 1 + 1)) VL (vr G)) : Ex (d + 2) mi173 0 (entL [.ref 74, .int f, .int a, .int m] 4) [] (LY ++ ext) VI VL (vr G) 0 0 P := by
  refine x_iload_n rfl rfl ?_
  refine x_iload_n rfl rfl ?_
  refine x_iload_n rfl rfl ?_
  refine x_callS (M' := mi171) (As := [_, _, _]) (bc1 := 0) (bs1 := 0) (bc2 := 0) (bs2 := 0) rfl rfl rfl rfl ok171 rfl rfl rfl rfl rfl rfl ?_
  refine m_canBe ?_
  rw [h]
  refine x_if_ne rfl (fun c6 => ?_) (fun c6 => ?_)
  · exact absurd c6 (by first | decide | omega)
  refine x_aload_n rfl rfl ?_
  refine x_iconst rfl ?_
  refine x_callV (M' := mi154) (As := [_]) (bc1 := 0) (bs1 := 0) (bc2 := 0) (bs2 := 0) rfl rfl rfl rfl ok154 rfl rfl (by decide) rfl rfl rfl rfl rfl rfl ?_
  refine m_refuses 1 rfl (by decide) ?_
  refine x_iret rfl rfl ?_
  exact hP
set_option maxRecDepth 20000 in
theorem x_person_full {f a m : Int32} (h : canF f a m = true) (hn : VI 3 0 = nI 6) (hP : P (some (.int (-5))) (LY ++ ext) (up (up VI 0 17 (-5)) 73 4 (VI 73 4 + 1)) VL (vr G)) : Ex (d + 1) mi109 0 (entL [.ref 0, .int f, .int a, .int m] 4) [] (LY ++ ext) VI VL (vr G) 0 0 P := by
  refine x_iload_n rfl rfl ?_
  refine x_iload_n rfl rfl ?_
  refine x_iload_n rfl rfl ?_
  refine x_callS (M' := mi90) (As := [_, _, _]) (bc1 := 0) (bs1 := 0) (bc2 := 0) (bs2 := 0) rfl rfl rfl rfl ok90 rfl rfl rfl rfl rfl rfl ?_
  refine s_canBePerson ?_
  rw [h]
  refine x_if_ne rfl (fun c6 => ?_) (fun c6 => ?_)
  rotate_left
  · exact absurd c6 (by first | decide | omega)
  refine x_aload_n rfl rfl ?_
  refine x_getR (u := .ref _) rfl rfl rfl rfl ?_
  refine x_getE (y := 0) rfl rfl rfl (hn) ?_
  refine x_bipush rfl ?_
  refine x_icmp_lt rfl (fun c24 => ?_) (fun c24 => ?_)
  · exact absurd c24 (by first | decide | omega)
  refine x_aload_n rfl rfl ?_
  refine x_bipush rfl ?_
  refine x_callV (M' := mi145) (As := [_]) (bc1 := 0) (bs1 := 0) (bc2 := 0) (bs2 := 0) rfl rfl rfl rfl ok145 rfl rfl (by decide) rfl rfl rfl rfl rfl rfl ?_
  refine s_settled_ref 4 rfl (by decide) ?_
  refine x_iret rfl rfl ?_
  exact hP
set_option maxRecDepth 20000 in
theorem m_person_full {f a m : Int32} (h : canF f a m = true) (hn : VI 76 93 = nI 6) (hP : P (some (.int (-5))) (LY ++ ext) (up (up VI 74 0 (-5)) 75 5 (VI 75 5 + 1)) VL (vr G)) : Ex (d + 2) mi173 0 (entL [.ref 74, .int f, .int a, .int m] 4) [] (LY ++ ext) VI VL (vr G) 0 0 P := by
  refine x_iload_n rfl rfl ?_
  refine x_iload_n rfl rfl ?_
  refine x_iload_n rfl rfl ?_
  refine x_callS (M' := mi171) (As := [_, _, _]) (bc1 := 0) (bs1 := 0) (bc2 := 0) (bs2 := 0) rfl rfl rfl rfl ok171 rfl rfl rfl rfl rfl rfl ?_
  refine m_canBe ?_
  rw [h]
  refine x_if_ne rfl (fun c6 => ?_) (fun c6 => ?_)
  rotate_left
  · exact absurd c6 (by first | decide | omega)
  refine x_aload_n rfl rfl ?_
  refine x_getR (u := .ref _) rfl rfl rfl rfl ?_
  refine x_bipush rfl ?_
  refine x_ialE (j := 93) rfl rfl (rfl) (by omega) (hn) ?_
  refine x_bipush rfl ?_
  refine x_icmp_ne rfl (fun c24 => ?_) (fun c24 => ?_)
  · exact absurd rfl c24
  refine x_aload_n rfl rfl ?_
  refine x_bipush rfl ?_
  refine x_callV (M' := mi154) (As := [_]) (bc1 := 0) (bs1 := 0) (bc2 := 0) (bs2 := 0) rfl rfl rfl rfl ok154 rfl rfl (by decide) rfl rfl rfl rfl rfl rfl ?_
  refine m_refuses 5 rfl (by decide) ?_
  refine x_iret rfl rfl ?_
  exact hP
set_option maxRecDepth 20000 in
theorem canF_nat {f a m : Nat} (hf : f ≤ 9) (ha : a ≤ 99) (hm : m ≤ 255) : canF (nI f) (nI a) (nI m) = true := by
  simp only [canF, decide_eq_true_eq]
  refine ⟨nI_pos (by omega), ?_, nI_pos (by omega), ?_, nI_pos (by omega), ?_⟩
  · exact fun h => absurd ((nI_ltI (a := 9) (by omega) (by omega)).mp h) (by omega)
  · exact fun h => absurd ((nI_ltI (a := 99) (by omega) (by omega)).mp h) (by omega)
  · exact fun h => absurd ((nI_ltI (a := 255) (by omega) (by omega)).mp h) (by omega)
set_option maxRecDepth 20000 in
theorem canF_of {f a m : Int32} (h : canF f a m = true) : ∃ f' a' m' : Nat, f' ≤ 9 ∧ a' ≤ 99 ∧ m' ≤ 255 ∧ f = nI f' ∧ a = nI a' ∧ m = nI m' := by
  simp only [canF, decide_eq_true_eq] at h
  obtain ⟨h1, h2, h3, h4, h5, h6⟩ := h
  obtain ⟨f', q1, q2⟩ := nI_of2 (M := 9) (n := 9) rfl h1 (Int32.not_lt.mp h2)
  obtain ⟨a', q3, q4⟩ := nI_of2 (M := 99) (n := 99) rfl h3 (Int32.not_lt.mp h4)
  obtain ⟨m', q5, q6⟩ := nI_of2 (M := 255) (n := 255) rfl h5 (Int32.not_lt.mp h6)
  exact ⟨f', a', m', q1, q3, q5, q2, q4, q6⟩
set_option maxRecDepth 20000 in
theorem x_person_ok {f a m l : Nat} (hf : f ≤ 9) (ha : a ≤ 99) (hm : m ≤ 255) (hn : VI 3 0 = nI n) (hn6 : n < 6) (hl : VI 3 1 = nI l) (hP : P (some (.int (nI n))) (LY ++ ext) (up (up (up (up (up (up (up (up (up (up VI 45 2 0) 4 n (nI f)) 5 n (nI a)) 6 (n * 4 + 0) (nI (m / 2 ^ 6 % 4))) 6 (n * 4 + 1) (nI (m / 2 ^ 4 % 4))) 6 (n * 4 + 2) (nI (m / 2 ^ 2 % 4))) 6 (n * 4 + 3) (nI (m / 2 ^ 0 % 4))) 3 1 (nI (l ||| 1 * 2 ^ n))) 3 0 (nI (n + 1))) 0 17 0) VL (vr G)) : Ex (d + 1) mi109 0 (entL [.ref 0, .int (nI f), .int (nI a), .int (nI m)] 4) [] (LY ++ ext) VI VL (vr G) 0 0 P := by
  refine x_iload_n rfl rfl ?_
  refine x_iload_n rfl rfl ?_
  refine x_iload_n rfl rfl ?_
  refine x_callS (M' := mi90) (As := [_, _, _]) (bc1 := 0) (bs1 := 0) (bc2 := 0) (bs2 := 0) rfl rfl rfl rfl ok90 rfl rfl rfl rfl rfl rfl ?_
  refine s_canBePerson ?_
  rw [canF_nat hf ha hm]
  refine x_if_ne rfl (fun c6 => ?_) (fun c6 => ?_)
  rotate_left
  · exact absurd c6 (by first | decide | omega)
  refine x_aload_n rfl rfl ?_
  refine x_getR (u := .ref _) rfl rfl rfl rfl ?_
  refine x_getE (y := 0) rfl rfl rfl (hn) ?_
  refine x_bipushN (q := 6) rfl ?_
  refine x_icmpN_lt rfl (fun c24 => ?_) (fun c24 => ?_)
  rotate_left
  · exact absurd c24 (by first | decide | omega)
  refine x_aload_n rfl rfl ?_
  refine x_getR (u := .ref _) rfl rfl rfl rfl ?_
  refine x_callV (M' := mi6) (As := []) (bc1 := 0) (bs1 := 0) (bc2 := 0) (bs2 := 0) rfl rfl rfl rfl ok6 rfl rfl (by decide) rfl rfl rfl rfl rfl rfl ?_
  refine s_forgetAll ?_
  refine x_aload_n rfl rfl ?_
  refine x_aload_n rfl rfl ?_
  refine x_getR (u := .ref _) rfl rfl rfl rfl ?_
  refine x_iload_n rfl rfl ?_
  refine x_iload_n rfl rfl ?_
  refine x_iload_n rfl rfl ?_
  refine x_callV (M' := mi91) (As := [_, _, _]) (bc1 := 0) (bs1 := 0) (bc2 := 0) (bs2 := 0) rfl rfl rfl rfl ok91 rfl rfl (by decide) rfl rfl rfl rfl rfl rfl ?_
  refine s_addPerson hn hn6 hl (by omega) ?_
  refine x_callV (M' := mi145) (As := [_]) (bc1 := 0) (bs1 := 0) (bc2 := 0) (bs2 := 0) rfl rfl rfl rfl ok145 rfl rfl (by decide) rfl rfl rfl rfl rfl rfl ?_
  refine s_settled_ok (by omega) ?_
  refine x_iret rfl rfl ?_
  exact hP
set_option maxRecDepth 20000 in
theorem m_person_ok {f a m : Nat} (hf : f ≤ 9) (ha : a ≤ 99) (hm : m ≤ 255) (hn : VI 76 93 = nI n) (hn6 : n < 6) (hP : P (some (.int (nI n))) (LY ++ ext) (up (up (up (up (up (up (up (up (up (up VI 76 (39 + n) (nI f)) 76 (45 + n) (nI a)) 76 (24 + n) (nI 1)) 76 (4 * n + 3) (nI (m % 4))) 76 (4 * n + 2) (nI (m / 4 % 4))) 76 (4 * n + 1) (nI (m / 4 / 4 % 4))) 76 (4 * n + 0) (nI (m / 4 / 4 / 4 % 4))) 76 93 (nI (n + 1))) 74 32 0) 74 0 0) VL (vr G)) : Ex (d + 2) mi173 0 (entL [.ref 74, .int (nI f), .int (nI a), .int (nI m)] 4) [] (LY ++ ext) VI VL (vr G) 0 0 P := by
  refine x_iload_n rfl rfl ?_
  refine x_iload_n rfl rfl ?_
  refine x_iload_n rfl rfl ?_
  refine x_callS (M' := mi171) (As := [_, _, _]) (bc1 := 0) (bs1 := 0) (bc2 := 0) (bs2 := 0) rfl rfl rfl rfl ok171 rfl rfl rfl rfl rfl rfl ?_
  refine m_canBe ?_
  rw [canF_nat hf ha hm]
  refine x_if_ne rfl (fun c6 => ?_) (fun c6 => ?_)
  rotate_left
  · exact absurd c6 (by first | decide | omega)
  refine x_aload_n rfl rfl ?_
  refine x_getR (u := .ref _) rfl rfl rfl rfl ?_
  refine x_bipushN (q := 93) rfl ?_
  refine x_ialE (j := 93) rfl rfl (rfl) (by omega) (hn) ?_
  refine x_bipushN (q := 6) rfl ?_
  refine x_icmpN_ne rfl (fun c24 => ?_) (fun c24 => ?_)
  rotate_left
  · exact absurd c24 (by first | decide | omega)
  refine x_aload_n rfl rfl ?_
  refine x_iload_n rfl rfl ?_
  refine x_iload_n rfl rfl ?_
  refine x_iload_n rfl rfl ?_
  refine x_callV (M' := mi172) (As := [_, _, _]) (bc1 := 0) (bs1 := 0) (bc2 := 0) (bs2 := 0) rfl rfl rfl rfl ok172 rfl rfl (by decide) rfl rfl rfl rfl rfl rfl ?_
  refine m_adds hn hn6 (by omega) ?_
  refine x_aload_n rfl rfl ?_
  refine x_aload_n rfl rfl ?_
  refine x_getR (u := .ref _) rfl rfl rfl rfl ?_
  refine x_bipushN (q := 93) rfl ?_
  refine x_ialE (j := 93) rfl rfl (rfl) (by omega) (up_at) ?_
  refine x_iconstN (q := 1) rfl ?_
  refine x_isubN rfl ?_
  rw [Nat.add_sub_cancel]
  refine x_callV (M' := mi156) (As := [_]) (bc1 := 0) (bs1 := 0) (bc2 := 0) (bs2 := 0) rfl rfl rfl rfl ok156 rfl rfl (by decide) rfl rfl rfl rfl rfl rfl ?_
  refine m_settled ?_
  refine x_iret rfl rfl ?_
  exact hP
set_option maxRecDepth 20000 in
theorem addK_RK {f a m : Nat} (hM : RK (VI 76) K) (h6 : K 93 < 6) : RK ((up (up (up (up (up (up (up (up VI 76 (39 + K 93) (nI f)) 76 (45 + K 93) (nI a)) 76 (24 + K 93) (nI 1)) 76 (4 * K 93 + 3) (nI (m % 4))) 76 (4 * K 93 + 2) (nI (m / 4 % 4))) 76 (4 * K 93 + 1) (nI (m / 4 / 4 % 4))) 76 (4 * K 93 + 0) (nI (m / 4 / 4 / 4 % 4))) 76 93 (nI (K 93 + 1))) 76) (addK K f a m) := by
  unfold addK
  exact RK.ku (RK.ku (RK.ku (RK.ku (RK.ku (RK.ku (RK.ku (RK.ku hM (by omega) rfl) (by omega) rfl) (by omega) rfl) (by omega) rfl) (by omega) rfl) (by omega) rfl) (by omega) rfl) (by omega) rfl
set_option maxRecDepth 20000 in
theorem s_addRoll {e w rn : Nat} (hn : VI 3 5 = nI rn) (hr : rn < 8) (hP : P (some (.int (nI rn))) (LY ++ ext) (up (up (up VI 7 rn (nI e)) 8 rn (nI w)) 3 5 (nI (rn + 1))) VL (vr G)) : Ex d mi92 0 (entL [.ref 3, .int (nI e), .int (nI w)] 3) [] (LY ++ ext) VI VL (vr G) 0 0 P := by
  refine x_aload_n rfl rfl ?_
  refine x_getE (y := 5) rfl rfl rfl (hn) ?_
  refine x_bipushN (q := 8) rfl ?_
  refine x_icmpN_lt rfl (fun c6 => ?_) (fun c6 => ?_)
  rotate_left
  · exact absurd c6 (by first | decide | omega)
  refine x_aload_n rfl rfl ?_
  refine x_getR (u := .ref _) rfl rfl rfl rfl ?_
  refine x_aload_n rfl rfl ?_
  refine x_getE (y := 5) rfl rfl rfl (hn) ?_
  refine x_iload_n rfl rfl ?_
  refine x_iasN (j := rn) rfl rfl (rfl) (by omega) ?_
  refine x_aload_n rfl rfl ?_
  refine x_getR (u := .ref _) rfl rfl rfl rfl ?_
  refine x_aload_n rfl rfl ?_
  refine x_getE (y := 5) rfl rfl rfl (hn) ?_
  refine x_iload_n rfl rfl ?_
  refine x_iasN (j := rn) rfl rfl (rfl) (by omega) ?_
  refine x_aload_n rfl rfl ?_
  refine x_dup rfl rfl ?_
  refine x_getE (y := 5) rfl rfl rfl (hn) ?_
  refine x_iconstN (q := 1) rfl ?_
  refine x_iaddN rfl ?_
  refine x_putI rfl rfl rfl rfl ?_
  skip
  refine x_aload_n rfl rfl ?_
  refine x_getE (y := 5) rfl rfl rfl (up_at) ?_
  refine x_iconstN (q := 1) rfl ?_
  refine x_isubN rfl ?_
  rw [Nat.add_sub_cancel]
  refine x_iret rfl rfl ?_
  exact hP
set_option maxRecDepth 20000 in
theorem x_roll_bad {q w : Int32} (hn : VI 3 0 = nI n) (hn6 : n ≤ 6) (h : hasF 4 q = 0 ∨ w ≤ 0 ∨ nI (2 ^ n) ≤ w) (hP : P (some (.int (-1))) (LY ++ ext) (up (up VI 0 17 (-1)) 73 0 (VI 73 0 + 1)) VL (vr G)) : Ex (d + 1) mi111 0 (entL [.ref 0, .int q, .int w] 3) [] (LY ++ ext) VI VL (vr G) 0 0 P := by
  have hp2 := pow6 hn6
  refine x_iload_n rfl rfl ?_
  refine x_callS (M' := mi150) (As := [_]) (bc1 := 0) (bs1 := 0) (bc2 := 0) (bs2 := 0) rfl rfl rfl rfl ok150 rfl rfl rfl rfl rfl rfl ?_
  refine s_isDay ?_
  refine x_if_eq rfl (fun c4 => ?_) (fun c4 => ?_)
  · refine x_aload_n rfl rfl ?_
    refine x_iconst rfl ?_
    refine x_callV (M' := mi145) (As := [_]) (bc1 := 0) (bs1 := 0) (bc2 := 0) (bs2 := 0) rfl rfl rfl rfl ok145 rfl rfl (by decide) rfl rfl rfl rfl rfl rfl ?_
    refine s_settled_ref 0 rfl (by decide) ?_
    refine x_iret rfl rfl ?_
    exact hP
  · refine x_iload_n rfl rfl ?_
    refine x_if_le rfl (fun c8 => ?_) (fun c8 => ?_)
    · refine x_aload_n rfl rfl ?_
      refine x_iconst rfl ?_
      refine x_callV (M' := mi145) (As := [_]) (bc1 := 0) (bs1 := 0) (bc2 := 0) (bs2 := 0) rfl rfl rfl rfl ok145 rfl rfl (by decide) rfl rfl rfl rfl rfl rfl ?_
      refine s_settled_ref 0 rfl (by decide) ?_
      refine x_iret rfl rfl ?_
      exact hP
    · refine x_iload_n rfl rfl ?_
      refine x_iconstN (q := 1) rfl ?_
      refine x_aload_n rfl rfl ?_
      refine x_getR (u := .ref _) rfl rfl rfl rfl ?_
      refine x_getE (y := 0) rfl rfl rfl (hn) ?_
      refine x_ishlN rfl ?_
      refine x_icmp_lt rfl (fun c21 => ?_) (fun c21 => ?_)
      · (rw [Nat.one_mul] at c21; exact absurd h (by rintro (h | h | h) <;> first | exact c4 h | exact c8 h | exact Int32.not_le.mpr c21 h))
      · refine x_aload_n rfl rfl ?_
        refine x_iconst rfl ?_
        refine x_callV (M' := mi145) (As := [_]) (bc1 := 0) (bs1 := 0) (bc2 := 0) (bs2 := 0) rfl rfl rfl rfl ok145 rfl rfl (by decide) rfl rfl rfl rfl rfl rfl ?_
        refine s_settled_ref 0 rfl (by decide) ?_
        refine x_iret rfl rfl ?_
        exact hP
set_option maxRecDepth 20000 in
theorem x_roll_full {q w : Nat} (hn : VI 3 0 = nI n) (hn6 : n ≤ 6) (hq : q < 4) (hw0 : 0 < w) (hw : w < 2 ^ n) (hr : VI 3 5 = nI 8) (hP : P (some (.int (-5))) (LY ++ ext) (up (up VI 0 17 (-5)) 73 4 (VI 73 4 + 1)) VL (vr G)) : Ex (d + 1) mi111 0 (entL [.ref 0, .int (nI q), .int (nI w)] 3) [] (LY ++ ext) VI VL (vr G) 0 0 P := by
  have hp2 := pow6 hn6
  refine x_iload_n rfl rfl ?_
  refine x_callS (M' := mi150) (As := [_]) (bc1 := 0) (bs1 := 0) (bc2 := 0) (bs2 := 0) rfl rfl rfl rfl ok150 rfl rfl rfl rfl rfl rfl ?_
  refine s_isDay_in hq ?_
  refine x_if_eq rfl (fun c4 => ?_) (fun c4 => ?_)
  · exact absurd c4 (by first | decide | omega)
  refine x_iload_n rfl rfl ?_
  refine x_ifN_le rfl (fun c8 => ?_) (fun c8 => ?_)
  · exact absurd c8 (by first | decide | omega)
  refine x_iload_n rfl rfl ?_
  refine x_iconstN (q := 1) rfl ?_
  refine x_aload_n rfl rfl ?_
  refine x_getR (u := .ref _) rfl rfl rfl rfl ?_
  refine x_getE (y := 0) rfl rfl rfl (hn) ?_
  refine x_ishlN rfl ?_
  refine x_icmpN_lt rfl (fun c21 => ?_) (fun c21 => ?_)
  rotate_left
  · exact absurd c21 (by first | decide | omega)
  refine x_aload_n rfl rfl ?_
  refine x_getR (u := .ref _) rfl rfl rfl rfl ?_
  refine x_getE (y := 5) rfl rfl rfl (hr) ?_
  refine x_bipushN (q := 8) rfl ?_
  refine x_icmpN_lt rfl (fun c39 => ?_) (fun c39 => ?_)
  · exact absurd c39 (by first | decide | omega)
  refine x_aload_n rfl rfl ?_
  refine x_bipush rfl ?_
  refine x_callV (M' := mi145) (As := [_]) (bc1 := 0) (bs1 := 0) (bc2 := 0) (bs2 := 0) rfl rfl rfl rfl ok145 rfl rfl (by decide) rfl rfl rfl rfl rfl rfl ?_
  refine s_settled_ref 4 rfl (by decide) ?_
  refine x_iret rfl rfl ?_
  exact hP
set_option maxRecDepth 20000 in
theorem x_roll_ok {q w rn : Nat} (hn : VI 3 0 = nI n) (hn6 : n ≤ 6) (hq : q < 4) (hw0 : 0 < w) (hw : w < 2 ^ n) (hr : VI 3 5 = nI rn) (hr8 : rn < 8) (hP : P (some (.int (nI rn))) (LY ++ ext) (up (up (up (up (up VI 45 2 0) 7 rn (nI q)) 8 rn (nI w)) 3 5 (nI (rn + 1))) 0 17 0) VL (vr G)) : Ex (d + 1) mi111 0 (entL [.ref 0, .int (nI q), .int (nI w)] 3) [] (LY ++ ext) VI VL (vr G) 0 0 P := by
  have hp2 := pow6 hn6
  refine x_iload_n rfl rfl ?_
  refine x_callS (M' := mi150) (As := [_]) (bc1 := 0) (bs1 := 0) (bc2 := 0) (bs2 := 0) rfl rfl rfl rfl ok150 rfl rfl rfl rfl rfl rfl ?_
  refine s_isDay_in hq ?_
  refine x_if_eq rfl (fun c4 => ?_) (fun c4 => ?_)
  · exact absurd c4 (by first | decide | omega)
  refine x_iload_n rfl rfl ?_
  refine x_ifN_le rfl (fun c8 => ?_) (fun c8 => ?_)
  · exact absurd c8 (by first | decide | omega)
  refine x_iload_n rfl rfl ?_
  refine x_iconstN (q := 1) rfl ?_
  refine x_aload_n rfl rfl ?_
  refine x_getR (u := .ref _) rfl rfl rfl rfl ?_
  refine x_getE (y := 0) rfl rfl rfl (hn) ?_
  refine x_ishlN rfl ?_
  refine x_icmpN_lt rfl (fun c21 => ?_) (fun c21 => ?_)
  rotate_left
  · exact absurd c21 (by first | decide | omega)
  refine x_aload_n rfl rfl ?_
  refine x_getR (u := .ref _) rfl rfl rfl rfl ?_
  refine x_getE (y := 5) rfl rfl rfl (hr) ?_
  refine x_bipushN (q := 8) rfl ?_
  refine x_icmpN_lt rfl (fun c39 => ?_) (fun c39 => ?_)
  rotate_left
  · exact absurd c39 (by first | decide | omega)
  refine x_aload_n rfl rfl ?_
  refine x_getR (u := .ref _) rfl rfl rfl rfl ?_
  refine x_callV (M' := mi6) (As := []) (bc1 := 0) (bs1 := 0) (bc2 := 0) (bs2 := 0) rfl rfl rfl rfl ok6 rfl rfl (by decide) rfl rfl rfl rfl rfl rfl ?_
  refine s_forgetAll ?_
  refine x_aload_n rfl rfl ?_
  refine x_aload_n rfl rfl ?_
  refine x_getR (u := .ref _) rfl rfl rfl rfl ?_
  refine x_iload_n rfl rfl ?_
  refine x_iload_n rfl rfl ?_
  refine x_callV (M' := mi92) (As := [_, _]) (bc1 := 0) (bs1 := 0) (bc2 := 0) (bs2 := 0) rfl rfl rfl rfl ok92 rfl rfl (by decide) rfl rfl rfl rfl rfl rfl ?_
  refine s_addRoll hr hr8 ?_
  refine x_callV (M' := mi145) (As := [_]) (bc1 := 0) (bs1 := 0) (bc2 := 0) (bs2 := 0) rfl rfl rfl rfl ok145 rfl rfl (by decide) rfl rfl rfl rfl rfl rfl ?_
  refine s_settled_ok (by omega) ?_
  refine x_iret rfl rfl ?_
  exact hP
set_option maxRecDepth 20000 in
theorem m_roll_bad {q w : Int32} (h : hasF 4 q = 0 ∨ liesF w 1 ((1 : Int32) <<< (VI 76 93 &&& 31) - 1) = false) (hP : P (some (.int (-1))) (LY ++ ext) (up (up VI 74 0 (-1)) 75 1 (VI 75 1 + 1)) VL (vr G)) : Ex (d + 2) mi175 0 (entL [.ref 74, .int q, .int w] 4) [] (LY ++ ext) VI VL (vr G) 0 0 P := by
  refine x_iload_n rfl rfl ?_
  refine x_callS (M' := mi166) (As := [_]) (bc1 := 0) (bs1 := 0) (bc2 := 0) (bs2 := 0) rfl rfl rfl rfl ok166 rfl rfl rfl rfl rfl rfl ?_
  refine m_isDayK ?_
  refine x_if_eq rfl (fun c4 => ?_) (fun c4 => ?_)
  · refine x_aload_n rfl rfl ?_
    refine x_iconst rfl ?_
    refine x_callV (M' := mi154) (As := [_]) (bc1 := 0) (bs1 := 0) (bc2 := 0) (bs2 := 0) rfl rfl rfl rfl ok154 rfl rfl (by decide) rfl rfl rfl rfl rfl rfl ?_
    refine m_refuses 1 rfl (by decide) ?_
    refine x_iret rfl rfl ?_
    exact hP
  · refine x_iload_n rfl rfl ?_
    refine x_iconst rfl ?_
    refine x_aload_n rfl rfl ?_
    refine x_callV (M' := mi169) (As := []) (bc1 := 0) (bs1 := 0) (bc2 := 0) (bs2 := 0) rfl rfl rfl rfl ok169 rfl rfl (by decide) rfl rfl rfl rfl rfl rfl ?_
    refine m_allPeople ?_
    refine x_callS (M' := mi152) (As := [_, _, _]) (bc1 := 0) (bs1 := 0) (bc2 := 0) (bs2 := 0) rfl rfl rfl rfl ok152 rfl rfl rfl rfl rfl rfl ?_
    refine m_lies ?_
    refine x_if_ne rfl (fun c16 => ?_) (fun c16 => ?_)
    · exact absurd h (by simp [c4, b1_ne c16])
    · refine x_aload_n rfl rfl ?_
      refine x_iconst rfl ?_
      refine x_callV (M' := mi154) (As := [_]) (bc1 := 0) (bs1 := 0) (bc2 := 0) (bs2 := 0) rfl rfl rfl rfl ok154 rfl rfl (by decide) rfl rfl rfl rfl rfl rfl ?_
      refine m_refuses 1 rfl (by decide) ?_
      refine x_iret rfl rfl ?_
      exact hP
set_option maxRecDepth 20000 in
theorem m_roll_full {q w : Nat} (hq : q < 4) (hl : liesF (nI w) 1 ((1 : Int32) <<< (VI 76 93 &&& 31) - 1) = true) (hr : VI 76 94 = nI 8) (hP : P (some (.int (-5))) (LY ++ ext) (up (up VI 74 0 (-5)) 75 5 (VI 75 5 + 1)) VL (vr G)) : Ex (d + 2) mi175 0 (entL [.ref 74, .int (nI q), .int (nI w)] 4) [] (LY ++ ext) VI VL (vr G) 0 0 P := by
  have e2 : hasF 4 (nI q) = 1 := hasF_in (n := 4) hq (by omega)
  refine x_iload_n rfl rfl ?_
  refine x_callS (M' := mi166) (As := [_]) (bc1 := 0) (bs1 := 0) (bc2 := 0) (bs2 := 0) rfl rfl rfl rfl ok166 rfl rfl rfl rfl rfl rfl ?_
  refine m_isDayK ?_
  rw [e2]
  refine x_if_eq rfl (fun c4 => ?_) (fun c4 => ?_)
  · exact absurd c4 (by first | decide | omega)
  refine x_iload_n rfl rfl ?_
  refine x_iconst rfl ?_
  refine x_aload_n rfl rfl ?_
  refine x_callV (M' := mi169) (As := []) (bc1 := 0) (bs1 := 0) (bc2 := 0) (bs2 := 0) rfl rfl rfl rfl ok169 rfl rfl (by decide) rfl rfl rfl rfl rfl rfl ?_
  refine m_allPeople ?_
  refine x_callS (M' := mi152) (As := [_, _, _]) (bc1 := 0) (bs1 := 0) (bc2 := 0) (bs2 := 0) rfl rfl rfl rfl ok152 rfl rfl rfl rfl rfl rfl ?_
  refine m_lies ?_
  rw [hl]
  refine x_if_ne rfl (fun c16 => ?_) (fun c16 => ?_)
  rotate_left
  · exact absurd c16 (by first | decide | omega)
  refine x_aload_n rfl rfl ?_
  refine x_getR (u := .ref _) rfl rfl rfl rfl ?_
  refine x_bipush rfl ?_
  refine x_ialE (j := 94) rfl rfl (rfl) (by omega) (hr) ?_
  refine x_istore_n (ls' := [_, _, _, _]) rfl rfl rfl ?_
  refine x_iload_n rfl rfl ?_
  refine x_bipush rfl ?_
  refine x_icmp_ne rfl (fun c36 => ?_) (fun c36 => ?_)
  · exact absurd rfl c36
  refine x_aload_n rfl rfl ?_
  refine x_bipush rfl ?_
  refine x_callV (M' := mi154) (As := [_]) (bc1 := 0) (bs1 := 0) (bc2 := 0) (bs2 := 0) rfl rfl rfl rfl ok154 rfl rfl (by decide) rfl rfl rfl rfl rfl rfl ?_
  refine m_refuses 5 rfl (by decide) ?_
  refine x_iret rfl rfl ?_
  exact hP
set_option maxRecDepth 20000 in
theorem m_roll_ok {q w rn : Nat} (hq : q < 4) (hl : liesF (nI w) 1 ((1 : Int32) <<< (VI 76 93 &&& 31) - 1) = true) (hr : VI 76 94 = nI rn) (hr8 : rn < 8) (hP : P (some (.int (nI rn))) (LY ++ ext) (up (up (up (up (up (up VI 76 (51 + rn) (nI q)) 76 (59 + rn) (nI w)) 76 (30 + rn) (nI 0)) 76 94 (nI (rn + 1))) 74 32 0) 74 0 0) VL (vr G)) : Ex (d + 2) mi175 0 (entL [.ref 74, .int (nI q), .int (nI w)] 4) [] (LY ++ ext) VI VL (vr G) 0 0 P := by
  have e2 : hasF 4 (nI q) = 1 := hasF_in (n := 4) hq (by omega)
  refine x_iload_n rfl rfl ?_
  refine x_callS (M' := mi166) (As := [_]) (bc1 := 0) (bs1 := 0) (bc2 := 0) (bs2 := 0) rfl rfl rfl rfl ok166 rfl rfl rfl rfl rfl rfl ?_
  refine m_isDayK ?_
  rw [e2]
  refine x_if_eq rfl (fun c4 => ?_) (fun c4 => ?_)
  · exact absurd c4 (by first | decide | omega)
  refine x_iload_n rfl rfl ?_
  refine x_iconst rfl ?_
  refine x_aload_n rfl rfl ?_
  refine x_callV (M' := mi169) (As := []) (bc1 := 0) (bs1 := 0) (bc2 := 0) (bs2 := 0) rfl rfl rfl rfl ok169 rfl rfl (by decide) rfl rfl rfl rfl rfl rfl ?_
  refine m_allPeople ?_
  refine x_callS (M' := mi152) (As := [_, _, _]) (bc1 := 0) (bs1 := 0) (bc2 := 0) (bs2 := 0) rfl rfl rfl rfl ok152 rfl rfl rfl rfl rfl rfl ?_
  refine m_lies ?_
  rw [hl]
  refine x_if_ne rfl (fun c16 => ?_) (fun c16 => ?_)
  rotate_left
  · exact absurd c16 (by first | decide | omega)
  refine x_aload_n rfl rfl ?_
  refine x_getR (u := .ref _) rfl rfl rfl rfl ?_
  refine x_bipushN (q := 94) rfl ?_
  refine x_ialE (j := 94) rfl rfl (rfl) (by omega) (hr) ?_
  refine x_istore_n (ls' := [_, _, _, _]) rfl rfl rfl ?_
  refine x_iload_n rfl rfl ?_
  refine x_bipushN (q := 8) rfl ?_
  refine x_icmpN_ne rfl (fun c36 => ?_) (fun c36 => ?_)
  rotate_left
  · exact absurd c36 (by first | decide | omega)
  refine x_aload_n rfl rfl ?_
  refine x_getR (u := .ref _) rfl rfl rfl rfl ?_
  refine x_bipushN (q := 51) rfl ?_
  refine x_iload_n rfl rfl ?_
  refine x_iaddN rfl ?_
  refine x_iload_n rfl rfl ?_
  refine x_iasN (j := 51 + rn) rfl rfl (rfl) (by omega) ?_
  refine x_aload_n rfl rfl ?_
  refine x_getR (u := .ref _) rfl rfl rfl rfl ?_
  refine x_bipushN (q := 59) rfl ?_
  refine x_iload_n rfl rfl ?_
  refine x_iaddN rfl ?_
  refine x_iload_n rfl rfl ?_
  refine x_iasN (j := 59 + rn) rfl rfl (rfl) (by omega) ?_
  refine x_aload_n rfl rfl ?_
  refine x_getR (u := .ref _) rfl rfl rfl rfl ?_
  refine x_bipushN (q := 30) rfl ?_
  refine x_iload_n rfl rfl ?_
  refine x_iaddN rfl ?_
  refine x_iconstN (q := 0) rfl ?_
  refine x_iasN (j := 30 + rn) rfl rfl (rfl) (by omega) ?_
  refine x_aload_n rfl rfl ?_
  refine x_getR (u := .ref _) rfl rfl rfl rfl ?_
  refine x_bipushN (q := 94) rfl ?_
  refine x_dup2 rfl rfl rfl ?_
  refine x_ialE (j := 94) rfl rfl (rfl) (by omega) ((show _ = nI rn by rw [up_at' (by omega), up_at' (by omega), up_at' (by omega)]; exact hr)) ?_
  refine x_iconstN (q := 1) rfl ?_
  refine x_iaddN rfl ?_
  refine x_iasN (j := 94) rfl rfl (rfl) (by omega) ?_
  refine x_aload_n rfl rfl ?_
  refine x_iload_n rfl rfl ?_
  refine x_callV (M' := mi156) (As := [_]) (bc1 := 0) (bs1 := 0) (bc2 := 0) (bs2 := 0) rfl rfl rfl rfl ok156 rfl rfl (by decide) rfl rfl rfl rfl rfl rfl ?_
  refine m_settled ?_
  refine x_iret rfl rfl ?_
  exact hP
set_option maxRecDepth 20000 in
theorem lies_on {w : Int32} (hn6 : n ≤ 6) : liesF w 1 ((1 : Int32) <<< (nI n &&& 31) - 1) = decide (¬ w ≤ 0 ∧ ¬ nI (2 ^ n) ≤ w) := by
  have hp2 := pow6 hn6
  have hp0 := Nat.two_pow_pos n
  rw [show (1 : Int32) = nI 1 from rfl, nb_shl (by omega) (by omega), Nat.one_mul, pk_sub hp0]
  simp only [liesF, Int32.lt_iff_toInt_lt, Int32.le_iff_toInt_le]
  rw [nI_toInt (by omega), nI_toInt (by omega), nI_toInt (by omega), show (0 : Int32).toInt = 0 from rfl]
  congr 1
  rw [eq_iff_iff]
  omega
def rollK (K : KT) (e w : Nat) : KT := ku (ku (ku (ku K (51 + K 94) e) (59 + K 94) w) (30 + K 94) 0) 94 (K 94 + 1)
set_option maxRecDepth 20000 in
theorem rollK_ne {e w i : Nat} (h1 : i ≠ 51 + K 94) (h2 : i ≠ 59 + K 94) (h3 : i ≠ 30 + K 94) (h4 : i ≠ 94) : rollK K e w i = K i := by
  unfold rollK
  rw [ku_ne h4, ku_ne h3, ku_ne h2, ku_ne h1]
set_option maxRecDepth 20000 in
theorem rollK_94 {e w : Nat} : rollK K e w 94 = K 94 + 1 := ku_same
set_option maxRecDepth 20000 in
theorem rollK_d {e w : Nat} (h : K 94 < 8) : rollK K e w (51 + K 94) = e := by
  unfold rollK
  rw [ku_ne (by omega), ku_ne (by omega), ku_ne (by omega), ku_same]
set_option maxRecDepth 20000 in
theorem rollK_o {e w : Nat} (h : K 94 < 8) : rollK K e w (59 + K 94) = w := by
  unfold rollK
  rw [ku_ne (by omega), ku_ne (by omega), ku_same]
set_option maxRecDepth 20000 in
theorem rollK_z {e w : Nat} (h : K 94 < 8) : rollK K e w (30 + K 94) = 0 := by
  unfold rollK
  rw [ku_ne (by omega), ku_same]
set_option maxRecDepth 20000 in
theorem rollK_WF {e w : Nat} (h : WF K) (h8 : K 94 < 8) (he : e < 4) (hw0 : 0 < w) (hw : w < 2 ^ K 93) : WF (rollK K e w) := by
  obtain ⟨w1, w2, w3, w4, w5, w6, w7, w8, w9, w10, w11, w12⟩ := h
  have e0 : ∀ i, (67 ≤ i ∨ i < 30 ∨ (38 ≤ i ∧ i < 51)) → i ≠ 94 → rollK K e w i = K i := fun i hi hn => rollK_ne (by omega) (by omega) (by omega) hn
  unfold WF
  rw [rollK_94, e0 93 (by omega) (by omega), e0 95 (by omega) (by omega), e0 96 (by omega) (by omega), e0 97 (by omega) (by omega), e0 38 (by omega) (by omega), e0 91 (by omega) (by omega), e0 92 (by omega) (by omega)]
  refine ⟨w1, by omega, w3, w4, w5, w6, w7, w8, fun p hp => ?_, fun p q hp hq => ?_, fun r hr => ?_, fun k hk => ?_⟩
  · rw [e0 _ (by omega) (by omega), e0 _ (by omega) (by omega), e0 _ (by omega) (by omega)]; exact w9 p hp
  · rw [e0 _ (by omega) (by omega)]; exact w10 p q hp hq
  · by_cases c : r = K 94
    · subst c
      rw [rollK_d h8, rollK_o h8, rollK_z h8]; exact ⟨by omega, he, hw0, hw⟩
    · rw [rollK_ne (by omega) (by omega) (by omega) (by omega), rollK_ne (by omega) (by omega) (by omega) (by omega), rollK_ne (by omega) (by omega) (by omega) (by omega)]
      exact w11 r (by omega)
  · rw [e0 _ (by omega) (by omega), e0 _ (by omega) (by omega), e0 _ (by omega) (by omega)]; exact w12 k hk
set_option maxRecDepth 20000 in
theorem dm_roll {e w : Nat} (h : WF K) (h8 : K 94 < 8) : dmK (rollK K e w) = dmK K := by
  show mskN (fun r => rollK K e w (30 + r)) (rollK K e w 94) = _
  rw [rollK_94]
  simp only [mskN]
  rw [rollK_z h8, mskN_congr (g := fun r => K (30 + r)) (fun r hr => rollK_ne (by omega) (by omega) (by omega) (by omega))]
  simp
set_option maxRecDepth 20000 in
theorem rollK_RW {e w : Nat} (h : RW 3 K VI) (hW : WF K) (h8 : K 94 < 8) : RW 3 (rollK K e w) (up (up (up VI 7 (K 94) (nI e)) 8 (K 94) (nI w)) 3 5 (nI (K 94 + 1))) := by
  obtain ⟨w1, w2, w3, w4, w5, w6, w7, w8, w9, w10, w11, w12⟩ := h
  have h6 := hW.n
  have h95 : K 95 ≤ 8 := hW.2.2.1
  have e0 : ∀ i, (67 ≤ i ∨ i < 30 ∨ (38 ≤ i ∧ i < 51)) → i ≠ 94 → rollK K e w i = K i := fun i hi hn => rollK_ne (by omega) (by omega) (by omega) hn
  have hlm : lmK (rollK K e w) = lmK K := by
    show mskN (fun r => rollK K e w (24 + r)) (rollK K e w 93) = _
    rw [e0 93 (by omega) (by omega), mskN_congr (g := fun r => K (24 + r)) (fun r hr => e0 _ (by omega) (by omega))]
  refine ⟨by rw [e0 93 (by omega) (by omega)]; exact w1, by rw [hlm]; exact w2, by rw [rollK_94]; rfl, by rw [dm_roll hW h8]; exact w4, by rw [e0 95 (by omega) (by omega)]; exact w5, by rw [e0 96 (by omega) (by omega)]; exact w6, by rw [e0 97 (by omega) (by omega)]; exact w7, ?_, ?_, ?_, ?_, ?_⟩
  · intro p hp
    rw [e0 93 (by omega) (by omega)] at hp
    rw [e0 _ (by omega) (by omega), e0 _ (by omega) (by omega)]
    exact w8 p hp
  · intro p q hp hq
    rw [e0 93 (by omega) (by omega)] at hp
    rw [e0 _ (by omega) (by omega)]
    exact w9 p q hp hq
  · intro r hr
    rw [rollK_94] at hr
    show (if r = K 94 then nI e else VI 7 r) = _ ∧ (if r = K 94 then nI w else VI 8 r) = _
    by_cases c : r = K 94
    · subst c
      rw [if_pos rfl, if_pos rfl, rollK_d h8, rollK_o h8]; exact ⟨rfl, rfl⟩
    · rw [if_neg c, if_neg c, rollK_ne (by omega) (by omega) (by omega) (by omega), rollK_ne (by omega) (by omega) (by omega) (by omega)]
      exact w10 r (by omega)
  · intro k hk
    rw [e0 95 (by omega) (by omega)] at hk
    rw [e0 _ (by omega) (by omega), e0 _ (by omega) (by omega), e0 _ (by omega) (by omega)]
    exact w11 k hk
  · rw [e0 38 (by omega) (by omega), e0 91 (by omega) (by omega), e0 92 (by omega) (by omega)]
    exact w12
set_option maxRecDepth 20000 in
theorem rollK_RK {e w : Nat} (hM : RK (VI 76) K) (h8 : K 94 < 8) : RK ((up (up (up (up VI 76 (51 + K 94) (nI e)) 76 (59 + K 94) (nI w)) 76 (30 + K 94) (nI 0)) 76 94 (nI (K 94 + 1))) 76) (rollK K e w) := by
  unfold rollK
  exact RK.ku (RK.ku (RK.ku (RK.ku hM (by omega) rfl) (by omega) rfl) (by omega) rfl) (by omega) rfl
end Write2
section Join2
variable {j : Nat} {lay : HL} {VI : VIT} {VL : VLT} {VR : VRT}
set_option maxRecDepth 20000 in
theorem j_person {f a m : Int32} (h : Inv j lay VI VL VR) : Pr 100 mi109 mi173 [.int f, .int a, .int m] lay VI VL VR (Inv (j + 1)) := by
  obtain ⟨ext, G, K, tn, T, u, US, lg, rfl, rfl, hS⟩ := h
  have hW := hS.1
  have hX := hS.2.1
  have hM := hS.2.2.1
  have h6 := hW.n
  have h8 : K 94 ≤ 8 := hW.2.1
  cases hc : canF f a m with
  | false => exact Pr_ref hS 0 (by omega) (-1) (fun P q => x_person_bad hc q) (fun P q => m_person_bad hc q)
  | true =>
    by_cases hn : K 93 = 6
    · exact Pr_ref hS 4 (by omega) (-5) (fun P q => x_person_full hc (hn ▸ hX.n) q) (fun P q => m_person_full hc (hn ▸ hM.at 93) q)
    · obtain ⟨f', a', m', h1, h2, h3, rfl, rfl, rfl⟩ := canF_of hc
      have hn6 : K 93 < 6 := by omega
      refine ExS.budget (bc := 0) (bs := 0) (x_person_ok (l := lmK K) h1 h2 h3 hX.n hn6 hX.lm ⟨_, ext, rfl, rfl, m_person_ok (n := K 93) h1 h2 h3 (hM.at 93) hn6 ⟨rfl, St.inv (hS.write (K' := addK K f' a' m') (u' := 0) (US' := fun _ => addK K f' a' m') (lg' := fun _ => 0) (by repeat (first | exact Fr.refl | refine Fr.up ?_ rfl)) (addK_WF hW hn6 h1 h2) ?_ ?_ (Und.none rfl rfl) rfl ?_ ?_)⟩⟩) (by omega) (by omega)
      · refine (addK_RW (f := f') (a := a') (m := m') (hX.same (VI' := up VI 45 2 0) (fun a _ _ => up_ne (by omega))) hW hn6 (by omega)).same (fun a _ _ => ?_)
        rw [up_ne (by omega), up_ne (by omega), up_ne (by omega), up_ne (by omega), up_ne (by omega), up_ne (by omega), up_ne (by omega), up_ne (by omega), up_ne (by omega), up_ne (by omega), up_ne (by omega)]
      · exact addK_RK hM hn6
      · exact addK_ne (by omega) (by omega) (by omega) (by omega) (by omega)
      · exact fun i hi => addK_ne (by omega) (by omega) (by omega) (by omega) (by omega)
set_option maxRecDepth 20000 in
theorem j_roll {q w : Int32} (h : Inv j lay VI VL VR) : Pr 100 mi111 mi175 [.int q, .int w] lay VI VL VR (Inv (j + 1)) := by
  obtain ⟨ext, G, K, tn, T, u, US, lg, rfl, rfl, hS⟩ := h
  have hW := hS.1
  have hX := hS.2.1
  have hM := hS.2.2.1
  have h6 := hW.n
  have h8 : K 94 ≤ 8 := hW.2.1
  by_cases hb : hasF 4 q = 0 ∨ w ≤ 0 ∨ nI (2 ^ K 93) ≤ w
  · refine Pr_ref hS 0 (by omega) (-1) (fun P z => x_roll_bad hX.n h6 hb z) (fun P z => m_roll_bad ?_ z)
    rcases hb with hb | hb
    · exact Or.inl hb
    · refine Or.inr ?_
      show liesF w 1 ((1 : Int32) <<< (VI 76 93 &&& 31) - 1) = false
      rw [hM.at 93, lies_on h6, decide_eq_false_iff_not]
      exact fun hh => hb.elim hh.1 hh.2
  · simp only [not_or] at hb
    obtain ⟨hb1, hb2, hb3⟩ := hb
    obtain ⟨e, he, rfl⟩ := (has_cases (n := 4) (by omega) q).resolve_left hb1
    have hl : liesF w 1 ((1 : Int32) <<< (VI 76 93 &&& 31) - 1) = true := by
      rw [hM.at 93, lies_on h6, decide_eq_true_eq]; exact ⟨hb2, hb3⟩
    have hp2 := pow6 h6
    obtain ⟨o, ho, rfl⟩ : ∃ o, o < 2 ^ K 93 ∧ w = nI o := by
      rcases pk_ix w (n := 2 ^ K 93) (by omega) with z | z | z
      · exact absurd (Int32.le_of_lt z) hb2
      · exact absurd z hb3
      · exact z
    have ho0 : 0 < o := by
      rcases Nat.eq_zero_or_pos o with z | z
      · subst z; exact absurd (Int32.le_refl _) hb2
      · exact z
    by_cases hn : K 94 = 8
    · exact Pr_ref hS 4 (by omega) (-5) (fun P z => x_roll_full hX.n h6 he ho0 ho (hn ▸ hX.rn) z) (fun P z => m_roll_full he hl (hn ▸ hM.at 94) z)
    · have hn8 : K 94 < 8 := by omega
      refine ExS.budget (bc := 0) (bs := 0) (x_roll_ok hX.n h6 he ho0 ho hX.rn hn8 ⟨_, ext, rfl, rfl, m_roll_ok he hl (hM.at 94) hn8 ⟨rfl, St.inv (hS.write (K' := rollK K e o) (u' := 0) (US' := fun _ => rollK K e o) (lg' := fun _ => 0) (by repeat (first | exact Fr.refl | refine Fr.up ?_ rfl)) (rollK_WF hW hn8 he ho0 ho) ?_ ?_ (Und.none rfl rfl) rfl ?_ ?_)⟩⟩) (by omega) (by omega)
      · refine (rollK_RW (e := e) (w := o) (hX.same (VI' := up VI 45 2 0) (fun a _ _ => up_ne (by omega))) hW hn8).same (fun a _ _ => ?_)
        rw [up_ne (by omega), up_ne (by omega), up_ne (by omega), up_ne (by omega), up_ne (by omega), up_ne (by omega), up_ne (by omega)]
      · exact rollK_RK hM hn8
      · exact rollK_ne (by omega) (by omega) (by omega) (by omega)
      · exact fun i hi => rollK_ne (by omega) (by omega) (by omega) (by omega)
end Join2
