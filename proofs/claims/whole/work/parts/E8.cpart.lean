/-! ===== the class reads parts ===== -/
set_option maxRecDepth 20000 in
theorem neg_sub {t : Nat} (h : t < 1000) : nI t - nI 1000 < 0 := by
  have e : (nI t - nI 1000 : Int32).toInt = (t : Int) - 1000 := by
    rw [Int32.toInt_sub, nI_toInt (by omega), nI_toInt (by omega), Int.bmod_eq_of_le (by omega) (by omega)]
    rfl
  rw [Int32.lt_iff_toInt_lt, e, show (0 : Int32).toInt = 0 from rfl]
  omega
section ReadD
variable {d : Nat} {V0 V : VIT} {VL : VLT} {G : VRT} {P : Post} {ext : HL} {o : Bool} {N f nw : Nat} {ct tc tv pl wm : Nat → Nat}
-- a word of orders: wrong
set_option maxRecDepth 20000 in
theorem ow_bad {i p l : Nat} (hA : CkA o N ct tc tv pl V) (hS : CS i p l V) (hi : i ≤ N) (h1 : ct i ≠ 326) (h2 : ct i ≠ 316) (h3 : ct i ≠ 321) (h4 : ¬ (323 ≤ ct i ∧ ct i ≤ 325)) (hP : P (some (.int (nI 0))) (LY ++ ext) (up V 37 1 (nI (pl i))) VL (vr G)) : Ex (d + 1) mi62 0 (entL [.ref 37, .int (nI (ct i))] 4) [] (LY ++ ext) V VL (vr G) 0 0 P := by
  have hct := (hA.1 i hi).2.2.2
  by_cases c : 323 ≤ ct i
  · refine x_iload_n rfl rfl ?_
    refine x_sipushN (q := 326) rfl ?_
    refine x_icmpN_eq rfl (fun c4 => ?_) (fun c4 => ?_)
    · exact absurd c4 (by first | decide | omega)
    refine x_iload_n rfl rfl ?_
    refine x_sipushN (q := 316) rfl ?_
    refine x_icmpN_ne rfl (fun c11 => ?_) (fun c11 => ?_)
    rotate_left
    · exact absurd c11 (by first | decide | omega)
    refine x_iconstN (q := 0) rfl ?_
    refine x_istore_n (ls' := [_, _, _, _]) rfl rfl rfl ?_
    refine x_iload_n rfl rfl ?_
    refine x_ifN_ne rfl (fun c21 => ?_) (fun c21 => ?_)
    · exact absurd c21 (by first | decide | omega)
    refine x_iload_n rfl rfl ?_
    refine x_sipushN (q := 321) rfl ?_
    refine x_icmpN_eq rfl (fun c28 => ?_) (fun c28 => ?_)
    · exact absurd c28 (by first | decide | omega)
    refine x_iload_n rfl rfl ?_
    refine x_sipushN (q := 323) rfl ?_
    refine x_icmpN_lt rfl (fun c35 => ?_) (fun c35 => ?_)
    · exact absurd c35 (by first | decide | omega)
    refine x_iload_n rfl rfl ?_
    refine x_sipushN (q := 325) rfl ?_
    refine x_icmpN_le rfl (fun c42 => ?_) (fun c42 => ?_)
    · exact absurd c42 (by first | decide | omega)
    refine x_aload_n rfl rfl ?_
    refine x_callV (M' := mi49) (As := []) (bc1 := 0) (bs1 := 0) (bc2 := 0) (bs2 := 0) rfl rfl rfl rfl ok49 rfl rfl (by decide) rfl rfl rfl rfl rfl rfl ?_
    refine x_wrong hA hS.1 hi ?_
    refine x_zret rfl rfl (by first | exact Or.inl rfl | exact Or.inr rfl) ?_
    exact hP
  · refine x_iload_n rfl rfl ?_
    refine x_sipushN (q := 326) rfl ?_
    refine x_icmpN_eq rfl (fun c4 => ?_) (fun c4 => ?_)
    · exact absurd c4 (by first | decide | omega)
    refine x_iload_n rfl rfl ?_
    refine x_sipushN (q := 316) rfl ?_
    refine x_icmpN_ne rfl (fun c11 => ?_) (fun c11 => ?_)
    rotate_left
    · exact absurd c11 (by first | decide | omega)
    refine x_iconstN (q := 0) rfl ?_
    refine x_istore_n (ls' := [_, _, _, _]) rfl rfl rfl ?_
    refine x_iload_n rfl rfl ?_
    refine x_ifN_ne rfl (fun c21 => ?_) (fun c21 => ?_)
    · exact absurd c21 (by first | decide | omega)
    refine x_iload_n rfl rfl ?_
    refine x_sipushN (q := 321) rfl ?_
    refine x_icmpN_eq rfl (fun c28 => ?_) (fun c28 => ?_)
    · exact absurd c28 (by first | decide | omega)
    refine x_iload_n rfl rfl ?_
    refine x_sipushN (q := 323) rfl ?_
    refine x_icmpN_lt rfl (fun c35 => ?_) (fun c35 => ?_)
    rotate_left
    · exact absurd c35 (by first | decide | omega)
    refine x_aload_n rfl rfl ?_
    refine x_callV (M' := mi49) (As := []) (bc1 := 0) (bs1 := 0) (bc2 := 0) (bs2 := 0) rfl rfl rfl rfl ok49 rfl rfl (by decide) rfl rfl rfl rfl rfl rfl ?_
    refine x_wrong hA hS.1 hi ?_
    refine x_zret rfl rfl (by first | exact Or.inl rfl | exact Or.inr rfl) ?_
    exact hP
-- a word of orders: week, done, latest, living
set_option maxRecDepth 20000 in
theorem ow_one {i p l : Nat} (hA : CkA o N ct tc tv pl V) (hS : CS i p l V) (hi : i ≤ N) (hl : l + 1 < 896) (h3 : ct i = 321 ∨ (323 ≤ ct i ∧ ct i ≤ 325)) (hP : ∀ w : Nat, w < 4 → 16 + w = (if ct i = 321 then 16 else ct i - 306) → P (some (.int (nI 1))) (LY ++ ext) (up (up (up (up V 37 5 (nI (i + 1))) 40 l (nI 2)) 40 (l + 1) (nI w)) 38 3 (nI (l + 2))) VL (vr G)) : Ex (d + 1) mi62 0 (entL [.ref 37, .int (nI (ct i))] 4) [] (LY ++ ext) V VL (vr G) 0 0 P := by
  have hct := (hA.1 i hi).2.2.2
  have hN := hA.2.2.2.1
  by_cases c : ct i = 321
  · have hk := hP 0 (by omega) (by rw [if_pos c])
    refine x_iload_n rfl rfl ?_
    refine x_sipushN (q := 326) rfl ?_
    refine x_icmpN_eq rfl (fun c4 => ?_) (fun c4 => ?_)
    · exact absurd c4 (by first | decide | omega)
    refine x_iload_n rfl rfl ?_
    refine x_sipushN (q := 316) rfl ?_
    refine x_icmpN_ne rfl (fun c11 => ?_) (fun c11 => ?_)
    rotate_left
    · exact absurd c11 (by first | decide | omega)
    refine x_iconstN (q := 0) rfl ?_
    refine x_istore_n (ls' := [_, _, _, _]) rfl rfl rfl ?_
    refine x_iload_n rfl rfl ?_
    refine x_ifN_ne rfl (fun c21 => ?_) (fun c21 => ?_)
    · exact absurd c21 (by first | decide | omega)
    refine x_iload_n rfl rfl ?_
    refine x_sipushN (q := 321) rfl ?_
    refine x_icmpN_eq rfl (fun c28 => ?_) (fun c28 => ?_)
    rotate_left
    · exact absurd c28 (by first | decide | omega)
    refine x_aload_n rfl rfl ?_
    refine x_dup rfl rfl ?_
    refine x_getE (y := 5) rfl rfl rfl hS.1 ?_
    refine x_iconstN (q := 1) rfl ?_
    refine x_iaddN rfl ?_
    refine x_putI rfl rfl rfl rfl ?_
    refine x_iload_n rfl rfl ?_
    refine x_ifN_ne rfl (fun c61 => ?_) (fun c61 => ?_)
    · exact absurd c61 (by first | decide | omega)
    refine x_aload_n rfl rfl ?_
    refine x_getR (u := .ref _) rfl rfl rfl rfl ?_
    refine x_iconstN (q := 2) rfl ?_
    refine x_iload_n rfl rfl ?_
    refine x_sipushN (q := 321) rfl ?_
    refine x_icmpN_ne rfl (fun c73 => ?_) (fun c73 => ?_)
    · exact absurd c73 (by first | decide | omega)
    refine x_iconstN (q := 0) rfl ?_
    refine x_goto rfl ?_
    refine x_callV (M' := mi86) (As := [_, _]) (bc1 := 0) (bs1 := 0) (bc2 := 0) (bs2 := 0) rfl rfl rfl rfl ok86 rfl rfl (by decide) rfl rfl rfl rfl rfl rfl ?_
    refine x_putC hS.tok.2.2.2 hl ?_
    refine x_pop rfl rfl ?_
    refine x_iconstN (q := 1) rfl ?_
    refine x_zret rfl rfl (by first | exact Or.inl rfl | exact Or.inr rfl) ?_
    exact hk
  · have hk := hP (ct i - 322) (by omega) (by rw [if_neg c]; omega)
    refine x_iload_n rfl rfl ?_
    refine x_sipushN (q := 326) rfl ?_
    refine x_icmpN_eq rfl (fun c4 => ?_) (fun c4 => ?_)
    · exact absurd c4 (by first | decide | omega)
    refine x_iload_n rfl rfl ?_
    refine x_sipushN (q := 316) rfl ?_
    refine x_icmpN_ne rfl (fun c11 => ?_) (fun c11 => ?_)
    rotate_left
    · exact absurd c11 (by first | decide | omega)
    refine x_iconstN (q := 0) rfl ?_
    refine x_istore_n (ls' := [_, _, _, _]) rfl rfl rfl ?_
    refine x_iload_n rfl rfl ?_
    refine x_ifN_ne rfl (fun c21 => ?_) (fun c21 => ?_)
    · exact absurd c21 (by first | decide | omega)
    refine x_iload_n rfl rfl ?_
    refine x_sipushN (q := 321) rfl ?_
    refine x_icmpN_eq rfl (fun c28 => ?_) (fun c28 => ?_)
    · exact absurd c28 (by first | decide | omega)
    refine x_iload_n rfl rfl ?_
    refine x_sipushN (q := 323) rfl ?_
    refine x_icmpN_lt rfl (fun c35 => ?_) (fun c35 => ?_)
    · exact absurd c35 (by first | decide | omega)
    refine x_iload_n rfl rfl ?_
    refine x_sipushN (q := 325) rfl ?_
    refine x_icmpN_le rfl (fun c42 => ?_) (fun c42 => ?_)
    rotate_left
    · exact absurd c42 (by first | decide | omega)
    refine x_aload_n rfl rfl ?_
    refine x_dup rfl rfl ?_
    refine x_getE (y := 5) rfl rfl rfl hS.1 ?_
    refine x_iconstN (q := 1) rfl ?_
    refine x_iaddN rfl ?_
    refine x_putI rfl rfl rfl rfl ?_
    refine x_iload_n rfl rfl ?_
    refine x_ifN_ne rfl (fun c61 => ?_) (fun c61 => ?_)
    · exact absurd c61 (by first | decide | omega)
    refine x_aload_n rfl rfl ?_
    refine x_getR (u := .ref _) rfl rfl rfl rfl ?_
    refine x_iconstN (q := 2) rfl ?_
    refine x_iload_n rfl rfl ?_
    refine x_sipushN (q := 321) rfl ?_
    refine x_icmpN_ne rfl (fun c73 => ?_) (fun c73 => ?_)
    rotate_left
    · exact absurd c73 (by first | decide | omega)
    refine x_iconstN (q := 1) rfl ?_
    refine x_iload_n rfl rfl ?_
    refine x_iaddN rfl ?_
    refine x_sipushN (q := 323) rfl ?_
    refine x_isubN rfl ?_
    rw [show 1 + ct i - 323 = ct i - 322 by omega]
    refine x_callV (M' := mi86) (As := [_, _]) (bc1 := 0) (bs1 := 0) (bc2 := 0) (bs2 := 0) rfl rfl rfl rfl ok86 rfl rfl (by decide) rfl rfl rfl rfl rfl rfl ?_
    refine x_putC hS.tok.2.2.2 hl ?_
    refine x_pop rfl rfl ?_
    refine x_iconstN (q := 1) rfl ?_
    refine x_zret rfl rfl (by first | exact Or.inl rfl | exact Or.inr rfl) ?_
    exact hk
-- a word of orders with a number behind it
set_option maxRecDepth 20000 in
theorem ow_two {i p l hi2 b : Nat} (hA : CkA o N ct tc tv pl V) (hS : CS i p l V) (hin : i < N) (hl : l + 1 < 896) (hq : (ct i = 326 ∧ hi2 = 7 ∧ b = 4) ∨ (ct i = 316 ∧ hi2 = 23 ∧ b = 12)) (h1 : tc (i + 1) = 50 ∧ tv (i + 1) ≤ hi2 → P (some (.int (nI 1))) (LY ++ ext) (up (up (up (up (up V 37 5 (nI (i + 1))) 37 5 (nI (i + 1 + 1))) 40 l (nI 2)) 40 (l + 1) (nI (b + tv (i + 1)))) 38 3 (nI (l + 2))) VL (vr G)) (h2 : ¬ (tc (i + 1) = 50 ∧ tv (i + 1) ≤ hi2) → P (some (.int (nI 0))) (LY ++ ext) (up (up V 37 5 (nI (i + 1))) 37 1 (nI (pl (i + 1)))) VL (vr G)) : Ex (d + 1) mi62 0 (entL [.ref 37, .int (nI (ct i))] 4) [] (LY ++ ext) V VL (vr G) 0 0 P := by
  have hct := (hA.1 i (by omega)).2.2.2
  have hN := hA.2.2.2.1
  have hA1 : CkA o N ct tc tv pl (up V 37 5 (nI (i + 1))) := hA.fr (FrRC.refl.up (by omega))
  have hS1 : CS (i + 1) p l (up V 37 5 (nI (i + 1))) := hS.tok
  obtain ⟨-, -, hTR, hct1⟩ := hA.1 (i + 1) hin
  obtain ⟨n1, n2⟩ := hTR.num
  have hg : Ex (d + 1) mi62 93 [.ref 37, .int (nI (ct i)), .int (nI 1), .retAddr 9] [] (LY ++ ext) (up V 37 5 (nI (i + 1))) VL (vr G) 0 0 P := by
    by_cases c1 : 1000 ≤ ct (i + 1)
    · have e1 := n2 (n1.mp c1)
      by_cases c2 : tv (i + 1) ≤ hi2
      · have hk := h1 ⟨n1.mp c1, c2⟩
        have ek : ct (i + 1) - 1000 = tv (i + 1) := by omega
        rcases hq with ⟨q1, q2, q3⟩ | ⟨q1, q2, q3⟩
        · subst q3
          refine x_aload_n rfl rfl ?_
          refine x_callV (M' := mi48) (As := []) (bc1 := 0) (bs1 := 0) (bc2 := 0) (bs2 := 0) rfl rfl rfl rfl ok48 rfl rfl (by decide) rfl rfl rfl rfl rfl rfl ?_
          refine x_token hA1 hS1.1 hin ?_
          refine x_sipushN (q := 1000) rfl ?_
          refine x_isubN rfl ?_
          refine x_istore_n (ls' := [_, _, _, _]) rfl rfl rfl ?_
          refine x_iload_n rfl rfl ?_
          refine x_ifN_lt rfl ?_
          refine x_iload_n rfl rfl ?_
          refine x_iload_n rfl rfl ?_
          refine x_sipushN (q := 326) rfl ?_
          refine x_icmpN_ne rfl (fun c111 => ?_) (fun c111 => ?_)
          · exact absurd c111 (by first | decide | omega)
          refine x_bipushN (q := 8) rfl ?_
          refine x_goto rfl ?_
          refine x_icmpN_lt rfl (fun c121 => ?_) (fun c121 => ?_)
          rotate_left
          · exact absurd c121 (by first | decide | omega)
          refine x_aload_n rfl rfl ?_
          refine x_dup rfl rfl ?_
          refine x_getE (y := 5) rfl rfl rfl hS1.1 ?_
          refine x_iconstN (q := 1) rfl ?_
          refine x_iaddN rfl ?_
          refine x_putI rfl rfl rfl rfl ?_
          refine x_aload_n rfl rfl ?_
          refine x_getR (u := .ref _) rfl rfl rfl rfl ?_
          refine x_iconstN (q := 2) rfl ?_
          refine x_iload_n rfl rfl ?_
          refine x_sipushN (q := 326) rfl ?_
          refine x_icmpN_ne rfl (fun c148 => ?_) (fun c148 => ?_)
          · exact absurd c148 (by first | decide | omega)
          refine x_iconstN (q := 4) rfl ?_
          refine x_goto rfl ?_
          refine x_iload_n rfl rfl ?_
          refine x_iaddN rfl ?_
          rw [ek]
          refine x_callV (M' := mi86) (As := [_, _]) (bc1 := 0) (bs1 := 0) (bc2 := 0) (bs2 := 0) rfl rfl rfl rfl ok86 rfl rfl (by decide) rfl rfl rfl rfl rfl rfl ?_
          refine x_putC hS1.tok.2.2.2 hl ?_
          refine x_pop rfl rfl ?_
          refine x_iconstN (q := 1) rfl ?_
          refine x_zret rfl rfl (by first | exact Or.inl rfl | exact Or.inr rfl) ?_
          exact hk
        · subst q3
          refine x_aload_n rfl rfl ?_
          refine x_callV (M' := mi48) (As := []) (bc1 := 0) (bs1 := 0) (bc2 := 0) (bs2 := 0) rfl rfl rfl rfl ok48 rfl rfl (by decide) rfl rfl rfl rfl rfl rfl ?_
          refine x_token hA1 hS1.1 hin ?_
          refine x_sipushN (q := 1000) rfl ?_
          refine x_isubN rfl ?_
          refine x_istore_n (ls' := [_, _, _, _]) rfl rfl rfl ?_
          refine x_iload_n rfl rfl ?_
          refine x_ifN_lt rfl ?_
          refine x_iload_n rfl rfl ?_
          refine x_iload_n rfl rfl ?_
          refine x_sipushN (q := 326) rfl ?_
          refine x_icmpN_ne rfl (fun c111 => ?_) (fun c111 => ?_)
          rotate_left
          · exact absurd c111 (by first | decide | omega)
          refine x_bipushN (q := 24) rfl ?_
          refine x_icmpN_lt rfl (fun c121 => ?_) (fun c121 => ?_)
          rotate_left
          · exact absurd c121 (by first | decide | omega)
          refine x_aload_n rfl rfl ?_
          refine x_dup rfl rfl ?_
          refine x_getE (y := 5) rfl rfl rfl hS1.1 ?_
          refine x_iconstN (q := 1) rfl ?_
          refine x_iaddN rfl ?_
          refine x_putI rfl rfl rfl rfl ?_
          refine x_aload_n rfl rfl ?_
          refine x_getR (u := .ref _) rfl rfl rfl rfl ?_
          refine x_iconstN (q := 2) rfl ?_
          refine x_iload_n rfl rfl ?_
          refine x_sipushN (q := 326) rfl ?_
          refine x_icmpN_ne rfl (fun c148 => ?_) (fun c148 => ?_)
          rotate_left
          · exact absurd c148 (by first | decide | omega)
          refine x_bipushN (q := 12) rfl ?_
          refine x_iload_n rfl rfl ?_
          refine x_iaddN rfl ?_
          rw [ek]
          refine x_callV (M' := mi86) (As := [_, _]) (bc1 := 0) (bs1 := 0) (bc2 := 0) (bs2 := 0) rfl rfl rfl rfl ok86 rfl rfl (by decide) rfl rfl rfl rfl rfl rfl ?_
          refine x_putC hS1.tok.2.2.2 hl ?_
          refine x_pop rfl rfl ?_
          refine x_iconstN (q := 1) rfl ?_
          refine x_zret rfl rfl (by first | exact Or.inl rfl | exact Or.inr rfl) ?_
          exact hk
      · have hk := h2 (fun z => c2 z.2)
        rcases hq with ⟨q1, q2, q3⟩ | ⟨q1, q2, q3⟩
        · refine x_aload_n rfl rfl ?_
          refine x_callV (M' := mi48) (As := []) (bc1 := 0) (bs1 := 0) (bc2 := 0) (bs2 := 0) rfl rfl rfl rfl ok48 rfl rfl (by decide) rfl rfl rfl rfl rfl rfl ?_
          refine x_token hA1 hS1.1 hin ?_
          refine x_sipushN (q := 1000) rfl ?_
          refine x_isubN rfl ?_
          refine x_istore_n (ls' := [_, _, _, _]) rfl rfl rfl ?_
          refine x_iload_n rfl rfl ?_
          refine x_ifN_lt rfl ?_
          refine x_iload_n rfl rfl ?_
          refine x_iload_n rfl rfl ?_
          refine x_sipushN (q := 326) rfl ?_
          refine x_icmpN_ne rfl (fun c111 => ?_) (fun c111 => ?_)
          · exact absurd c111 (by first | decide | omega)
          refine x_bipushN (q := 8) rfl ?_
          refine x_goto rfl ?_
          refine x_icmpN_lt rfl (fun c121 => ?_) (fun c121 => ?_)
          · exact absurd c121 (by first | decide | omega)
          refine x_aload_n rfl rfl ?_
          refine x_callV (M' := mi49) (As := []) (bc1 := 0) (bs1 := 0) (bc2 := 0) (bs2 := 0) rfl rfl rfl rfl ok49 rfl rfl (by decide) rfl rfl rfl rfl rfl rfl ?_
          refine x_wrong hA1 hS1.1 hin ?_
          refine x_zret rfl rfl (by first | exact Or.inl rfl | exact Or.inr rfl) ?_
          exact hk
        · refine x_aload_n rfl rfl ?_
          refine x_callV (M' := mi48) (As := []) (bc1 := 0) (bs1 := 0) (bc2 := 0) (bs2 := 0) rfl rfl rfl rfl ok48 rfl rfl (by decide) rfl rfl rfl rfl rfl rfl ?_
          refine x_token hA1 hS1.1 hin ?_
          refine x_sipushN (q := 1000) rfl ?_
          refine x_isubN rfl ?_
          refine x_istore_n (ls' := [_, _, _, _]) rfl rfl rfl ?_
          refine x_iload_n rfl rfl ?_
          refine x_ifN_lt rfl ?_
          refine x_iload_n rfl rfl ?_
          refine x_iload_n rfl rfl ?_
          refine x_sipushN (q := 326) rfl ?_
          refine x_icmpN_ne rfl (fun c111 => ?_) (fun c111 => ?_)
          rotate_left
          · exact absurd c111 (by first | decide | omega)
          refine x_bipushN (q := 24) rfl ?_
          refine x_icmpN_lt rfl (fun c121 => ?_) (fun c121 => ?_)
          · exact absurd c121 (by first | decide | omega)
          refine x_aload_n rfl rfl ?_
          refine x_callV (M' := mi49) (As := []) (bc1 := 0) (bs1 := 0) (bc2 := 0) (bs2 := 0) rfl rfl rfl rfl ok49 rfl rfl (by decide) rfl rfl rfl rfl rfl rfl ?_
          refine x_wrong hA1 hS1.1 hin ?_
          refine x_zret rfl rfl (by first | exact Or.inl rfl | exact Or.inr rfl) ?_
          exact hk
    · have hk := h2 (fun z => c1 (n1.mpr z.1))
      refine x_aload_n rfl rfl ?_
      refine x_callV (M' := mi48) (As := []) (bc1 := 0) (bs1 := 0) (bc2 := 0) (bs2 := 0) rfl rfl rfl rfl ok48 rfl rfl (by decide) rfl rfl rfl rfl rfl rfl ?_
      refine x_token hA1 hS1.1 hin ?_
      refine x_sipushN (q := 1000) rfl ?_
      refine x_isub rfl ?_
      refine x_istore_n (ls' := [_, _, _, _]) rfl rfl rfl ?_
      refine x_iload_n rfl rfl ?_
      refine x_if_lt rfl (fun c103 => ?_) (fun c103 => ?_)
      rotate_left
      · exact absurd (neg_sub (by omega)) c103
      refine x_aload_n rfl rfl ?_
      refine x_callV (M' := mi49) (As := []) (bc1 := 0) (bs1 := 0) (bc2 := 0) (bs2 := 0) rfl rfl rfl rfl ok49 rfl rfl (by decide) rfl rfl rfl rfl rfl rfl ?_
      refine x_wrong hA1 hS1.1 hin ?_
      refine x_zret rfl rfl (by first | exact Or.inl rfl | exact Or.inr rfl) ?_
      exact hk
  rcases hq with ⟨q1, q2, q3⟩ | ⟨q1, q2, q3⟩
  · refine x_iload_n rfl rfl ?_
    refine x_sipushN (q := 326) rfl ?_
    refine x_icmpN_eq rfl (fun c4 => ?_) (fun c4 => ?_)
    rotate_left
    · exact absurd c4 (by first | decide | omega)
    refine x_iconstN (q := 1) rfl ?_
    refine x_goto rfl ?_
    refine x_istore_n (ls' := [_, _, _, _]) rfl rfl rfl ?_
    refine x_iload_n rfl rfl ?_
    refine x_ifN_ne rfl (fun c21 => ?_) (fun c21 => ?_)
    rotate_left
    · exact absurd c21 (by first | decide | omega)
    refine x_aload_n rfl rfl ?_
    refine x_dup rfl rfl ?_
    refine x_getE (y := 5) rfl rfl rfl hS.1 ?_
    refine x_iconstN (q := 1) rfl ?_
    refine x_iaddN rfl ?_
    refine x_putI rfl rfl rfl rfl ?_
    refine x_iload_n rfl rfl ?_
    refine x_ifN_ne rfl (fun c61 => ?_) (fun c61 => ?_)
    rotate_left
    · exact absurd c61 (by first | decide | omega)
    exact hg
  · refine x_iload_n rfl rfl ?_
    refine x_sipushN (q := 326) rfl ?_
    refine x_icmpN_eq rfl (fun c4 => ?_) (fun c4 => ?_)
    · exact absurd c4 (by first | decide | omega)
    refine x_iload_n rfl rfl ?_
    refine x_sipushN (q := 316) rfl ?_
    refine x_icmpN_ne rfl (fun c11 => ?_) (fun c11 => ?_)
    · exact absurd c11 (by first | decide | omega)
    refine x_iconstN (q := 1) rfl ?_
    refine x_goto rfl ?_
    refine x_istore_n (ls' := [_, _, _, _]) rfl rfl rfl ?_
    refine x_iload_n rfl rfl ?_
    refine x_ifN_ne rfl (fun c21 => ?_) (fun c21 => ?_)
    rotate_left
    · exact absurd c21 (by first | decide | omega)
    refine x_aload_n rfl rfl ?_
    refine x_dup rfl rfl ?_
    refine x_getE (y := 5) rfl rfl rfl hS.1 ?_
    refine x_iconstN (q := 1) rfl ?_
    refine x_iaddN rfl ?_
    refine x_putI rfl rfl rfl rfl ?_
    refine x_iload_n rfl rfl ?_
    refine x_ifN_ne rfl (fun c61 => ?_) (fun c61 => ?_)
    rotate_left
    · exact absurd c61 (by first | decide | omega)
    exact hg
set_option maxRecDepth 20000 in
theorem rc9 (hA : CkA o N ct tc tv pl V0) (hnw : nw = if o = true then 36 else 9) (hwm : wm = if o = true then owm else lwm) (h5 : Rc5 V0 VL G ext o N tc tv pl nw wm f) : Rc9 V0 VL G ext o N tc tv pl nw wm (f + 1) := by
  intro dp i p x V D l hd hD hi hp hF hS hl hr
  have hA1 := hA.fr hF
  have hN := hA.2.2.2.1
  obtain ⟨-, -, hTR, hct⟩ := hA.1 i hi
  obtain ⟨n1, n2⟩ := hTR.num
  have s91 : ct i = 91 ↔ tc i = 191 := hTR.sign (by omega)
  have hO1 : V 37 7 = nI (if o = true then 1 else 0) := hA1.2.2.1
  obtain ⟨d, rfl⟩ : ∃ d, D = d + 2 := ⟨D - 2, by omega⟩
  by_cases c : tc i = 191
  · have hin : i < N := Nat.lt_of_not_le (fun z => by have := hA.2.2.2.2.1 i z; omega)
    have e9 : prs o tc tv (f + 1) 9 dp i p x = if 8 ≤ dp then (0, i, p, x) else pbd (prs o tc tv f 5 (dp + 1) (i + 1) p x) (fun i' p' y => if tc i' = 193 then (1, i' + 1, p', y) else (0, i', p', y)) := by
      show (if tc i = 191 then _ else _) = _
      rw [if_pos c]
    rw [e9] at hr ⊢
    intro P hP hP0
    by_cases c8 : 8 ≤ dp
    · rw [if_pos c8] at hP0
      refine x_aload_n rfl rfl ?_
      refine x_callV (M' := mi48) (As := []) (bc1 := 0) (bs1 := 0) (bc2 := 0) (bs2 := 0) rfl rfl rfl rfl ok48 rfl rfl (by decide) rfl rfl rfl rfl rfl rfl ?_
      refine x_token hA1 hS.1 hi ?_
      refine x_bipushN (q := 91) rfl ?_
      refine x_icmpN_ne rfl (fun c6 => ?_) (fun c6 => ?_)
      · exact absurd c6 (by first | decide | omega)
      refine x_iload_n rfl rfl ?_
      refine x_bipushN (q := 8) rfl ?_
      refine x_icmpN_lt rfl (fun c12 => ?_) (fun c12 => ?_)
      · exact absurd c12 (by first | decide | omega)
      refine x_aload_n rfl rfl ?_
      refine x_callV (M' := mi49) (As := []) (bc1 := 0) (bs1 := 0) (bc2 := 0) (bs2 := 0) rfl rfl rfl rfl ok49 rfl rfl (by decide) rfl rfl rfl rfl rfl rfl ?_
      refine x_wrong hA1 hS.1 hi ?_
      refine x_zret rfl rfl (by first | exact Or.inl rfl | exact Or.inr rfl) ?_
      exact hP0 rfl _ (hF.up (by omega)) up_at
    · rw [if_neg c8] at hP hP0 hr
      obtain ⟨d', rfl⟩ : ∃ d', d = d' + 3 := ⟨d - 3, by omega⟩
      by_cases c1 : (prs o tc tv f 5 (dp + 1) (i + 1) p x).1 = 1
      · rw [show pbd (prs o tc tv f 5 (dp + 1) (i + 1) p x) (fun i' p' y => if tc i' = 193 then (1, i' + 1, p', y) else (0, i', p', y)) = (if tc (prs o tc tv f 5 (dp + 1) (i + 1) p x).2.1 = 193 then (1, (prs o tc tv f 5 (dp + 1) (i + 1) p x).2.1 + 1, (prs o tc tv f 5 (dp + 1) (i + 1) p x).2.2.1, (prs o tc tv f 5 (dp + 1) (i + 1) p x).2.2.2) else (0, (prs o tc tv f 5 (dp + 1) (i + 1) p x).2.1, (prs o tc tv f 5 (dp + 1) (i + 1) p x).2.2.1, (prs o tc tv f 5 (dp + 1) (i + 1) p x).2.2.2)) from if_pos c1] at hP hP0
        obtain ⟨o1, o2, o3⟩ := prs_ok (o := o) (tv := tv) hA.2.2.2.2.1 f 5 (dp + 1) (i + 1) p x hin c1
        refine x_aload_n rfl rfl ?_
        refine x_callV (M' := mi48) (As := []) (bc1 := 0) (bs1 := 0) (bc2 := 0) (bs2 := 0) rfl rfl rfl rfl ok48 rfl rfl (by decide) rfl rfl rfl rfl rfl rfl ?_
        refine x_token hA1 hS.1 hi ?_
        refine x_bipushN (q := 91) rfl ?_
        refine x_icmpN_ne rfl (fun c6 => ?_) (fun c6 => ?_)
        · exact absurd c6 (by first | decide | omega)
        refine x_iload_n rfl rfl ?_
        refine x_bipushN (q := 8) rfl ?_
        refine x_icmpN_lt rfl (fun c12 => ?_) (fun c12 => ?_)
        rotate_left
        · exact absurd c12 (by first | decide | omega)
        refine x_aload_n rfl rfl ?_
        refine x_dup rfl rfl ?_
        refine x_getE (y := 5) rfl rfl rfl hS.1 ?_
        refine x_iconstN (q := 1) rfl ?_
        refine x_iaddN rfl ?_
        refine x_putI rfl rfl rfl rfl ?_
        refine x_aload_n rfl rfl ?_
        refine x_iload_n rfl rfl ?_
        refine x_iconstN (q := 1) rfl ?_
        refine x_iaddN rfl ?_
        refine x_callV (M' := mi59) (As := [_]) (bc1 := 0) (bs1 := 0) (bc2 := 0) (bs2 := 0) rfl rfl rfl rfl ok59 rfl rfl (by decide) rfl rfl rfl rfl rfl rfl ?_
        refine h5 (dp + 1) (i + 1) p x _ (d' + 4) l (by omega) (by omega) hin hp (hF.up (by omega)) hS.tok (by omega) (by rw [c1]; omega) _ (fun _ V1 l1 hF1 hk1 g1 b1 sg1 => ?_) (fun z => absurd z (by rw [c1]; omega))
        refine x_ifN_eq rfl (fun c37 => ?_) (fun c37 => ?_)
        · exact absurd c37 (by first | decide | omega)
        skip
        have sg2 : SegC nw (2 * (8 - dp) + 1) wm V1 l l1 (prs o tc tv f 5 (dp + 1) (i + 1) p x).2.2.2 := sg1.mono (by omega)
        have hk2 : ∀ k, k < l → V1 40 k = V 40 k := fun k hk => (hk1 k hk).trans (up_ne2 (by omega))
        have hT2 : ct (prs o tc tv f 5 (dp + 1) (i + 1) p x).2.1 = 93 ↔ tc (prs o tc tv f 5 (dp + 1) (i + 1) p x).2.1 = 193 := (hA.1 _ o2).2.2.1.sign (by omega)
        by_cases c9 : tc (prs o tc tv f 5 (dp + 1) (i + 1) p x).2.1 = 193
        · rw [if_pos c9] at hP
          refine x_aload_n rfl rfl ?_
          refine x_bipushN (q := 93) rfl ?_
          refine x_callV (M' := mi50) (As := [_]) (bc1 := 0) (bs1 := 0) (bc2 := 0) (bs2 := 0) rfl rfl rfl rfl ok50 rfl rfl (by decide) rfl rfl rfl rfl rfl rfl ?_
          refine x_passed1 (hA.fr hF1) g1.1 o2 (hT2.mpr c9) ?_
          refine x_ifN_eq rfl (fun c46 => ?_) (fun c46 => ?_)
          · exact absurd c46 (by first | decide | omega)
          refine x_iconstN (q := 1) rfl ?_
          refine x_goto rfl ?_
          refine x_zret rfl rfl (by first | exact Or.inl rfl | exact Or.inr rfl) ?_
          exact hP rfl _ l1 (hF1.up (by omega)) (fun k hk => (up_ne2 (by omega)).trans (hk2 k hk)) g1.tok (by show l1 + 2 * i ≤ l + 2 * (_ + 1); omega) (sg2.same (fun k _ _ => up_ne2 (by omega)))
        · rw [if_neg c9] at hP0
          refine x_aload_n rfl rfl ?_
          refine x_bipushN (q := 93) rfl ?_
          refine x_callV (M' := mi50) (As := [_]) (bc1 := 0) (bs1 := 0) (bc2 := 0) (bs2 := 0) rfl rfl rfl rfl ok50 rfl rfl (by decide) rfl rfl rfl rfl rfl rfl ?_
          refine x_passedN (hA.fr hF1) g1.1 o2 (by omega) (fun z => c9 (hT2.mp z)) ?_
          refine x_ifN_eq rfl (fun c46 => ?_) (fun c46 => ?_)
          rotate_left
          · exact absurd c46 (by first | decide | omega)
          refine x_iconstN (q := 0) rfl ?_
          refine x_zret rfl rfl (by first | exact Or.inl rfl | exact Or.inr rfl) ?_
          exact hP0 rfl _ (hF1.up (by omega)) up_at
      · rw [pbd_0 c1] at hr hP hP0
        have c0 := ne2_0 hr (prs_c (o := o) (tc := tc) (tv := tv) f 5 (dp + 1) (i + 1) p x hp) c1
        refine x_aload_n rfl rfl ?_
        refine x_callV (M' := mi48) (As := []) (bc1 := 0) (bs1 := 0) (bc2 := 0) (bs2 := 0) rfl rfl rfl rfl ok48 rfl rfl (by decide) rfl rfl rfl rfl rfl rfl ?_
        refine x_token hA1 hS.1 hi ?_
        refine x_bipushN (q := 91) rfl ?_
        refine x_icmpN_ne rfl (fun c6 => ?_) (fun c6 => ?_)
        · exact absurd c6 (by first | decide | omega)
        refine x_iload_n rfl rfl ?_
        refine x_bipushN (q := 8) rfl ?_
        refine x_icmpN_lt rfl (fun c12 => ?_) (fun c12 => ?_)
        rotate_left
        · exact absurd c12 (by first | decide | omega)
        refine x_aload_n rfl rfl ?_
        refine x_dup rfl rfl ?_
        refine x_getE (y := 5) rfl rfl rfl hS.1 ?_
        refine x_iconstN (q := 1) rfl ?_
        refine x_iaddN rfl ?_
        refine x_putI rfl rfl rfl rfl ?_
        refine x_aload_n rfl rfl ?_
        refine x_iload_n rfl rfl ?_
        refine x_iconstN (q := 1) rfl ?_
        refine x_iaddN rfl ?_
        refine x_callV (M' := mi59) (As := [_]) (bc1 := 0) (bs1 := 0) (bc2 := 0) (bs2 := 0) rfl rfl rfl rfl ok59 rfl rfl (by decide) rfl rfl rfl rfl rfl rfl ?_
        refine h5 (dp + 1) (i + 1) p x _ (d' + 4) l (by omega) (by omega) hin hp (hF.up (by omega)) hS.tok (by omega) hr _ (fun z => absurd z c1) (fun _ V1 hF1 g1 => ?_)
        refine x_ifN_eq rfl (fun c37 => ?_) (fun c37 => ?_)
        rotate_left
        · exact absurd c37 (by first | decide | omega)
        refine x_iconstN (q := 0) rfl ?_
        refine x_zret rfl rfl (by first | exact Or.inl rfl | exact Or.inr rfl) ?_
        exact hP0 c0 V1 hF1 g1
  · have e9 : prs o tc tv (f + 1) 9 dp i p x = (if 50 ≤ p then (0, i, p, x)
      else if tc i = 50 ∧ tv i ≤ 1000 then (1, i + 1, p + 1, dNum (tv i))
      else if o = false then (if 8 ≤ tc i ∧ tc i ≤ 16 then (1, i + 1, p + 1, dWord (tc i)) else (0, i, p, x))
      else if tc i = 15 then (if tc (i + 1) = 50 ∧ tv (i + 1) ≤ 23 then (1, i + 2, p + 1, dWord (100 + tv (i + 1))) else (0, i + 1, p, x))
      else if tc i = 20 then (if tc (i + 1) = 50 ∧ tv (i + 1) ≤ 7 then (1, i + 2, p + 1, dWord (200 + tv (i + 1))) else (0, i + 1, p, x))
      else if 16 ≤ tc i ∧ tc i ≤ 19 then (1, i + 1, p + 1, dWord (tc i)) else (0, i, p, x)) := by
      show (if tc i = 191 then _ else _) = _
      rw [if_neg c]
    rw [e9] at hr ⊢
    intro P hP hP0
    by_cases c50 : 50 ≤ p
    · rw [if_pos c50] at hP0
      refine x_aload_n rfl rfl ?_
      refine x_callV (M' := mi48) (As := []) (bc1 := 0) (bs1 := 0) (bc2 := 0) (bs2 := 0) rfl rfl rfl rfl ok48 rfl rfl (by decide) rfl rfl rfl rfl rfl rfl ?_
      refine x_token hA1 hS.1 hi ?_
      refine x_bipushN (q := 91) rfl ?_
      refine x_icmpN_ne rfl (fun c6 => ?_) (fun c6 => ?_)
      rotate_left
      · exact absurd c6 (by first | decide | omega)
      refine x_aload_n rfl rfl ?_
      refine x_getE (y := 6) rfl rfl rfl hS.2.1 ?_
      refine x_bipushN (q := 50) rfl ?_
      refine x_icmpN_lt rfl (fun c61 => ?_) (fun c61 => ?_)
      · exact absurd c61 (by first | decide | omega)
      refine x_aload_n rfl rfl ?_
      refine x_callV (M' := mi49) (As := []) (bc1 := 0) (bs1 := 0) (bc2 := 0) (bs2 := 0) rfl rfl rfl rfl ok49 rfl rfl (by decide) rfl rfl rfl rfl rfl rfl ?_
      refine x_wrong hA1 hS.1 hi ?_
      refine x_zret rfl rfl (by first | exact Or.inl rfl | exact Or.inr rfl) ?_
      exact hP0 rfl _ (hF.up (by omega)) up_at
    rw [if_neg c50] at hP hP0
    have hFp : FrRC V0 (up V 37 6 (nI (p + 1))) := hF.up (by omega)
    have hA2 := hA.fr hFp
    have hS2 : CS i (p + 1) l (up V 37 6 (nI (p + 1))) := hS.part
    have hO2 := hA2.2.2.1
    have hgo : Ex (d + 2) mi61 84 [.ref 37, .int (nI dp), .int (nI (ct i))] [] (LY ++ ext) (up V 37 6 (nI (p + 1))) VL (vr G) 0 0 P → Ex (d + 2) mi61 0 (entL [.ref 37, .int (nI dp)] 3) [] (LY ++ ext) V VL (vr G) 0 0 P := by
      intro hk
      refine x_aload_n rfl rfl ?_
      refine x_callV (M' := mi48) (As := []) (bc1 := 0) (bs1 := 0) (bc2 := 0) (bs2 := 0) rfl rfl rfl rfl ok48 rfl rfl (by decide) rfl rfl rfl rfl rfl rfl ?_
      refine x_token hA1 hS.1 hi ?_
      refine x_bipushN (q := 91) rfl ?_
      refine x_icmpN_ne rfl (fun c6 => ?_) (fun c6 => ?_)
      rotate_left
      · exact absurd c6 (by first | decide | omega)
      refine x_aload_n rfl rfl ?_
      refine x_getE (y := 6) rfl rfl rfl hS.2.1 ?_
      refine x_bipushN (q := 50) rfl ?_
      refine x_icmpN_lt rfl (fun c61 => ?_) (fun c61 => ?_)
      rotate_left
      · exact absurd c61 (by first | decide | omega)
      refine x_aload_n rfl rfl ?_
      refine x_dup rfl rfl ?_
      refine x_getE (y := 6) rfl rfl rfl hS.2.1 ?_
      refine x_iconstN (q := 1) rfl ?_
      refine x_iaddN rfl ?_
      refine x_putI rfl rfl rfl rfl ?_
      refine x_aload_n rfl rfl ?_
      refine x_callV (M' := mi48) (As := []) (bc1 := 0) (bs1 := 0) (bc2 := 0) (bs2 := 0) rfl rfl rfl rfl ok48 rfl rfl (by decide) rfl rfl rfl rfl rfl rfl ?_
      refine x_token hA2 hS2.1 hi ?_
      refine x_istore_n (ls' := [_, _, _]) rfl rfl rfl ?_
      exact hk
    refine hgo ?_
    have hpt : ∀ {x y : Int32} (k : Nat), k < l → (up (up (up (up (up V 37 6 (nI (p + 1))) 37 5 (nI (i + 1))) 40 l x) 40 (l + 1) y) 38 3 (nI (l + 2))) 40 k = V 40 k := fun k hk => by rw [put_lt hk, up_ne2 (by omega), up_ne2 (by omega)]
    by_cases cn : tc i = 50 ∧ tv i ≤ 1000
    · rw [if_pos cn] at hP
      have e1 := n2 cn.1
      refine x_iload_n rfl rfl ?_
      refine x_sipushN (q := 1000) rfl ?_
      refine x_icmpN_lt rfl (fun c88 => ?_) (fun c88 => ?_)
      · exact absurd c88 (by first | decide | omega)
      refine x_iload_n rfl rfl ?_
      refine x_sipushN (q := 2000) rfl ?_
      refine x_icmpN_gt rfl (fun c95 => ?_) (fun c95 => ?_)
      · exact absurd c95 (by first | decide | omega)
      refine x_aload_n rfl rfl ?_
      refine x_dup rfl rfl ?_
      refine x_getE (y := 5) rfl rfl rfl hS2.1 ?_
      refine x_iconstN (q := 1) rfl ?_
      refine x_iaddN rfl ?_
      refine x_putI rfl rfl rfl rfl ?_
      refine x_aload_n rfl rfl ?_
      refine x_getR (u := .ref _) rfl rfl rfl rfl ?_
      refine x_iconstN (q := 1) rfl ?_
      refine x_iload_n rfl rfl ?_
      refine x_sipushN (q := 1000) rfl ?_
      refine x_isubN rfl ?_
      refine x_callV (M' := mi86) (As := [_, _]) (bc1 := 0) (bs1 := 0) (bc2 := 0) (bs2 := 0) rfl rfl rfl rfl ok86 rfl rfl (by decide) rfl rfl rfl rfl rfl rfl ?_
      refine x_putC hS2.tok.2.2.2 (by omega) ?_
      refine x_pop rfl rfl ?_
      refine x_iconstN (q := 1) rfl ?_
      refine x_zret rfl rfl (by first | exact Or.inl rfl | exact Or.inr rfl) ?_
      skip
      refine hP rfl _ (l + 2) (hFp.up (by omega)).put (fun k hk => hpt k hk) hS2.tok.put (by show l + 2 + 2 * i ≤ l + 2 * (i + 1); omega) (SegC.num put_0 ?_ (by omega) (by omega))
      rw [put_1, show ct i - 1000 = tv i by omega]
    rw [if_neg cn] at hP hP0
    have hg2 : Ex (d + 2) mi61 124 [.ref 37, .int (nI dp), .int (nI (ct i))] [] (LY ++ ext) (up V 37 6 (nI (p + 1))) VL (vr G) 0 0 P → Ex (d + 2) mi61 84 [.ref 37, .int (nI dp), .int (nI (ct i))] [] (LY ++ ext) (up V 37 6 (nI (p + 1))) VL (vr G) 0 0 P := by
      intro hk
      by_cases c1 : 1000 ≤ ct i
      · have e1 := n2 (n1.mp c1)
        have e2 : ¬ tv i ≤ 1000 := fun z => cn ⟨n1.mp c1, z⟩
        refine x_iload_n rfl rfl ?_
        refine x_sipushN (q := 1000) rfl ?_
        refine x_icmpN_lt rfl (fun c88 => ?_) (fun c88 => ?_)
        · exact absurd c88 (by first | decide | omega)
        refine x_iload_n rfl rfl ?_
        refine x_sipushN (q := 2000) rfl ?_
        refine x_icmpN_gt rfl (fun c95 => ?_) (fun c95 => ?_)
        rotate_left
        · exact absurd c95 (by first | decide | omega)
        exact hk
      · refine x_iload_n rfl rfl ?_
        refine x_sipushN (q := 1000) rfl ?_
        refine x_icmpN_lt rfl (fun c88 => ?_) (fun c88 => ?_)
        rotate_left
        · exact absurd c88 (by first | decide | omega)
        exact hk
    refine hg2 ?_
    cases o with
    | false =>
      rw [if_pos rfl] at hP hP0
      have hw : wm = lwm := hwm.trans (if_neg (by decide))
      have hn9 : nw = 9 := hnw.trans (if_neg (by decide))
      obtain ⟨t1, t2⟩ := hTR.law
      have hO3 : up V 37 6 (nI (p + 1)) 37 7 = nI 0 := hO2
      by_cases cw : 8 ≤ tc i ∧ tc i ≤ 16
      · rw [if_pos cw] at hP
        have cw2 := t1.mpr cw
        refine x_aload_n rfl rfl ?_
        refine x_getE (y := 7) rfl rfl rfl hO3 ?_
        refine x_ifN_eq rfl (fun c128 => ?_) (fun c128 => ?_)
        rotate_left
        · exact absurd c128 (by first | decide | omega)
        refine x_iload_n rfl rfl ?_
        refine x_sipushN (q := 314) rfl ?_
        refine x_icmpN_lt rfl (fun c141 => ?_) (fun c141 => ?_)
        · exact absurd c141 (by first | decide | omega)
        refine x_iload_n rfl rfl ?_
        refine x_sipushN (q := 322) rfl ?_
        refine x_icmpN_le rfl (fun c148 => ?_) (fun c148 => ?_)
        rotate_left
        · exact absurd c148 (by first | decide | omega)
        refine x_aload_n rfl rfl ?_
        refine x_dup rfl rfl ?_
        refine x_getE (y := 5) rfl rfl rfl hS2.1 ?_
        refine x_iconstN (q := 1) rfl ?_
        refine x_iaddN rfl ?_
        refine x_putI rfl rfl rfl rfl ?_
        refine x_aload_n rfl rfl ?_
        refine x_getR (u := .ref _) rfl rfl rfl rfl ?_
        refine x_iconstN (q := 2) rfl ?_
        refine x_iload_n rfl rfl ?_
        refine x_sipushN (q := 314) rfl ?_
        refine x_isubN rfl ?_
        refine x_callV (M' := mi86) (As := [_, _]) (bc1 := 0) (bs1 := 0) (bc2 := 0) (bs2 := 0) rfl rfl rfl rfl ok86 rfl rfl (by decide) rfl rfl rfl rfl rfl rfl ?_
        refine x_putC hS2.tok.2.2.2 (by omega) ?_
        refine x_pop rfl rfl ?_
        refine x_iconstN (q := 1) rfl ?_
        refine x_zret rfl rfl (by first | exact Or.inl rfl | exact Or.inr rfl) ?_
        skip
        exact hP rfl _ (l + 2) (hFp.up (by omega)).put (fun k hk => hpt k hk) hS2.tok.put (by show l + 2 + 2 * i ≤ l + 2 * (i + 1); omega) (SegC.word put_0 put_1 (by omega) (by omega) (by rw [hw]; exact t2 cw2.1 cw2.2) (by omega))
      · rw [if_neg cw] at hP0
        have hk := hP0 rfl _ (hFp.up (k := 1) (x := nI (pl i)) (by omega)) up_at
        by_cases c14 : 314 ≤ ct i
        · refine x_aload_n rfl rfl ?_
          refine x_getE (y := 7) rfl rfl rfl hO3 ?_
          refine x_ifN_eq rfl (fun c128 => ?_) (fun c128 => ?_)
          rotate_left
          · exact absurd c128 (by first | decide | omega)
          refine x_iload_n rfl rfl ?_
          refine x_sipushN (q := 314) rfl ?_
          refine x_icmpN_lt rfl (fun c141 => ?_) (fun c141 => ?_)
          · exact absurd c141 (by first | decide | omega)
          refine x_iload_n rfl rfl ?_
          refine x_sipushN (q := 322) rfl ?_
          refine x_icmpN_le rfl (fun c148 => ?_) (fun c148 => ?_)
          · exact absurd c148 (by first | decide | omega)
          refine x_aload_n rfl rfl ?_
          refine x_callV (M' := mi49) (As := []) (bc1 := 0) (bs1 := 0) (bc2 := 0) (bs2 := 0) rfl rfl rfl rfl ok49 rfl rfl (by decide) rfl rfl rfl rfl rfl rfl ?_
          refine x_wrong hA2 hS2.1 hi ?_
          refine x_zret rfl rfl (by first | exact Or.inl rfl | exact Or.inr rfl) ?_
          exact hk
        · refine x_aload_n rfl rfl ?_
          refine x_getE (y := 7) rfl rfl rfl hO3 ?_
          refine x_ifN_eq rfl (fun c128 => ?_) (fun c128 => ?_)
          rotate_left
          · exact absurd c128 (by first | decide | omega)
          refine x_iload_n rfl rfl ?_
          refine x_sipushN (q := 314) rfl ?_
          refine x_icmpN_lt rfl (fun c141 => ?_) (fun c141 => ?_)
          rotate_left
          · exact absurd c141 (by first | decide | omega)
          refine x_aload_n rfl rfl ?_
          refine x_callV (M' := mi49) (As := []) (bc1 := 0) (bs1 := 0) (bc2 := 0) (bs2 := 0) rfl rfl rfl rfl ok49 rfl rfl (by decide) rfl rfl rfl rfl rfl rfl ?_
          refine x_wrong hA2 hS2.1 hi ?_
          refine x_zret rfl rfl (by first | exact Or.inl rfl | exact Or.inr rfl) ?_
          exact hk | true =>
      rw [if_neg (by decide)] at hP hP0
      have hw : wm = owm := hwm.trans (if_pos rfl)
      have hn36 : nw = 36 := hnw.trans (if_pos rfl)
      have hO3 : up V 37 6 (nI (p + 1)) 37 7 = nI 1 := hO2
      have w326 : ct i = 326 ↔ tc i = 20 := hTR.word (w := 26) (by omega)
      have w316 : ct i = 316 ↔ tc i = 15 := hTR.word (w := 16) (by omega)
      have w321 : ct i = 321 ↔ tc i = 16 := hTR.word (w := 21) (by omega)
      have w323 : ct i = 323 ↔ tc i = 17 := hTR.word (w := 23) (by omega)
      have w324 : ct i = 324 ↔ tc i = 18 := hTR.word (w := 24) (by omega)
      have w325 : ct i = 325 ↔ tc i = 19 := hTR.word (w := 25) (by omega)
      have hpt2 : ∀ {x y : Int32} (k : Nat), k < l → (up (up (up (up (up (up V 37 6 (nI (p + 1))) 37 5 (nI (i + 1))) 37 5 (nI (i + 1 + 1))) 40 l x) 40 (l + 1) y) 38 3 (nI (l + 2))) 40 k = V 40 k := fun k hk => by rw [put_lt hk, up_ne2 (by omega), up_ne2 (by omega), up_ne2 (by omega)]
      have hin : tc i ≠ 0 → i < N := fun q => Nat.lt_of_not_le (fun z => q (hA.2.2.2.2.1 i z))
      have hnb : tc (i + 1) < 1000 ∧ tv (i + 1) < 100000000 ∧ pl (i + 1) ≤ 400 := hA.2.2.2.2.2 (i + 1)
      by_cases c15 : tc i = 15
      · rw [if_pos c15] at hP hP0
        refine x_aload_n rfl rfl ?_
        refine x_getE (y := 7) rfl rfl rfl hO3 ?_
        refine x_ifN_eq rfl (fun c128 => ?_) (fun c128 => ?_)
        · exact absurd c128 (by first | decide | omega)
        refine x_aload_n rfl rfl ?_
        refine x_iload_n rfl rfl ?_
        refine x_callV (M' := mi62) (As := [_]) (bc1 := 0) (bs1 := 0) (bc2 := 0) (bs2 := 0) rfl rfl rfl rfl ok62 rfl rfl (by decide) rfl rfl rfl rfl rfl rfl ?_
        refine ow_two (hi2 := 23) (b := 12) hA2 hS2 (hin (by omega)) (by omega) (Or.inr ⟨w316.mpr c15, rfl, rfl⟩) (fun h => ?_) (fun h => ?_)
        skip
        · rw [if_pos h] at hP
          refine x_zret rfl rfl (by first | exact Or.inl rfl | exact Or.inr rfl) ?_
          refine hP rfl _ (l + 2) ((hFp.up (by omega)).up (by omega)).put (fun k hk => hpt2 k hk) hS2.tok.tok.put (by show l + 2 + 2 * i ≤ l + 2 * (i + 2); omega) (SegC.word put_0 put_1 (by omega) (by omega) ?_ (by omega))
          rw [hw]
          unfold owm
          rw [if_neg (by omega), if_neg (by omega)]
          omega
        · rw [if_neg h] at hP0
          refine x_zret rfl rfl (by first | exact Or.inl rfl | exact Or.inr rfl) ?_
          exact hP0 rfl _ ((hFp.up (by omega)).up (by omega)) up_at
      rw [if_neg c15] at hP hP0
      by_cases c20 : tc i = 20
      · rw [if_pos c20] at hP hP0
        refine x_aload_n rfl rfl ?_
        refine x_getE (y := 7) rfl rfl rfl hO3 ?_
        refine x_ifN_eq rfl (fun c128 => ?_) (fun c128 => ?_)
        · exact absurd c128 (by first | decide | omega)
        refine x_aload_n rfl rfl ?_
        refine x_iload_n rfl rfl ?_
        refine x_callV (M' := mi62) (As := [_]) (bc1 := 0) (bs1 := 0) (bc2 := 0) (bs2 := 0) rfl rfl rfl rfl ok62 rfl rfl (by decide) rfl rfl rfl rfl rfl rfl ?_
        refine ow_two (hi2 := 7) (b := 4) hA2 hS2 (hin (by omega)) (by omega) (Or.inl ⟨w326.mpr c20, rfl, rfl⟩) (fun h => ?_) (fun h => ?_)
        skip
        · rw [if_pos h] at hP
          refine x_zret rfl rfl (by first | exact Or.inl rfl | exact Or.inr rfl) ?_
          refine hP rfl _ (l + 2) ((hFp.up (by omega)).up (by omega)).put (fun k hk => hpt2 k hk) hS2.tok.tok.put (by show l + 2 + 2 * i ≤ l + 2 * (i + 2); omega) (SegC.word put_0 put_1 (by omega) (by omega) ?_ (by omega))
          rw [hw]
          unfold owm
          rw [if_neg (by omega), if_pos (by omega)]
          omega
        · rw [if_neg h] at hP0
          refine x_zret rfl rfl (by first | exact Or.inl rfl | exact Or.inr rfl) ?_
          exact hP0 rfl _ ((hFp.up (by omega)).up (by omega)) up_at
      rw [if_neg c20] at hP hP0
      by_cases cw : 16 ≤ tc i ∧ tc i ≤ 19
      · rw [if_pos cw] at hP
        refine x_aload_n rfl rfl ?_
        refine x_getE (y := 7) rfl rfl rfl hO3 ?_
        refine x_ifN_eq rfl (fun c128 => ?_) (fun c128 => ?_)
        · exact absurd c128 (by first | decide | omega)
        refine x_aload_n rfl rfl ?_
        refine x_iload_n rfl rfl ?_
        refine x_callV (M' := mi62) (As := [_]) (bc1 := 0) (bs1 := 0) (bc2 := 0) (bs2 := 0) rfl rfl rfl rfl ok62 rfl rfl (by decide) rfl rfl rfl rfl rfl rfl ?_
        refine ow_one hA2 hS2 hi (by omega) (by omega) (fun w hw4 ew => ?_)
        refine x_zret rfl rfl (by first | exact Or.inl rfl | exact Or.inr rfl) ?_
        refine hP rfl _ (l + 2) (hFp.up (by omega)).put (fun k hk => hpt k hk) hS2.tok.put (by show l + 2 + 2 * i ≤ l + 2 * (i + 1); omega) (SegC.word put_0 put_1 (by omega) (by omega) ?_ (by omega))
        rw [hw]
        unfold owm
        rw [if_pos hw4, ew]
        split <;> omega
      · rw [if_neg cw] at hP0
        have hk := hP0 rfl _ (hFp.up (k := 1) (x := nI (pl i)) (by omega)) up_at
        refine x_aload_n rfl rfl ?_
        refine x_getE (y := 7) rfl rfl rfl hO3 ?_
        refine x_ifN_eq rfl (fun c128 => ?_) (fun c128 => ?_)
        · exact absurd c128 (by first | decide | omega)
        refine x_aload_n rfl rfl ?_
        refine x_iload_n rfl rfl ?_
        refine x_callV (M' := mi62) (As := [_]) (bc1 := 0) (bs1 := 0) (bc2 := 0) (bs2 := 0) rfl rfl rfl rfl ok62 rfl rfl (by decide) rfl rfl rfl rfl rfl rfl ?_
        refine ow_bad hA2 hS2 hi (by omega) (by omega) (by omega) (by omega) ?_
        refine x_zret rfl rfl (by first | exact Or.inl rfl | exact Or.inr rfl) ?_
        exact hk
set_option maxRecDepth 20000 in
theorem rc_sums (hA : CkA o N ct tc tv pl V0) (hnw : nw = if o = true then 36 else 9) (hwm : wm = if o = true then owm else lwm) : ∀ f, Rc5 V0 VL G ext o N tc tv pl nw wm f ∧ Rc6 V0 VL G ext o N tc tv pl nw wm f ∧ Rc7 V0 VL G ext o N tc tv pl nw wm f ∧ Rc8 V0 VL G ext o N tc tv pl nw wm f ∧ Rc9 V0 VL G ext o N tc tv pl nw wm f
  | 0 => ⟨fun _ _ _ _ _ _ _ _ _ _ _ _ _ _ hr => absurd rfl hr, fun _ _ _ _ _ _ _ _ _ _ _ _ _ _ _ _ _ _ _ _ _ _ hr => absurd rfl hr, fun _ _ _ _ _ _ _ _ _ _ _ _ _ _ hr => absurd rfl hr, fun _ _ _ _ _ _ _ _ _ _ _ _ _ _ _ _ _ _ _ _ _ _ hr => absurd rfl hr, fun _ _ _ _ _ _ _ _ _ _ _ _ _ _ hr => absurd rfl hr⟩
  | f + 1 => by
    obtain ⟨h5, h6, h7, h8, h9⟩ := rc_sums hA hnw hwm f
    exact ⟨rc5 hA h7 h6, rc6 hA h7 h6, rc7 hA h9 h8, rc8 hA h9 h8, rc9 hA hnw hwm h5⟩
end ReadD
