/-! ===== the model reads parts ===== -/
section Read4
variable {d : Nat} {V0 V : VIT} {VL : VLT} {G : VRT} {P : Post} {ext : HL} {o : Bool} {N f : Nat} {tc tv pl : Nat → Nat}
set_option maxRecDepth 20000 in
theorem rp_151 {i p dp : Nat} {c : Int32} (hA : TkA o N tc tv pl V) (hS : MS i p V) (hi : i ≤ N) (hP : P none (LY ++ ext) (up V 74 21 (nI (pl i))) VL (vr G)) : Ex (d + 4) mi209 151 [.ref 74, .int (nI dp), .int c] [] (LY ++ ext) V VL (vr G) 0 0 P := by
  refine x_aload_n rfl rfl ?_
  refine x_callV (M' := mi195) (As := []) (bc1 := 0) (bs1 := 0) (bc2 := 0) (bs2 := 0) rfl rfl rfl rfl ok195 rfl rfl (by decide) rfl rfl rfl rfl rfl rfl ?_
  refine m_faults1 hA hS hi ?_
  refine x_vret rfl rfl ?_
  exact hP
set_option maxRecDepth 20000 in
theorem rp_74 {i p dp fw lw : Nat} (hA : TkA o N tc tv pl V) (hS : MS i p V) (hi : i ≤ N) (h8 : V 74 8 = nI fw) (h9 : V 74 9 = nI lw) (hw : fw < 50 ∧ lw < 50) (hy : ((tc i = 50 ∧ tv i ≤ 1000) ∨ (fw ≤ tc i ∧ tc i ≤ lw)) → Ex (d + 4) mi209 111 [.ref 74, .int (nI dp), .int (nI (tc i))] [] (LY ++ ext) V VL (vr G) 0 0 P) (hno : ¬ ((tc i = 50 ∧ tv i ≤ 1000) ∨ (fw ≤ tc i ∧ tc i ≤ lw)) → Ex (d + 4) mi209 151 [.ref 74, .int (nI dp), .int (nI (tc i))] [] (LY ++ ext) V VL (vr G) 0 0 P) : Ex (d + 4) mi209 74 [.ref 74, .int (nI dp), .int (nI (tc i))] [] (LY ++ ext) V VL (vr G) 0 0 P := by
  have hN := hA.2.2.2.2.1
  have hc := hA.2.2.2.2.2.2 i
  have h95 : ¬ (tc i = 50 ∧ tv i ≤ 1000) → Ex (d + 4) mi209 95 [.ref 74, .int (nI dp), .int (nI (tc i))] [] (LY ++ ext) V VL (vr G) 0 0 P := by
    intro hn
    by_cases c1 : fw ≤ tc i
    · by_cases c2 : tc i ≤ lw
      · refine x_iload_n rfl rfl ?_
        refine x_aload_n rfl rfl ?_
        refine x_getE (y := 8) rfl rfl rfl h8 ?_
        refine x_icmpN_lt rfl (fun c100 => ?_) (fun c100 => ?_)
        · exact absurd c100 (by first | decide | omega)
        refine x_iload_n rfl rfl ?_
        refine x_aload_n rfl rfl ?_
        refine x_getE (y := 9) rfl rfl rfl h9 ?_
        refine x_icmpN_gt rfl (fun c108 => ?_) (fun c108 => ?_)
        · exact absurd c108 (by first | decide | omega)
        exact hy (Or.inr ⟨c1, c2⟩)
      · refine x_iload_n rfl rfl ?_
        refine x_aload_n rfl rfl ?_
        refine x_getE (y := 8) rfl rfl rfl h8 ?_
        refine x_icmpN_lt rfl (fun c100 => ?_) (fun c100 => ?_)
        · exact absurd c100 (by first | decide | omega)
        refine x_iload_n rfl rfl ?_
        refine x_aload_n rfl rfl ?_
        refine x_getE (y := 9) rfl rfl rfl h9 ?_
        refine x_icmpN_gt rfl (fun c108 => ?_) (fun c108 => ?_)
        rotate_left
        · exact absurd c108 (by first | decide | omega)
        exact hno (fun z => z.elim hn (fun z => c2 z.2))
    · refine x_iload_n rfl rfl ?_
      refine x_aload_n rfl rfl ?_
      refine x_getE (y := 8) rfl rfl rfl h8 ?_
      refine x_icmpN_lt rfl (fun c100 => ?_) (fun c100 => ?_)
      rotate_left
      · exact absurd c100 (by first | decide | omega)
      exact hno (fun z => z.elim hn (fun z => c1 z.1))
  by_cases c5 : tc i = 50
  · by_cases c6 : tv i ≤ 1000
    · refine x_iload_n rfl rfl ?_
      refine x_bipushN (q := 50) rfl ?_
      refine x_icmpN_ne rfl (fun c77 => ?_) (fun c77 => ?_)
      · exact absurd c77 (by first | decide | omega)
      refine x_aload_n rfl rfl ?_
      refine x_getR (u := .ref _) rfl rfl rfl rfl ?_
      refine x_aload_n rfl rfl ?_
      refine x_getE (y := 19) rfl rfl rfl hS.1 ?_
      refine x_ialE (j := i) rfl rfl (rfl) (by omega) ((hA.1 i hi).2.1) ?_
      refine x_sipushN (q := 1000) rfl ?_
      refine x_icmpN_le rfl (fun c92 => ?_) (fun c92 => ?_)
      rotate_left
      · exact absurd c92 (by first | decide | omega)
      exact hy (Or.inl ⟨c5, c6⟩)
    · refine x_iload_n rfl rfl ?_
      refine x_bipushN (q := 50) rfl ?_
      refine x_icmpN_ne rfl (fun c77 => ?_) (fun c77 => ?_)
      · exact absurd c77 (by first | decide | omega)
      refine x_aload_n rfl rfl ?_
      refine x_getR (u := .ref _) rfl rfl rfl rfl ?_
      refine x_aload_n rfl rfl ?_
      refine x_getE (y := 19) rfl rfl rfl hS.1 ?_
      refine x_ialE (j := i) rfl rfl (rfl) (by omega) ((hA.1 i hi).2.1) ?_
      refine x_sipushN (q := 1000) rfl ?_
      refine x_icmpN_le rfl (fun c92 => ?_) (fun c92 => ?_)
      · exact absurd c92 (by first | decide | omega)
      exact h95 (fun z => c6 z.2)
  · refine x_iload_n rfl rfl ?_
    refine x_bipushN (q := 50) rfl ?_
    refine x_icmpN_ne rfl (fun c77 => ?_) (fun c77 => ?_)
    rotate_left
    · exact absurd c77 (by first | decide | omega)
    exact h95 (fun z => c5 z.1)
-- a part that can be read, no room for it
set_option maxRecDepth 20000 in
theorem rp_full {i dp io : Nat} (hA : TkA o N tc tv pl V) (hS : MS i 50 V) (hi : i ≤ N) (h10 : V 74 10 = nI io) (hio : io ≤ 1) (hP : P none (LY ++ ext) (up (up V 74 21 (nI (pl i))) 74 20 (nI 51)) VL (vr G)) : Ex (d + 4) mi209 111 [.ref 74, .int (nI dp), .int (nI (tc i))] [] (LY ++ ext) V VL (vr G) 0 0 P := by
  have hc := hA.2.2.2.2.2.2 i
  have hb : up (up V 74 21 (nI (pl i))) 74 20 (nI 51) 74 21 = nI (pl i) := (up_at' (by omega)).trans up_at
  have h10' : up (up V 74 21 (nI (pl i))) 74 20 (nI 51) 74 10 = nI io := (up_at' (by omega)).trans ((up_at' (by omega)).trans h10)
  have hk : Ex (d + 4) mi209 135 [.ref 74, .int (nI dp), .int (nI (tc i))] [] (LY ++ ext) (up (up V 74 21 (nI (pl i))) 74 20 (nI 51)) VL (vr G) 0 0 P := by
    by_cases c : tc i = 20
    · refine x_iload_n rfl rfl ?_
      refine x_bipushN (q := 20) rfl ?_
      refine x_icmpN_ne rfl (fun c138 => ?_) (fun c138 => ?_)
      · exact absurd c138 (by first | decide | omega)
      refine x_aload_n rfl rfl ?_
      refine x_iconstN (q := 0) rfl ?_
      refine x_bipushN (q := 7) rfl ?_
      refine x_callV (M' := mi200) (As := [_, _]) (bc1 := 0) (bs1 := 0) (bc2 := 0) (bs2 := 0) rfl rfl rfl rfl ok200 rfl rfl (by decide) rfl rfl rfl rfl rfl rfl ?_
      refine m_mnB hb hc.2.2 ?_
      refine x_goto rfl ?_
      refine x_vret rfl rfl ?_
      exact hP
    · refine x_iload_n rfl rfl ?_
      refine x_bipushN (q := 20) rfl ?_
      refine x_icmpN_ne rfl (fun c138 => ?_) (fun c138 => ?_)
      rotate_left
      · exact absurd c138 (by first | decide | omega)
      refine x_vret rfl rfl ?_
      exact hP
  by_cases c1 : io = 1
  · by_cases c2 : tc i = 15
    · refine x_aload_n rfl rfl ?_
      refine x_callV (M' := mi198) (As := []) (bc1 := 0) (bs1 := 0) (bc2 := 0) (bs2 := 0) rfl rfl rfl rfl ok198 rfl rfl (by decide) rfl rfl rfl rfl rfl rfl ?_
      refine m_leafN hA hS hi ?_
      refine x_aload_n rfl rfl ?_
      refine x_getE (y := 10) rfl rfl rfl h10' ?_
      refine x_ifN_eq rfl (fun c119 => ?_) (fun c119 => ?_)
      · exact absurd c119 (by first | decide | omega)
      refine x_iload_n rfl rfl ?_
      refine x_bipushN (q := 15) rfl ?_
      refine x_icmpN_ne rfl (fun c125 => ?_) (fun c125 => ?_)
      · exact absurd c125 (by first | decide | omega)
      refine x_aload_n rfl rfl ?_
      refine x_iconstN (q := 0) rfl ?_
      refine x_bipushN (q := 23) rfl ?_
      refine x_callV (M' := mi200) (As := [_, _]) (bc1 := 0) (bs1 := 0) (bc2 := 0) (bs2 := 0) rfl rfl rfl rfl ok200 rfl rfl (by decide) rfl rfl rfl rfl rfl rfl ?_
      refine m_mnB hb hc.2.2 ?_
      exact hk
    · refine x_aload_n rfl rfl ?_
      refine x_callV (M' := mi198) (As := []) (bc1 := 0) (bs1 := 0) (bc2 := 0) (bs2 := 0) rfl rfl rfl rfl ok198 rfl rfl (by decide) rfl rfl rfl rfl rfl rfl ?_
      refine m_leafN hA hS hi ?_
      refine x_aload_n rfl rfl ?_
      refine x_getE (y := 10) rfl rfl rfl h10' ?_
      refine x_ifN_eq rfl (fun c119 => ?_) (fun c119 => ?_)
      · exact absurd c119 (by first | decide | omega)
      refine x_iload_n rfl rfl ?_
      refine x_bipushN (q := 15) rfl ?_
      refine x_icmpN_ne rfl (fun c125 => ?_) (fun c125 => ?_)
      rotate_left
      · exact absurd c125 (by first | decide | omega)
      exact hk
  · refine x_aload_n rfl rfl ?_
    refine x_callV (M' := mi198) (As := []) (bc1 := 0) (bs1 := 0) (bc2 := 0) (bs2 := 0) rfl rfl rfl rfl ok198 rfl rfl (by decide) rfl rfl rfl rfl rfl rfl ?_
    refine m_leafN hA hS hi ?_
    refine x_aload_n rfl rfl ?_
    refine x_getE (y := 10) rfl rfl rfl h10' ?_
    refine x_ifN_eq rfl (fun c119 => ?_) (fun c119 => ?_)
    rotate_left
    · exact absurd c119 (by first | decide | omega)
    exact hk
-- a part without a number behind it
set_option maxRecDepth 20000 in
theorem rp_one {i p dp io : Nat} (hA : TkA o N tc tv pl V) (hS : MS i p V) (hi : i ≤ N) (hp : p < 50) (h10 : V 74 10 = nI io) (hio : io ≤ 1) (h15 : ¬ (io = 1 ∧ tc i = 15)) (h20 : tc i ≠ 20) (hP : P none (LY ++ ext) (up (up V 74 20 (nI (p + 1))) 74 19 (nI (i + 1))) VL (vr G)) : Ex (d + 4) mi209 111 [.ref 74, .int (nI dp), .int (nI (tc i))] [] (LY ++ ext) V VL (vr G) 0 0 P := by
  have hN := hA.2.2.2.2.1
  have hc := hA.2.2.2.2.2.2 i
  have h10' : up (up V 74 20 (nI (p + 1))) 74 19 (nI (i + 1)) 74 10 = nI io := (up_at' (by omega)).trans ((up_at' (by omega)).trans h10)
  by_cases c1 : io = 1
  · refine x_aload_n rfl rfl ?_
    refine x_callV (M' := mi198) (As := []) (bc1 := 0) (bs1 := 0) (bc2 := 0) (bs2 := 0) rfl rfl rfl rfl ok198 rfl rfl (by decide) rfl rfl rfl rfl rfl rfl ?_
    refine m_leaf1 hS hp (by omega) ?_
    refine x_aload_n rfl rfl ?_
    refine x_getE (y := 10) rfl rfl rfl h10' ?_
    refine x_ifN_eq rfl (fun c119 => ?_) (fun c119 => ?_)
    · exact absurd c119 (by first | decide | omega)
    refine x_iload_n rfl rfl ?_
    refine x_bipushN (q := 15) rfl ?_
    refine x_icmpN_ne rfl (fun c125 => ?_) (fun c125 => ?_)
    rotate_left
    · exact absurd c125 (by first | decide | omega)
    refine x_iload_n rfl rfl ?_
    refine x_bipushN (q := 20) rfl ?_
    refine x_icmpN_ne rfl (fun c138 => ?_) (fun c138 => ?_)
    rotate_left
    · exact absurd c138 (by first | decide | omega)
    refine x_vret rfl rfl ?_
    exact hP
  · refine x_aload_n rfl rfl ?_
    refine x_callV (M' := mi198) (As := []) (bc1 := 0) (bs1 := 0) (bc2 := 0) (bs2 := 0) rfl rfl rfl rfl ok198 rfl rfl (by decide) rfl rfl rfl rfl rfl rfl ?_
    refine m_leaf1 hS hp (by omega) ?_
    refine x_aload_n rfl rfl ?_
    refine x_getE (y := 10) rfl rfl rfl h10' ?_
    refine x_ifN_eq rfl (fun c119 => ?_) (fun c119 => ?_)
    rotate_left
    · exact absurd c119 (by first | decide | omega)
    refine x_iload_n rfl rfl ?_
    refine x_bipushN (q := 20) rfl ?_
    refine x_icmpN_ne rfl (fun c138 => ?_) (fun c138 => ?_)
    rotate_left
    · exact absurd c138 (by first | decide | omega)
    refine x_vret rfl rfl ?_
    exact hP
set_option maxRecDepth 20000 in
theorem MS.leaf {i p : Nat} (h : MS i p V) : MS (i + 1) (p + 1) (up (up V 74 20 (nI (p + 1))) 74 19 (nI (i + 1))) := ⟨up_at, (up_at' (by omega)).trans up_at, (up_at' (by omega)).trans ((up_at' (by omega)).trans h.2.2)⟩
-- a part with a number behind it
set_option maxRecDepth 20000 in
theorem rp_two {i p dp hi : Nat} (hA : TkA true N tc tv pl V) (hS : MS i p V) (hin : i < N) (hp : p < 50) (hq : (tc i = 15 ∧ hi = 23) ∨ (tc i = 20 ∧ hi = 7)) (h1 : tc (i + 1) = 50 ∧ tv (i + 1) ≤ hi → P none (LY ++ ext) (up (up (up V 74 20 (nI (p + 1))) 74 19 (nI (i + 1))) 74 19 (nI (i + 1 + 1))) VL (vr G)) (h2 : ¬ (tc (i + 1) = 50 ∧ tv (i + 1) ≤ hi) → P none (LY ++ ext) (up (up (up V 74 20 (nI (p + 1))) 74 19 (nI (i + 1))) 74 21 (nI (pl (i + 1)))) VL (vr G)) : Ex (d + 4) mi209 111 [.ref 74, .int (nI dp), .int (nI (tc i))] [] (LY ++ ext) V VL (vr G) 0 0 P := by
  have hN := hA.2.2.2.2.1
  have hF : FrRM V (up (up V 74 20 (nI (p + 1))) 74 19 (nI (i + 1))) := (FrRM.refl.up (by omega)).up (by omega)
  have hA1 := hA.fr hF
  have hS1 := hS.leaf
  have h10' : up (up V 74 20 (nI (p + 1))) 74 19 (nI (i + 1)) 74 10 = nI 1 := hA1.2.2.2.1
  rcases hq with ⟨q1, q2⟩ | ⟨q1, q2⟩
  · subst q2
    by_cases c : tc (i + 1) = 50 ∧ tv (i + 1) ≤ 23
    · refine x_aload_n rfl rfl ?_
      refine x_callV (M' := mi198) (As := []) (bc1 := 0) (bs1 := 0) (bc2 := 0) (bs2 := 0) rfl rfl rfl rfl ok198 rfl rfl (by decide) rfl rfl rfl rfl rfl rfl ?_
      refine m_leaf1 hS hp (by omega) ?_
      refine x_aload_n rfl rfl ?_
      refine x_getE (y := 10) rfl rfl rfl h10' ?_
      refine x_ifN_eq rfl (fun c119 => ?_) (fun c119 => ?_)
      · exact absurd c119 (by first | decide | omega)
      refine x_iload_n rfl rfl ?_
      refine x_bipushN (q := 15) rfl ?_
      refine x_icmpN_ne rfl (fun c125 => ?_) (fun c125 => ?_)
      · exact absurd c125 (by first | decide | omega)
      refine x_aload_n rfl rfl ?_
      refine x_iconstN (q := 0) rfl ?_
      refine x_bipushN (q := 23) rfl ?_
      refine x_callV (M' := mi200) (As := [_, _]) (bc1 := 0) (bs1 := 0) (bc2 := 0) (bs2 := 0) rfl rfl rfl rfl ok200 rfl rfl (by decide) rfl rfl rfl rfl rfl rfl ?_
      refine m_mn1 hA1 hS1 hin (by omega) c.1 ⟨by omega, c.2⟩ ?_
      refine x_iload_n rfl rfl ?_
      refine x_bipushN (q := 20) rfl ?_
      refine x_icmpN_ne rfl (fun c138 => ?_) (fun c138 => ?_)
      rotate_left
      · exact absurd c138 (by first | decide | omega)
      refine x_vret rfl rfl ?_
      exact h1 c
    · refine x_aload_n rfl rfl ?_
      refine x_callV (M' := mi198) (As := []) (bc1 := 0) (bs1 := 0) (bc2 := 0) (bs2 := 0) rfl rfl rfl rfl ok198 rfl rfl (by decide) rfl rfl rfl rfl rfl rfl ?_
      refine m_leaf1 hS hp (by omega) ?_
      refine x_aload_n rfl rfl ?_
      refine x_getE (y := 10) rfl rfl rfl h10' ?_
      refine x_ifN_eq rfl (fun c119 => ?_) (fun c119 => ?_)
      · exact absurd c119 (by first | decide | omega)
      refine x_iload_n rfl rfl ?_
      refine x_bipushN (q := 15) rfl ?_
      refine x_icmpN_ne rfl (fun c125 => ?_) (fun c125 => ?_)
      · exact absurd c125 (by first | decide | omega)
      refine x_aload_n rfl rfl ?_
      refine x_iconstN (q := 0) rfl ?_
      refine x_bipushN (q := 23) rfl ?_
      refine x_callV (M' := mi200) (As := [_, _]) (bc1 := 0) (bs1 := 0) (bc2 := 0) (bs2 := 0) rfl rfl rfl rfl ok200 rfl rfl (by decide) rfl rfl rfl rfl rfl rfl ?_
      refine m_mnN hA1 hS1 hin (by omega) (by omega) (fun z => c ⟨z.1, z.2.2⟩) ?_
      refine x_iload_n rfl rfl ?_
      refine x_bipushN (q := 20) rfl ?_
      refine x_icmpN_ne rfl (fun c138 => ?_) (fun c138 => ?_)
      rotate_left
      · exact absurd c138 (by first | decide | omega)
      refine x_vret rfl rfl ?_
      exact h2 c
  · subst q2
    by_cases c : tc (i + 1) = 50 ∧ tv (i + 1) ≤ 7
    · refine x_aload_n rfl rfl ?_
      refine x_callV (M' := mi198) (As := []) (bc1 := 0) (bs1 := 0) (bc2 := 0) (bs2 := 0) rfl rfl rfl rfl ok198 rfl rfl (by decide) rfl rfl rfl rfl rfl rfl ?_
      refine m_leaf1 hS hp (by omega) ?_
      refine x_aload_n rfl rfl ?_
      refine x_getE (y := 10) rfl rfl rfl h10' ?_
      refine x_ifN_eq rfl (fun c119 => ?_) (fun c119 => ?_)
      · exact absurd c119 (by first | decide | omega)
      refine x_iload_n rfl rfl ?_
      refine x_bipushN (q := 15) rfl ?_
      refine x_icmpN_ne rfl (fun c125 => ?_) (fun c125 => ?_)
      rotate_left
      · exact absurd c125 (by first | decide | omega)
      refine x_iload_n rfl rfl ?_
      refine x_bipushN (q := 20) rfl ?_
      refine x_icmpN_ne rfl (fun c138 => ?_) (fun c138 => ?_)
      · exact absurd c138 (by first | decide | omega)
      refine x_aload_n rfl rfl ?_
      refine x_iconstN (q := 0) rfl ?_
      refine x_bipushN (q := 7) rfl ?_
      refine x_callV (M' := mi200) (As := [_, _]) (bc1 := 0) (bs1 := 0) (bc2 := 0) (bs2 := 0) rfl rfl rfl rfl ok200 rfl rfl (by decide) rfl rfl rfl rfl rfl rfl ?_
      refine m_mn1 hA1 hS1 hin (by omega) c.1 ⟨by omega, c.2⟩ ?_
      refine x_goto rfl ?_
      refine x_vret rfl rfl ?_
      exact h1 c
    · refine x_aload_n rfl rfl ?_
      refine x_callV (M' := mi198) (As := []) (bc1 := 0) (bs1 := 0) (bc2 := 0) (bs2 := 0) rfl rfl rfl rfl ok198 rfl rfl (by decide) rfl rfl rfl rfl rfl rfl ?_
      refine m_leaf1 hS hp (by omega) ?_
      refine x_aload_n rfl rfl ?_
      refine x_getE (y := 10) rfl rfl rfl h10' ?_
      refine x_ifN_eq rfl (fun c119 => ?_) (fun c119 => ?_)
      · exact absurd c119 (by first | decide | omega)
      refine x_iload_n rfl rfl ?_
      refine x_bipushN (q := 15) rfl ?_
      refine x_icmpN_ne rfl (fun c125 => ?_) (fun c125 => ?_)
      rotate_left
      · exact absurd c125 (by first | decide | omega)
      refine x_iload_n rfl rfl ?_
      refine x_bipushN (q := 20) rfl ?_
      refine x_icmpN_ne rfl (fun c138 => ?_) (fun c138 => ?_)
      · exact absurd c138 (by first | decide | omega)
      refine x_aload_n rfl rfl ?_
      refine x_iconstN (q := 0) rfl ?_
      refine x_bipushN (q := 7) rfl ?_
      refine x_callV (M' := mi200) (As := [_, _]) (bc1 := 0) (bs1 := 0) (bc2 := 0) (bs2 := 0) rfl rfl rfl rfl ok200 rfl rfl (by decide) rfl rfl rfl rfl rfl rfl ?_
      refine m_mnN hA1 hS1 hin (by omega) (by omega) (fun z => c ⟨z.1, z.2.2⟩) ?_
      refine x_goto rfl ?_
      refine x_vret rfl rfl ?_
      exact h2 c
set_option maxRecDepth 20000 in
theorem rd9 (hA : TkA o N tc tv pl V0) (h5 : Rd5 V0 VL G ext o N tc tv pl f) : Rd9 V0 VL G ext o N tc tv pl (f + 1) := by
  intro dp i p x V D hd hD hi hp hF hS hr
  have hA1 := hA.fr hF
  have hN := hA.2.2.2.2.1
  have hpl := fun j => (hA.2.2.2.2.2.2 j).2.2
  have hci := (hA.2.2.2.2.2.2 i).1
  obtain ⟨d, rfl⟩ : ∃ d, D = d + 4 := ⟨D - 4, by omega⟩
  by_cases c : tc i = 191
  · have hin : i < N := Nat.lt_of_not_le (fun z => by have := hA.2.2.2.2.2.1 i z; omega)
    have e9 : prs o tc tv (f + 1) 9 dp i p x = if 8 ≤ dp then (0, i, p, x) else pbd (prs o tc tv f 5 (dp + 1) (i + 1) p x) (fun i' p' y => if tc i' = 193 then (1, i' + 1, p', y) else (0, i', p', y)) := by
      show (if tc i = 191 then _ else _) = _
      rw [if_pos c]
    rw [e9] at hr ⊢
    intro P hP
    by_cases c8 : 8 ≤ dp
    · rw [if_pos c8] at hP
      refine x_aload_n rfl rfl ?_
      refine x_callV (M' := mi194) (As := []) (bc1 := 0) (bs1 := 0) (bc2 := 0) (bs2 := 0) rfl rfl rfl rfl ok194 rfl rfl (by decide) rfl rfl rfl rfl rfl rfl ?_
      refine m_fine1 hS.2.2 ?_
      refine x_ifN_ne rfl (fun c4 => ?_) (fun c4 => ?_)
      rotate_left
      · exact absurd c4 (by first | decide | omega)
      refine x_aload_n rfl rfl ?_
      refine x_getR (u := .ref _) rfl rfl rfl rfl ?_
      refine x_aload_n rfl rfl ?_
      refine x_getE (y := 19) rfl rfl rfl hS.1 ?_
      refine x_ialE (j := i) rfl rfl (rfl) (by omega) ((hA1.1 i hi).1) ?_
      refine x_istore_n (ls' := [_, _, _]) rfl rfl rfl ?_
      refine x_iload_n rfl rfl ?_
      refine x_bipushN (q := 91) rfl ?_
      refine x_callS (M' := mi199) (As := [_]) (bc1 := 0) (bs1 := 0) (bc2 := 0) (bs2 := 0) rfl rfl rfl rfl ok199 rfl rfl rfl rfl rfl rfl ?_
      refine m_sign (by omega) ?_
      refine x_icmpN_ne rfl (fun c24 => ?_) (fun c24 => ?_)
      · exact absurd c24 (by first | decide | omega)
      refine x_iload_n rfl rfl ?_
      refine x_bipushN (q := 8) rfl ?_
      refine x_icmpN_ne rfl (fun c30 => ?_) (fun c30 => ?_)
      · exact absurd c30 (by first | decide | omega)
      refine x_aload_n rfl rfl ?_
      refine x_callV (M' := mi195) (As := []) (bc1 := 0) (bs1 := 0) (bc2 := 0) (bs2 := 0) rfl rfl rfl rfl ok195 rfl rfl (by decide) rfl rfl rfl rfl rfl rfl ?_
      refine m_faults1 hA1 hS hi ?_
      refine x_aload_n rfl rfl ?_
      refine x_callV (M' := mi194) (As := []) (bc1 := 0) (bs1 := 0) (bc2 := 0) (bs2 := 0) rfl rfl rfl rfl ok194 rfl rfl (by decide) rfl rfl rfl rfl rfl rfl ?_
      refine m_fine0 up_at (hpl i) ?_
      refine x_ifN_ne rfl (fun c41 => ?_) (fun c41 => ?_)
      · exact absurd c41 (by first | decide | omega)
      refine x_vret rfl rfl ?_
      exact hP _ (hF.up (by omega)) (fun z => absurd z (by show ¬ 0 = 1; omega)) (fun _ => up_at)
    · rw [if_neg c8] at hP hr
      obtain ⟨d', rfl⟩ : ∃ d', d = d' + 3 := ⟨d - 3, by omega⟩
      by_cases c1 : (prs o tc tv f 5 (dp + 1) (i + 1) p x).1 = 1
      · rw [show pbd (prs o tc tv f 5 (dp + 1) (i + 1) p x) (fun i' p' y => if tc i' = 193 then (1, i' + 1, p', y) else (0, i', p', y)) = (if tc (prs o tc tv f 5 (dp + 1) (i + 1) p x).2.1 = 193 then (1, (prs o tc tv f 5 (dp + 1) (i + 1) p x).2.1 + 1, (prs o tc tv f 5 (dp + 1) (i + 1) p x).2.2.1, (prs o tc tv f 5 (dp + 1) (i + 1) p x).2.2.2) else (0, (prs o tc tv f 5 (dp + 1) (i + 1) p x).2.1, (prs o tc tv f 5 (dp + 1) (i + 1) p x).2.2.1, (prs o tc tv f 5 (dp + 1) (i + 1) p x).2.2.2)) from if_pos c1] at hP
        obtain ⟨o1, o2, o3⟩ := prs_ok (o := o) (tv := tv) hA.2.2.2.2.2.1 f 5 (dp + 1) (i + 1) p x hin c1
        refine x_aload_n rfl rfl ?_
        refine x_callV (M' := mi194) (As := []) (bc1 := 0) (bs1 := 0) (bc2 := 0) (bs2 := 0) rfl rfl rfl rfl ok194 rfl rfl (by decide) rfl rfl rfl rfl rfl rfl ?_
        refine m_fine1 hS.2.2 ?_
        refine x_ifN_ne rfl (fun c4 => ?_) (fun c4 => ?_)
        rotate_left
        · exact absurd c4 (by first | decide | omega)
        refine x_aload_n rfl rfl ?_
        refine x_getR (u := .ref _) rfl rfl rfl rfl ?_
        refine x_aload_n rfl rfl ?_
        refine x_getE (y := 19) rfl rfl rfl hS.1 ?_
        refine x_ialE (j := i) rfl rfl (rfl) (by omega) ((hA1.1 i hi).1) ?_
        refine x_istore_n (ls' := [_, _, _]) rfl rfl rfl ?_
        refine x_iload_n rfl rfl ?_
        refine x_bipushN (q := 91) rfl ?_
        refine x_callS (M' := mi199) (As := [_]) (bc1 := 0) (bs1 := 0) (bc2 := 0) (bs2 := 0) rfl rfl rfl rfl ok199 rfl rfl rfl rfl rfl rfl ?_
        refine m_sign (by omega) ?_
        refine x_icmpN_ne rfl (fun c24 => ?_) (fun c24 => ?_)
        · exact absurd c24 (by first | decide | omega)
        refine x_iload_n rfl rfl ?_
        refine x_bipushN (q := 8) rfl ?_
        refine x_icmpN_ne rfl (fun c30 => ?_) (fun c30 => ?_)
        rotate_left
        · exact absurd c30 (by first | decide | omega)
        refine x_aload_n rfl rfl ?_
        refine x_callV (M' := mi194) (As := []) (bc1 := 0) (bs1 := 0) (bc2 := 0) (bs2 := 0) rfl rfl rfl rfl ok194 rfl rfl (by decide) rfl rfl rfl rfl rfl rfl ?_
        refine m_fine1 hS.2.2 ?_
        refine x_ifN_ne rfl (fun c41 => ?_) (fun c41 => ?_)
        rotate_left
        · exact absurd c41 (by first | decide | omega)
        refine x_aload_n rfl rfl ?_
        refine x_dup rfl rfl ?_
        refine x_getE (y := 19) rfl rfl rfl hS.1 ?_
        refine x_iconstN (q := 1) rfl ?_
        refine x_iaddN rfl ?_
        refine x_putI rfl rfl rfl rfl ?_
        refine x_aload_n rfl rfl ?_
        refine x_iload_n rfl rfl ?_
        refine x_iconstN (q := 1) rfl ?_
        refine x_iaddN rfl ?_
        refine x_callV (M' := mi207) (As := [_]) (bc1 := 0) (bs1 := 0) (bc2 := 0) (bs2 := 0) rfl rfl rfl rfl ok207 rfl rfl (by decide) rfl rfl rfl rfl rfl rfl ?_
        refine h5 (dp + 1) (i + 1) p x _ (d' + 6) (by omega) (by omega) hin hp (hF.up (by omega)) hS.tok (by rw [c1]; omega) _ (fun V' hF' g1 g0 => ?_)
        skip
        by_cases c9 : tc (prs o tc tv f 5 (dp + 1) (i + 1) p x).2.1 = 193
        · rw [if_pos c9] at hP
          refine x_aload_n rfl rfl ?_
          refine x_bipushN (q := 93) rfl ?_
          refine x_callS (M' := mi199) (As := [_]) (bc1 := 0) (bs1 := 0) (bc2 := 0) (bs2 := 0) rfl rfl rfl rfl ok199 rfl rfl rfl rfl rfl rfl ?_
          refine m_sign (by omega) ?_
          refine x_callV (M' := mi197) (As := [_]) (bc1 := 0) (bs1 := 0) (bc2 := 0) (bs2 := 0) rfl rfl rfl rfl ok197 rfl rfl (by decide) rfl rfl rfl rfl rfl rfl ?_
          refine m_must1 (hA.fr hF') (g1 c1) o2 c9 ?_
          refine x_goto rfl ?_
          refine x_vret rfl rfl ?_
          exact hP _ (hF'.up (by omega)) (fun _ => (g1 c1).tok) (fun z => absurd z (by show ¬ 1 = 0; omega))
        · rw [if_neg c9] at hP
          refine x_aload_n rfl rfl ?_
          refine x_bipushN (q := 93) rfl ?_
          refine x_callS (M' := mi199) (As := [_]) (bc1 := 0) (bs1 := 0) (bc2 := 0) (bs2 := 0) rfl rfl rfl rfl ok199 rfl rfl rfl rfl rfl rfl ?_
          refine m_sign (by omega) ?_
          refine x_callV (M' := mi197) (As := [_]) (bc1 := 0) (bs1 := 0) (bc2 := 0) (bs2 := 0) rfl rfl rfl rfl ok197 rfl rfl (by decide) rfl rfl rfl rfl rfl rfl ?_
          refine m_mustN (hA.fr hF') (g1 c1) o2 (by omega) c9 ?_
          refine x_goto rfl ?_
          refine x_vret rfl rfl ?_
          exact hP _ (hF'.up (by omega)) (fun z => absurd z (by show ¬ 0 = 1; omega)) (fun _ => up_at)
      · rw [pbd_0 c1] at hr hP
        have c0 : (prs o tc tv f 5 (dp + 1) (i + 1) p x).1 = 0 := by
          have := (prs_c (o := o) (tc := tc) (tv := tv) f 5 (dp + 1) (i + 1) p x hp).2
          omega
        refine x_aload_n rfl rfl ?_
        refine x_callV (M' := mi194) (As := []) (bc1 := 0) (bs1 := 0) (bc2 := 0) (bs2 := 0) rfl rfl rfl rfl ok194 rfl rfl (by decide) rfl rfl rfl rfl rfl rfl ?_
        refine m_fine1 hS.2.2 ?_
        refine x_ifN_ne rfl (fun c4 => ?_) (fun c4 => ?_)
        rotate_left
        · exact absurd c4 (by first | decide | omega)
        refine x_aload_n rfl rfl ?_
        refine x_getR (u := .ref _) rfl rfl rfl rfl ?_
        refine x_aload_n rfl rfl ?_
        refine x_getE (y := 19) rfl rfl rfl hS.1 ?_
        refine x_ialE (j := i) rfl rfl (rfl) (by omega) ((hA1.1 i hi).1) ?_
        refine x_istore_n (ls' := [_, _, _]) rfl rfl rfl ?_
        refine x_iload_n rfl rfl ?_
        refine x_bipushN (q := 91) rfl ?_
        refine x_callS (M' := mi199) (As := [_]) (bc1 := 0) (bs1 := 0) (bc2 := 0) (bs2 := 0) rfl rfl rfl rfl ok199 rfl rfl rfl rfl rfl rfl ?_
        refine m_sign (by omega) ?_
        refine x_icmpN_ne rfl (fun c24 => ?_) (fun c24 => ?_)
        · exact absurd c24 (by first | decide | omega)
        refine x_iload_n rfl rfl ?_
        refine x_bipushN (q := 8) rfl ?_
        refine x_icmpN_ne rfl (fun c30 => ?_) (fun c30 => ?_)
        rotate_left
        · exact absurd c30 (by first | decide | omega)
        refine x_aload_n rfl rfl ?_
        refine x_callV (M' := mi194) (As := []) (bc1 := 0) (bs1 := 0) (bc2 := 0) (bs2 := 0) rfl rfl rfl rfl ok194 rfl rfl (by decide) rfl rfl rfl rfl rfl rfl ?_
        refine m_fine1 hS.2.2 ?_
        refine x_ifN_ne rfl (fun c41 => ?_) (fun c41 => ?_)
        rotate_left
        · exact absurd c41 (by first | decide | omega)
        refine x_aload_n rfl rfl ?_
        refine x_dup rfl rfl ?_
        refine x_getE (y := 19) rfl rfl rfl hS.1 ?_
        refine x_iconstN (q := 1) rfl ?_
        refine x_iaddN rfl ?_
        refine x_putI rfl rfl rfl rfl ?_
        refine x_aload_n rfl rfl ?_
        refine x_iload_n rfl rfl ?_
        refine x_iconstN (q := 1) rfl ?_
        refine x_iaddN rfl ?_
        refine x_callV (M' := mi207) (As := [_]) (bc1 := 0) (bs1 := 0) (bc2 := 0) (bs2 := 0) rfl rfl rfl rfl ok207 rfl rfl (by decide) rfl rfl rfl rfl rfl rfl ?_
        refine h5 (dp + 1) (i + 1) p x _ (d' + 6) (by omega) (by omega) hin hp (hF.up (by omega)) hS.tok hr _ (fun V' hF' g1 g0 => ?_)
        refine x_aload_n rfl rfl ?_
        refine x_bipushN (q := 93) rfl ?_
        refine x_callS (M' := mi199) (As := [_]) (bc1 := 0) (bs1 := 0) (bc2 := 0) (bs2 := 0) rfl rfl rfl rfl ok199 rfl rfl rfl rfl rfl rfl ?_
        refine m_sign (by omega) ?_
        refine x_callV (M' := mi197) (As := [_]) (bc1 := 0) (bs1 := 0) (bc2 := 0) (bs2 := 0) rfl rfl rfl rfl ok197 rfl rfl (by decide) rfl rfl rfl rfl rfl rfl ?_
        refine m_mustB (g0 c0) (hpl _) ?_
        refine x_goto rfl ?_
        refine x_vret rfl rfl ?_
        exact hP V' hF' g1 g0
  · intro P hP
    have hgo : Ex (d + 4) mi209 74 [.ref 74, .int (nI dp), .int (nI (tc i))] [] (LY ++ ext) V VL (vr G) 0 0 P → Ex (d + 4) mi209 0 (entL [.ref 74, .int (nI dp)] 3) [] (LY ++ ext) V VL (vr G) 0 0 P := by
      intro hk
      refine x_aload_n rfl rfl ?_
      refine x_callV (M' := mi194) (As := []) (bc1 := 0) (bs1 := 0) (bc2 := 0) (bs2 := 0) rfl rfl rfl rfl ok194 rfl rfl (by decide) rfl rfl rfl rfl rfl rfl ?_
      refine m_fine1 hS.2.2 ?_
      refine x_ifN_ne rfl (fun c4 => ?_) (fun c4 => ?_)
      rotate_left
      · exact absurd c4 (by first | decide | omega)
      refine x_aload_n rfl rfl ?_
      refine x_getR (u := .ref _) rfl rfl rfl rfl ?_
      refine x_aload_n rfl rfl ?_
      refine x_getE (y := 19) rfl rfl rfl hS.1 ?_
      refine x_ialE (j := i) rfl rfl (rfl) (by omega) ((hA1.1 i hi).1) ?_
      refine x_istore_n (ls' := [_, _, _]) rfl rfl rfl ?_
      refine x_iload_n rfl rfl ?_
      refine x_bipushN (q := 91) rfl ?_
      refine x_callS (M' := mi199) (As := [_]) (bc1 := 0) (bs1 := 0) (bc2 := 0) (bs2 := 0) rfl rfl rfl rfl ok199 rfl rfl rfl rfl rfl rfl ?_
      refine m_sign (by omega) ?_
      refine x_icmpN_ne rfl (fun c24 => ?_) (fun c24 => ?_)
      rotate_left
      · exact absurd c24 (by first | decide | omega)
      exact hk
    have hbad : (prs o tc tv (f + 1) 9 dp i p x).1 = 0 → (prs o tc tv (f + 1) 9 dp i p x).2.1 = i → P none (LY ++ ext) (up V 74 21 (nI (pl i))) VL (vr G) := fun q1 q2 => hP _ (hF.up (by omega)) (fun z => absurd z (by rw [q1]; omega)) (fun _ => by rw [q2]; exact up_at)
    have hone : prs o tc tv (f + 1) 9 dp i p x = (1, i + 1, p + 1, (prs o tc tv (f + 1) 9 dp i p x).2.2.2) → P none (LY ++ ext) (up (up V 74 20 (nI (p + 1))) 74 19 (nI (i + 1))) VL (vr G) := fun q => hP _ ((hF.up (by omega)).up (by omega)) (fun _ => by rw [q]; exact hS.leaf) (fun z => absurd z (by rw [q]; show ¬ 1 = 0; omega))
    have e9 : prs o tc tv (f + 1) 9 dp i p x = (if 50 ≤ p then (0, i, p, x)
      else if tc i = 50 ∧ tv i ≤ 1000 then (1, i + 1, p + 1, dNum (tv i))
      else if o = false then (if 8 ≤ tc i ∧ tc i ≤ 16 then (1, i + 1, p + 1, dWord (tc i)) else (0, i, p, x))
      else if tc i = 15 then (if tc (i + 1) = 50 ∧ tv (i + 1) ≤ 23 then (1, i + 2, p + 1, dWord (100 + tv (i + 1))) else (0, i + 1, p, x))
      else if tc i = 20 then (if tc (i + 1) = 50 ∧ tv (i + 1) ≤ 7 then (1, i + 2, p + 1, dWord (200 + tv (i + 1))) else (0, i + 1, p, x))
      else if 16 ≤ tc i ∧ tc i ≤ 19 then (1, i + 1, p + 1, dWord (tc i)) else (0, i, p, x)) := by
      show (if tc i = 191 then _ else _) = _
      rw [if_neg c]
    refine hgo ?_
    by_cases c50 : 50 ≤ p
    · have ep : p = 50 := by omega
      subst ep
      rw [if_pos c50] at e9
      have hb := hbad (by rw [e9]) (by rw [e9])
      have hfull : P none (LY ++ ext) (up (up V 74 21 (nI (pl i))) 74 20 (nI 51)) VL (vr G) := hP _ ((hF.up (by omega)).up (by omega)) (fun z => absurd z (by rw [e9]; show ¬ 0 = 1; omega)) (fun _ => by rw [e9]; exact (up_at' (by omega)).trans up_at)
      cases o with
      | false => exact rp_74 (fw := 8) (lw := 16) hA1 hS hi hA1.2.1 hA1.2.2.1 (by omega) (fun _ => rp_full (io := 0) hA1 hS hi hA1.2.2.2.1 (by omega) hfull) (fun _ => rp_151 hA1 hS hi hb)
      | true => exact rp_74 (fw := 15) (lw := 20) hA1 hS hi hA1.2.1 hA1.2.2.1 (by omega) (fun _ => rp_full (io := 1) hA1 hS hi hA1.2.2.2.1 (by omega) hfull) (fun _ => rp_151 hA1 hS hi hb)
    · rw [if_neg c50] at e9
      cases o with
      | false =>
        refine rp_74 (fw := 8) (lw := 16) hA1 hS hi hA1.2.1 hA1.2.2.1 (by omega) (fun hv => ?_) (fun hv => ?_)
        · refine rp_one (io := 0) hA1 hS hi (by omega) hA1.2.2.2.1 (by omega) (by omega) (by omega) (hone ?_)
          by_cases cn : tc i = 50 ∧ tv i ≤ 1000
          · rw [if_pos cn] at e9; rw [e9]
          · rw [if_neg cn, if_pos rfl, if_pos (hv.elim (fun z => absurd z cn) id)] at e9; rw [e9]
        · rw [if_neg (fun z => hv (Or.inl z)), if_pos rfl, if_neg (fun z => hv (Or.inr z))] at e9
          exact rp_151 hA1 hS hi (hbad (by rw [e9]) (by rw [e9]))
      | true =>
        refine rp_74 (fw := 15) (lw := 20) hA1 hS hi hA1.2.1 hA1.2.2.1 (by omega) (fun hv => ?_) (fun hv => ?_)
        · by_cases cn : tc i = 50 ∧ tv i ≤ 1000
          · rw [if_pos cn] at e9
            exact rp_one (io := 1) hA1 hS hi (by omega) hA1.2.2.2.1 (by omega) (by omega) (by omega) (hone (by rw [e9]))
          · have hr2 : 15 ≤ tc i ∧ tc i ≤ 20 := hv.elim (fun z => absurd z cn) id
            have hin : i < N := Nat.lt_of_not_le (fun z => by have := hA.2.2.2.2.2.1 i z; omega)
            rw [if_neg cn, if_neg (by decide)] at e9
            have htwo : ∀ hi2 : Nat, (prs true tc tv (f + 1) 9 dp i p x).1 = (if tc (i + 1) = 50 ∧ tv (i + 1) ≤ hi2 then 1 else 0) → (prs true tc tv (f + 1) 9 dp i p x).2.1 = (if tc (i + 1) = 50 ∧ tv (i + 1) ≤ hi2 then i + 2 else i + 1) → ((tc (i + 1) = 50 ∧ tv (i + 1) ≤ hi2) → (prs true tc tv (f + 1) 9 dp i p x).2.2.1 = p + 1) → ((tc i = 15 ∧ hi2 = 23) ∨ (tc i = 20 ∧ hi2 = 7)) → Ex (d + 4) mi209 111 [.ref 74, .int (nI dp), .int (nI (tc i))] [] (LY ++ ext) V VL (vr G) 0 0 P := by
              intro hi2 q1 q2 q3 q4
              refine rp_two hA1 hS hin (by omega) q4 (fun z => hP _ (((hF.up (by omega)).up (by omega)).up (by omega)) (fun _ => ?_) (fun z2 => absurd z2 (by rw [q1, if_pos z]; omega))) (fun z => hP _ (((hF.up (by omega)).up (by omega)).up (by omega)) (fun z2 => absurd z2 (by rw [q1, if_neg z]; omega)) (fun _ => by rw [q2, if_neg z]; exact up_at))
              rw [q2, if_pos z, q3 z]
              exact hS.leaf.tok
            by_cases c15 : tc i = 15
            · rw [if_pos c15] at e9
              exact htwo 23 (by rw [e9]; split <;> rfl) (by rw [e9]; split <;> rfl) (fun z => by rw [e9, if_pos z]) (Or.inl ⟨c15, rfl⟩)
            · rw [if_neg c15] at e9
              by_cases c20 : tc i = 20
              · rw [if_pos c20] at e9
                exact htwo 7 (by rw [e9]; split <;> rfl) (by rw [e9]; split <;> rfl) (fun z => by rw [e9, if_pos z]) (Or.inr ⟨c20, rfl⟩)
              · rw [if_neg c20, if_pos (by omega)] at e9
                exact rp_one (io := 1) hA1 hS hi (by omega) hA1.2.2.2.1 (by omega) (by omega) (by omega) (hone (by rw [e9]))
        · have n1 : ¬ (tc i = 50 ∧ tv i ≤ 1000) := fun z => hv (Or.inl z)
          have n2 : ¬ (15 ≤ tc i ∧ tc i ≤ 20) := fun z => hv (Or.inr z)
          rw [if_neg n1, if_neg (by decide), if_neg (by omega), if_neg (by omega), if_neg (by omega)] at e9
          exact rp_151 hA1 hS hi (hbad (by rw [e9]) (by rw [e9]))
set_option maxRecDepth 20000 in
theorem rd_sums (hA : TkA o N tc tv pl V0) : ∀ f, Rd5 V0 VL G ext o N tc tv pl f ∧ Rd6 V0 VL G ext o N tc tv pl f ∧ Rd7 V0 VL G ext o N tc tv pl f ∧ Rd8 V0 VL G ext o N tc tv pl f ∧ Rd9 V0 VL G ext o N tc tv pl f
  | 0 => ⟨fun _ _ _ _ _ _ _ _ _ _ _ _ hr => absurd rfl hr, fun _ _ _ _ _ _ _ _ _ _ _ _ hr => absurd rfl hr, fun _ _ _ _ _ _ _ _ _ _ _ _ hr => absurd rfl hr, fun _ _ _ _ _ _ _ _ _ _ _ _ hr => absurd rfl hr, fun _ _ _ _ _ _ _ _ _ _ _ _ hr => absurd rfl hr⟩
  | f + 1 => by
    obtain ⟨h5, h6, h7, h8, h9⟩ := rd_sums hA f
    exact ⟨rd5 hA h7 h6, rd6 hA h7 h6, rd7 hA h9 h8, rd8 hA h9 h8, rd9 hA h5⟩
end Read4
