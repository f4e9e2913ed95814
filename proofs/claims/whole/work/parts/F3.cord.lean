/-! ===== the class reads clauses of orders ===== -/
section ReadH
variable {d : Nat} {V0 V : VIT} {VL : VLT} {G : VRT} {P : Post} {ext : HL} {o : Bool} {N f nw i p l m : Nat} {ct tc tv pl wm : Nat → Nat}
set_option maxRecDepth 20000 in
theorem x_rep0 (hA : CkA o N ct tc tv pl V) (hS : CS i p l V) (hi : i ≤ N) (h : tc i ≠ 27) (hP : P (some (.int (nI 1))) (LY ++ ext) V VL (vr G)) : Ex (d + 1) mi53 0 (entL [.ref 37] 2) [] (LY ++ ext) V VL (vr G) 0 0 P := by
  have hct := (hA.1 i hi).2.2.2
  have w : ct i = 309 ↔ tc i = 27 := (hA.1 i hi).2.2.1.word (w := 9) (by omega)
  refine x_aload_n rfl rfl ?_
  refine x_callV (M' := mi48) (As := []) (bc1 := 0) (bs1 := 0) (bc2 := 0) (bs2 := 0) rfl rfl rfl rfl ok48 rfl rfl (by decide) rfl rfl rfl rfl rfl rfl ?_
  refine x_token hA hS.1 hi ?_
  refine x_sipushN (q := 309) rfl ?_
  refine x_icmpN_eq rfl (fun c7 => ?_) (fun c7 => ?_)
  · exact absurd c7 (by first | decide | omega)
  refine x_iconstN (q := 1) rfl ?_
  refine x_zret rfl rfl (by first | exact Or.inl rfl | exact Or.inr rfl) ?_
  exact hP
set_option maxRecDepth 20000 in
theorem x_rep1 (hA : CkA o N ct tc tv pl V) (hS : CS i p l V) (h2 : V 38 2 = nI (m + 1)) (hm : m < 12) (hi : i ≤ N) (h : tc i = 27) (h50 : tc (i + 1) = 50 ∧ 1 ≤ tv (i + 1) ∧ tv (i + 1) ≤ 20) (hP : P (some (.int (nI 1))) (LY ++ ext) (up (up (up V 37 5 (nI (i + 1))) 37 5 (nI (i + 1 + 1))) 39 (6 * m + 1) (nI (tv (i + 1)))) VL (vr G)) : Ex (d + 1) mi53 0 (entL [.ref 37] 2) [] (LY ++ ext) V VL (vr G) 0 0 P := by
  have hct := (hA.1 i hi).2.2.2
  have hN := hA.2.2.2.1
  have w : ct i = 309 ↔ tc i = 27 := (hA.1 i hi).2.2.1.word (w := 9) (by omega)
  have hin : i < N := Nat.lt_of_not_le (fun z => by have := hA.2.2.2.2.1 i z; omega)
  have hA1 : CkA o N ct tc tv pl (up V 37 5 (nI (i + 1))) := hA.fr (FrRC.refl.up (by omega))
  have hS1 : CS (i + 1) p l (up V 37 5 (nI (i + 1))) := hS.tok
  obtain ⟨-, -, hTR, hct1⟩ := hA.1 (i + 1) hin
  have e1 := hTR.num.2 h50.1
  have ek : ct (i + 1) - 1000 = tv (i + 1) := by omega
  have hg : Ex (d + 1) mi53 22 [.ref 37, .retAddr 9] [] (LY ++ ext) (up V 37 5 (nI (i + 1))) VL (vr G) 0 0 P := by
    refine x_aload_n rfl rfl ?_
    refine x_callV (M' := mi48) (As := []) (bc1 := 0) (bs1 := 0) (bc2 := 0) (bs2 := 0) rfl rfl rfl rfl ok48 rfl rfl (by decide) rfl rfl rfl rfl rfl rfl ?_
    refine x_token hA1 hS1.1 hin ?_
    refine x_sipushN (q := 1000) rfl ?_
    refine x_isubN rfl ?_
    rw [ek]
    refine x_istore_n (ls' := [_, _]) rfl rfl rfl ?_
    refine x_iload_n rfl rfl ?_
    refine x_iconstN (q := 1) rfl ?_
    refine x_icmpN_lt rfl (fun c33 => ?_) (fun c33 => ?_)
    · exact absurd c33 (by first | decide | omega)
    refine x_iload_n rfl rfl ?_
    refine x_bipushN (q := 20) rfl ?_
    refine x_icmpN_le rfl (fun c39 => ?_) (fun c39 => ?_)
    rotate_left
    · exact absurd c39 (by first | decide | omega)
    refine x_aload_n rfl rfl ?_
    refine x_dup rfl rfl ?_
    refine x_getE (y := 5) rfl rfl rfl hS1.1 ?_
    refine x_iconstN (q := 1) rfl ?_
    refine x_iaddN rfl ?_
    refine x_putI rfl rfl rfl rfl ?_
    refine x_aload_n rfl rfl ?_
    refine x_getR (u := .ref _) rfl rfl rfl rfl ?_
    refine x_iconstN (q := 1) rfl ?_
    refine x_iload_n rfl rfl ?_
    refine x_callV (M' := mi85) (As := [_, _]) (bc1 := 0) (bs1 := 0) (bc2 := 0) (bs2 := 0) rfl rfl rfl rfl ok85 rfl rfl (by decide) rfl rfl rfl rfl rfl rfl ?_
    refine x_setHead ((up_ne2 (by omega)).trans ((up_ne2 (by omega)).trans h2)) hm (by omega) ?_
    refine x_iconstN (q := 1) rfl ?_
    refine x_zret rfl rfl (by first | exact Or.inl rfl | exact Or.inr rfl) ?_
    exact hP
  refine x_aload_n rfl rfl ?_
  refine x_callV (M' := mi48) (As := []) (bc1 := 0) (bs1 := 0) (bc2 := 0) (bs2 := 0) rfl rfl rfl rfl ok48 rfl rfl (by decide) rfl rfl rfl rfl rfl rfl ?_
  refine x_token hA hS.1 hi ?_
  refine x_sipushN (q := 309) rfl ?_
  refine x_icmpN_eq rfl (fun c7 => ?_) (fun c7 => ?_)
  rotate_left
  · exact absurd c7 (by first | decide | omega)
  refine x_aload_n rfl rfl ?_
  refine x_dup rfl rfl ?_
  refine x_getE (y := 5) rfl rfl rfl hS.1 ?_
  refine x_iconstN (q := 1) rfl ?_
  refine x_iaddN rfl ?_
  refine x_putI rfl rfl rfl rfl ?_
  exact hg
set_option maxRecDepth 20000 in
theorem x_repN (hA : CkA o N ct tc tv pl V) (hS : CS i p l V) (hi : i ≤ N) (h : tc i = 27) (h50 : ¬ (tc (i + 1) = 50 ∧ 1 ≤ tv (i + 1) ∧ tv (i + 1) ≤ 20)) (hP : P (some (.int (nI 0))) (LY ++ ext) (up (up V 37 5 (nI (i + 1))) 37 1 (nI (pl (i + 1)))) VL (vr G)) : Ex (d + 1) mi53 0 (entL [.ref 37] 2) [] (LY ++ ext) V VL (vr G) 0 0 P := by
  have hct := (hA.1 i hi).2.2.2
  have hN := hA.2.2.2.1
  have w : ct i = 309 ↔ tc i = 27 := (hA.1 i hi).2.2.1.word (w := 9) (by omega)
  have hin : i < N := Nat.lt_of_not_le (fun z => by have := hA.2.2.2.2.1 i z; omega)
  have hA1 : CkA o N ct tc tv pl (up V 37 5 (nI (i + 1))) := hA.fr (FrRC.refl.up (by omega))
  have hS1 : CS (i + 1) p l (up V 37 5 (nI (i + 1))) := hS.tok
  obtain ⟨-, -, hTR, hct1⟩ := hA.1 (i + 1) hin
  obtain ⟨n1, n2⟩ := hTR.num
  have hg : Ex (d + 1) mi53 22 [.ref 37, .retAddr 9] [] (LY ++ ext) (up V 37 5 (nI (i + 1))) VL (vr G) 0 0 P := by
    by_cases c1 : 1000 ≤ ct (i + 1)
    · have e0 := n1.mp c1
      have e1 := n2 e0
      by_cases c2 : 1 ≤ tv (i + 1)
      · have c3 : ¬ tv (i + 1) ≤ 20 := fun z => h50 ⟨e0, c2, z⟩
        refine x_aload_n rfl rfl ?_
        refine x_callV (M' := mi48) (As := []) (bc1 := 0) (bs1 := 0) (bc2 := 0) (bs2 := 0) rfl rfl rfl rfl ok48 rfl rfl (by decide) rfl rfl rfl rfl rfl rfl ?_
        refine x_token hA1 hS1.1 hin ?_
        refine x_sipushN (q := 1000) rfl ?_
        refine x_isubN rfl ?_
        refine x_istore_n (ls' := [_, _]) rfl rfl rfl ?_
        refine x_iload_n rfl rfl ?_
        refine x_iconstN (q := 1) rfl ?_
        refine x_icmpN_lt rfl (fun c33 => ?_) (fun c33 => ?_)
        · exact absurd c33 (by first | decide | omega)
        refine x_iload_n rfl rfl ?_
        refine x_bipushN (q := 20) rfl ?_
        refine x_icmpN_le rfl (fun c39 => ?_) (fun c39 => ?_)
        · exact absurd c39 (by first | decide | omega)
        refine x_aload_n rfl rfl ?_
        refine x_callV (M' := mi49) (As := []) (bc1 := 0) (bs1 := 0) (bc2 := 0) (bs2 := 0) rfl rfl rfl rfl ok49 rfl rfl (by decide) rfl rfl rfl rfl rfl rfl ?_
        refine x_wrong hA1 hS1.1 hin ?_
        refine x_zret rfl rfl (by first | exact Or.inl rfl | exact Or.inr rfl) ?_
        exact hP
      · refine x_aload_n rfl rfl ?_
        refine x_callV (M' := mi48) (As := []) (bc1 := 0) (bs1 := 0) (bc2 := 0) (bs2 := 0) rfl rfl rfl rfl ok48 rfl rfl (by decide) rfl rfl rfl rfl rfl rfl ?_
        refine x_token hA1 hS1.1 hin ?_
        refine x_sipushN (q := 1000) rfl ?_
        refine x_isubN rfl ?_
        refine x_istore_n (ls' := [_, _]) rfl rfl rfl ?_
        refine x_iload_n rfl rfl ?_
        refine x_iconstN (q := 1) rfl ?_
        refine x_icmpN_lt rfl (fun c33 => ?_) (fun c33 => ?_)
        rotate_left
        · exact absurd c33 (by first | decide | omega)
        refine x_aload_n rfl rfl ?_
        refine x_callV (M' := mi49) (As := []) (bc1 := 0) (bs1 := 0) (bc2 := 0) (bs2 := 0) rfl rfl rfl rfl ok49 rfl rfl (by decide) rfl rfl rfl rfl rfl rfl ?_
        refine x_wrong hA1 hS1.1 hin ?_
        refine x_zret rfl rfl (by first | exact Or.inl rfl | exact Or.inr rfl) ?_
        exact hP
    · refine x_aload_n rfl rfl ?_
      refine x_callV (M' := mi48) (As := []) (bc1 := 0) (bs1 := 0) (bc2 := 0) (bs2 := 0) rfl rfl rfl rfl ok48 rfl rfl (by decide) rfl rfl rfl rfl rfl rfl ?_
      refine x_token hA1 hS1.1 hin ?_
      refine x_sipushN (q := 1000) rfl ?_
      refine x_isub rfl ?_
      refine x_istore_n (ls' := [_, _]) rfl rfl rfl ?_
      refine x_iload_n rfl rfl ?_
      refine x_iconstN (q := 1) rfl ?_
      refine x_icmp_lt rfl (fun c33 => ?_) (fun c33 => ?_)
      rotate_left
      · exact absurd (neg_sub1 (by omega)) c33
      refine x_aload_n rfl rfl ?_
      refine x_callV (M' := mi49) (As := []) (bc1 := 0) (bs1 := 0) (bc2 := 0) (bs2 := 0) rfl rfl rfl rfl ok49 rfl rfl (by decide) rfl rfl rfl rfl rfl rfl ?_
      refine x_wrong hA1 hS1.1 hin ?_
      refine x_zret rfl rfl (by first | exact Or.inl rfl | exact Or.inr rfl) ?_
      exact hP
  refine x_aload_n rfl rfl ?_
  refine x_callV (M' := mi48) (As := []) (bc1 := 0) (bs1 := 0) (bc2 := 0) (bs2 := 0) rfl rfl rfl rfl ok48 rfl rfl (by decide) rfl rfl rfl rfl rfl rfl ?_
  refine x_token hA hS.1 hi ?_
  refine x_sipushN (q := 309) rfl ?_
  refine x_icmpN_eq rfl (fun c7 => ?_) (fun c7 => ?_)
  rotate_left
  · exact absurd c7 (by first | decide | omega)
  refine x_aload_n rfl rfl ?_
  refine x_dup rfl rfl ?_
  refine x_getE (y := 5) rfl rfl rfl hS.1 ?_
  refine x_iconstN (q := 1) rfl ?_
  refine x_iaddN rfl ?_
  refine x_putI rfl rfl rfl rfl ?_
  exact hg
-- behind the sums: how often, whether
set_option maxRecDepth 20000 in
theorem oc_tail {kd : Nat} {x y z : Den} {t : Nat} (hA : CkA true N ct tc tv pl V) (hS : CS i p l V) (h2 : V 38 2 = nI (m + 1)) (hm : m < 12) (hi : i ≤ N) (hp : p ≤ 50) (hl : l ≤ 2 * i) (hh : V 39 (6 * m + 1) = nI 1)
  (h1 : ∀ (V' : VIT) (l' i' p' tm fl : Nat) (te : Den), pTimes tc tv i p kd x y z = (1, i', p', kd, tm, x, y, z, fl, te) → FrTx V V' → (∀ j, j ≠ 6 * m + 5 → j ≠ 6 * m + 1 → V' 39 j = V 39 j) → V' 39 (6 * m + 1) = nI tm → (∀ j, j < l → V' 40 j = V 40 j) → CS i' p' l' V' → i' ≤ N → p' ≤ 50 → i ≤ i' → l' ≤ 2 * i' → l ≤ l' → CodR V' l l' → TesV 36 owm V V' l' m fl te → P (some (.int (nI 1))) (LY ++ ext) V' VL (vr G))
  (h0 : ∀ (V' : VIT) (i' : Nat), (pTimes tc tv i p kd x y z).1 = 0 → (pTimes tc tv i p kd x y z).2.1 = i' → FrTx V V' → V' 37 1 = nI (pl i') → P (some (.int (nI 0))) (LY ++ ext) V' VL (vr G)) : Ex (d + 33) mi52 108 [.ref 37, .int (nI t)] [] (LY ++ ext) V VL (vr G) 0 0 P := by
  have hN := hA.2.2.2.1
  by_cases c : tc i = 27
  · have hin : i < N := Nat.lt_of_not_le (fun z => by have := hA.2.2.2.2.1 i z; omega)
    by_cases c50 : tc (i + 1) = 50 ∧ 1 ≤ tv (i + 1) ∧ tv (i + 1) ≤ 20
    · have hin2 : i + 1 < N := Nat.lt_of_not_le (fun z => by have := hA.2.2.2.2.1 _ z; omega)
      have e : pTimes tc tv i p kd x y z = pIf true tc tv (i + 2) p kd (tv (i + 1)) x y z := by
        unfold pTimes
        rw [if_pos c, if_pos c50]
      rw [e] at h0
      have hFs : FrTx V (up (up (up V 37 5 (nI (i + 1))) 37 5 (nI (i + 1 + 1))) 39 (6 * m + 1) (nI (tv (i + 1)))) := ((FrTx.refl.up (by omega)).up (by omega)).hd
      refine x_aload_n rfl rfl ?_
      refine x_callV (M' := mi53) (As := []) (bc1 := 0) (bs1 := 0) (bc2 := 0) (bs2 := 0) rfl rfl rfl rfl ok53 rfl rfl (by decide) rfl rfl rfl rfl rfl rfl ?_
      refine x_rep1 hA hS h2 hm hi c c50 ?_
      refine x_ifN_eq rfl (fun c112 => ?_) (fun c112 => ?_)
      · exact absurd c112 (by first | decide | omega)
      refine x_aload_n rfl rfl ?_
      refine x_callV (M' := mi54) (As := []) (bc1 := 0) (bs1 := 0) (bc2 := 0) (bs2 := 0) rfl rfl rfl rfl ok54 rfl rfl (by decide) rfl rfl rfl rfl rfl rfl ?_
      refine x_cond (kd := kd) (tm := tv (i + 1)) (x := x) (y := y) (z := z) (nw := 36) (wm := owm) (d := d) rfl rfl (hA.frT hFs) hS.tok.tok.hd (by rw [up_ne2 (by omega), up_ne2 (by omega), up_ne2 (by omega)]; exact h2) hm hin2 hp (by omega) (fun V4 l4 i4 p4 fl te q0 q1 q2 q3 q4 q5 q6 q7 q8 q9 q10 q11 => ?_) (fun V4 i4 q0 q1 q2 q3 => ?_)
      skip
      · refine x_ifN_eq rfl (fun c119 => ?_) (fun c119 => ?_)
        · exact absurd c119 (by first | decide | omega)
        refine x_iconstN (q := 1) rfl ?_
        refine x_goto rfl ?_
        refine x_zret rfl rfl (by first | exact Or.inl rfl | exact Or.inr rfl) ?_
        refine h1 V4 l4 i4 p4 _ _ _ (e.trans q0) (hFs.trans q1) (fun j a b => ?_) ?_ (fun j hj => ?_) q4 q5 q6 (by omega) q8 q9 q10 ?_
        · rw [q2 j a, up_at' b, up_ne (by omega), up_ne (by omega)]
        · rw [q2 _ (by omega), up_at]
        · rw [q3 j hj, up_ne (by omega), up_ne (by omega), up_ne (by omega)]
        · rcases q11 with ⟨t1, t2⟩ | t1
          · exact Or.inl ⟨t1, by rw [t2, up_at' (by omega), up_ne (by omega), up_ne (by omega)]⟩
          · exact Or.inr t1
      · refine x_ifN_eq rfl (fun c119 => ?_) (fun c119 => ?_)
        rotate_left
        · exact absurd c119 (by first | decide | omega)
        refine x_iconstN (q := 0) rfl ?_
        refine x_zret rfl rfl (by first | exact Or.inl rfl | exact Or.inr rfl) ?_
        exact h0 V4 i4 q0 q1 (hFs.trans q2) q3
    · have e : pTimes tc tv i p kd x y z = (0, i + 1, p, kd, 1, x, y, z, 0, dz) := by
        unfold pTimes
        rw [if_pos c, if_neg c50]
      rw [e] at h0
      refine x_aload_n rfl rfl ?_
      refine x_callV (M' := mi53) (As := []) (bc1 := 0) (bs1 := 0) (bc2 := 0) (bs2 := 0) rfl rfl rfl rfl ok53 rfl rfl (by decide) rfl rfl rfl rfl rfl rfl ?_
      refine x_repN hA hS hi c c50 ?_
      refine x_ifN_eq rfl (fun c112 => ?_) (fun c112 => ?_)
      rotate_left
      · exact absurd c112 (by first | decide | omega)
      refine x_iconstN (q := 0) rfl ?_
      refine x_zret rfl rfl (by first | exact Or.inl rfl | exact Or.inr rfl) ?_
      exact h0 _ _ rfl rfl ((FrTx.refl.up (by omega)).up (by omega)) up_at
  · have e : pTimes tc tv i p kd x y z = pIf true tc tv i p kd 1 x y z := if_neg c
    rw [e] at h0
    refine x_aload_n rfl rfl ?_
    refine x_callV (M' := mi53) (As := []) (bc1 := 0) (bs1 := 0) (bc2 := 0) (bs2 := 0) rfl rfl rfl rfl ok53 rfl rfl (by decide) rfl rfl rfl rfl rfl rfl ?_
    refine x_rep0 hA hS hi c ?_
    refine x_ifN_eq rfl (fun c112 => ?_) (fun c112 => ?_)
    · exact absurd c112 (by first | decide | omega)
    refine x_aload_n rfl rfl ?_
    refine x_callV (M' := mi54) (As := []) (bc1 := 0) (bs1 := 0) (bc2 := 0) (bs2 := 0) rfl rfl rfl rfl ok54 rfl rfl (by decide) rfl rfl rfl rfl rfl rfl ?_
    refine x_cond (kd := kd) (tm := 1) (x := x) (y := y) (z := z) (nw := 36) (wm := owm) (d := d) rfl rfl hA hS h2 hm hi hp hl (fun V4 l4 i4 p4 fl te q0 q1 q2 q3 q4 q5 q6 q7 q8 q9 q10 q11 => ?_) (fun V4 i4 q0 q1 q2 q3 => ?_)
    skip
    · refine x_ifN_eq rfl (fun c119 => ?_) (fun c119 => ?_)
      · exact absurd c119 (by first | decide | omega)
      refine x_iconstN (q := 1) rfl ?_
      refine x_goto rfl ?_
      refine x_zret rfl rfl (by first | exact Or.inl rfl | exact Or.inr rfl) ?_
      exact h1 V4 l4 i4 p4 _ _ _ (e.trans q0) q1 (fun j a b => q2 j a) (by rw [q2 _ (by omega)]; exact hh) q3 q4 q5 q6 q7 q8 q9 q10 q11
    · refine x_ifN_eq rfl (fun c119 => ?_) (fun c119 => ?_)
      rotate_left
      · exact absurd c119 (by first | decide | omega)
      refine x_iconstN (q := 0) rfl ?_
      refine x_zret rfl rfl (by first | exact Or.inl rfl | exact Or.inr rfl) ?_
      exact h0 V4 i4 q0 q1 q2 q3
set_option maxRecDepth 20000 in
theorem owm0 : owm 0 = 16 := rfl
-- a sum of a clause of orders, its head's place k
set_option maxRecDepth 20000 in
theorem oc_sum {k : Nat} (hA : CkA true N ct tc tv pl V) (hS : CS i p l V) (h2 : V 38 2 = nI (m + 1)) (hm : m < 12) (hi : i ≤ N) (hp : p ≤ 50) (hl : l + 2 ≤ 2 * i) (hk : 2 ≤ k) (hk2 : k < 6)
  (h1 : ∀ (V' : VIT) (l' i' p' : Nat) (x : Den), pSum true tc tv i p = (1, i', p', x) → FrTx V V' → (∀ j, j ≠ 6 * m + k → V' 39 j = V 39 j) → V' 39 (6 * m + k) = nI l → (∀ j, j < l → V' 40 j = V 40 j) → CS i' p' l' V' → i ≤ i' → i' ≤ N → p' ≤ 50 → l' ≤ 2 * i' → l ≤ l' → CodR V' l l' → TelV 36 owm V' l' l x → V' 38 2 = nI (m + 1) → CkA true N ct tc tv pl V' → P (some (.int (nI 1))) (LY ++ ext) V' VL (vr G))
  (h0 : (pSum true tc tv i p).1 ≠ 1 → (pSum true tc tv i p).1 = 0 → ∀ V' : VIT, FrTx V V' → V' 37 1 = nI (pl (pSum true tc tv i p).2.1) → P (some (.int (nI 0))) (LY ++ ext) V' VL (vr G)) : Ex (d + 32) mi55 0 (entL [.ref 37, .int (nI k)] 2) [] (LY ++ ext) V VL (vr G) 0 0 P := by
  refine x_ws (nw := 36) (wm := owm) (k := k) (d := d + 2) rfl rfl hA hS h2 hm hi hp hl hk hk2 (fun cs V3 l3 b1 b2 b3 b4 b5 b6 b7 b8 b9 => ?_) (fun cs V3 b1 b2 => h0 (by omega) cs V3 b1 b2)
  obtain ⟨o1, o2, o3⟩ := prs_ok (o := true) (tv := tv) hA.2.2.2.2.1 PFuel 5 0 i p dz hi cs
  have op := (prs_c (o := true) (tc := tc) (tv := tv) PFuel 5 0 i p dz hp).1 cs
  exact h1 V3 l3 _ _ _ (by rw [← cs]) b1 b2 b3 b4 b5 o1 o2 op b6 b7 b8 b9 (by rw [b1 38 2 (by omega) (by omega) (by omega) (by omega)]; exact h2) (hA.frT b1)
set_option maxRecDepth 20000 in
theorem x_orderClause (hA : CkA true N ct tc tv pl V) (hS : CS i p l V) (h2 : V 38 2 = nI m) (hm : m < 12) (hi : i ≤ N) (hp : p ≤ 50) (hl : l ≤ 2 * i)
  (h1 : ∀ (V' : VIT) (l' i' p' : Nat) (c : Cla), pOrdC tc tv i p = (1, i', p', c) → FrK V V' → (∀ j, j < 6 * m → V' 39 j = V 39 j) → (∀ j, j < l → V' 40 j = V 40 j) → CS i' p' l' V' → V' 38 2 = nI (m + 1) → i' ≤ N → p' ≤ 50 → i < i' → l' ≤ 2 * i' → l ≤ l' → CodR V' l l' → ClaV 36 owm V' l' m c → P (some (.int (nI 1))) (LY ++ ext) V' VL (vr G))
  (h0 : ∀ (V' : VIT) (i' : Nat), (pOrdC tc tv i p).1 = 0 → (pOrdC tc tv i p).2.1 = i' → FrK V V' → V' 37 1 = nI (pl i') → P (some (.int (nI 0))) (LY ++ ext) V' VL (vr G)) : Ex (d + 33) mi52 0 (entL [.ref 37] 2) [] (LY ++ ext) V VL (vr G) 0 0 P := by
  have hN := hA.2.2.2.1
  obtain ⟨-, -, hTR, hct⟩ := hA.1 i hi
  have w303 : ct i = 303 ↔ tc i = 21 := hTR.word (w := 3) (by omega)
  have w304 : ct i = 304 ↔ tc i = 24 := hTR.word (w := 4) (by omega)
  have w305 : ct i = 305 ↔ tc i = 25 := hTR.word (w := 5) (by omega)
  have w306 : ct i = 306 ↔ tc i = 26 := hTR.word (w := 6) (by omega)
  by_cases c : 303 ≤ ct i ∧ ct i ≤ 306
  · have hin : i < N := Nat.lt_of_not_le (fun z => by have := hA.2.2.2.2.1 i z; omega)
    have hFt : FrK V (up V 37 5 (nI (i + 1))) := FrK.refl.up (by omega)
    -- the rest, once the kind is known: heads and codes of the state behind the kind
    have hadd : ∀ {Q : VIT → Prop}, (∀ V2 : VIT, FrK V V2 → CS (i + 1) p l V2 → V2 38 2 = nI (m + 1) → CkA true N ct tc tv pl V2 → V2 39 (6 * m) = nI (ct i - 303) → V2 39 (6 * m + 1) = nI 1 → (∀ k, 2 ≤ k → k < 6 → V2 39 (6 * m + k) = -1) → (∀ j, j < 6 * m → V2 39 j = V 39 j) → (∀ j, V2 40 j = V 40 j) → Ex (d + 33) mi52 46 [.ref 37, .int (nI (ct i))] [] (LY ++ ext) V2 VL (vr G) 0 0 P) → Ex (d + 33) mi52 0 (entL [.ref 37] 2) [] (LY ++ ext) V VL (vr G) 0 0 P := by
      intro Q hk
      refine x_aload_n rfl rfl ?_
      refine x_callV (M' := mi48) (As := []) (bc1 := 0) (bs1 := 0) (bc2 := 0) (bs2 := 0) rfl rfl rfl rfl ok48 rfl rfl (by decide) rfl rfl rfl rfl rfl rfl ?_
      refine x_token hA hS.1 hi ?_
      refine x_istore_n (ls' := [_, _]) rfl rfl rfl ?_
      refine x_iload_n rfl rfl ?_
      refine x_sipushN (q := 303) rfl ?_
      refine x_icmpN_lt rfl (fun c9 => ?_) (fun c9 => ?_)
      · exact absurd c9 (by first | decide | omega)
      refine x_iload_n rfl rfl ?_
      refine x_sipushN (q := 306) rfl ?_
      refine x_icmpN_le rfl (fun c16 => ?_) (fun c16 => ?_)
      rotate_left
      · exact absurd c16 (by first | decide | omega)
      refine x_aload_n rfl rfl ?_
      refine x_dup rfl rfl ?_
      refine x_getE (y := 5) rfl rfl rfl hS.1 ?_
      refine x_iconstN (q := 1) rfl ?_
      refine x_iaddN rfl ?_
      refine x_putI rfl rfl rfl rfl ?_
      refine x_aload_n rfl rfl ?_
      refine x_getR (u := .ref _) rfl rfl rfl rfl ?_
      refine x_iload_n rfl rfl ?_
      refine x_sipushN (q := 303) rfl ?_
      refine x_isubN rfl ?_
      refine x_callV (M' := mi83) (As := [_]) (bc1 := 0) (bs1 := 0) (bc2 := 0) (bs2 := 0) rfl rfl rfl rfl ok83 rfl rfl (by decide) rfl rfl rfl rfl rfl rfl ?_
      refine x_addClause ((up_ne2 (by omega)).trans h2) hm (fun V2 a1 a2 a3 a4 a5 => ?_)
      skip
      exact hk V2 (addC_F hFt a1) (addC_S hS.tok a1) a2 (hA.frK (addC_F hFt a1)) a3 a4 a5 (fun j hj => by rw [a1 39 j (by omega) (by omega), up_ne (by omega)]) (fun j => by rw [a1 40 j (by omega) (by omega), up_ne (by omega)])
    refine hadd (Q := fun _ => True) (fun V2 hF2 hS2 a2 hA2 a3 a4 a5 a6 a7 => ?_)
    by_cases c26 : tc i = 26
    · have e : pOrdC tc tv i p = pTimes tc tv (i + 1) p 3 dz dz dz := by
        unfold pOrdC
        rw [if_neg (by omega), if_neg (by omega), if_pos c26]
      rw [e] at h0
      refine x_iload_n rfl rfl ?_
      refine x_sipushN (q := 306) rfl ?_
      refine x_icmpN_eq rfl (fun c50 => ?_) (fun c50 => ?_)
      rotate_left
      · exact absurd c50 (by first | decide | omega)
      refine x_iload_n rfl rfl ?_
      refine x_sipushN (q := 303) rfl ?_
      refine x_icmpN_ne rfl (fun c67 => ?_) (fun c67 => ?_)
      rotate_left
      · exact absurd c67 (by first | decide | omega)
      skip
      refine oc_tail (kd := 3) (x := dz) (y := dz) (z := dz) (d := d) hA2 hS2 a2 hm hin hp (by omega) a4 (fun V4 l4 i4 p4 tm fl te q0 q1 q2 q3 q4 q5 q6 q7 q8 q9 q10 q11 q12 => ?_) (fun V4 i4 q0 q1 q2 q3 => h0 V4 i4 q0 q1 (hF2.trans q2.frK) q3)
      refine h1 V4 l4 i4 p4 _ (e.trans q0) (hF2.trans q1.frK) (fun j hj => by rw [q2 j (by omega) (by omega)]; exact a6 j hj) (fun j hj => (q4 j hj).trans (a7 j)) q5 (by rw [q1 38 2 (by omega) (by omega) (by omega) (by omega)]; exact a2) q6 q7 (by omega) q9 q10 q11 ⟨?_, q3, Or.inr (Or.inl ⟨owm0, rfl, ?_⟩), fun _ => Or.inl ⟨by show 3 ≠ 0; omega, ?_, ?_⟩, ?_⟩
      · rw [q2 _ (by omega) (by omega), a3]
        show nI (ct i - 303) = nI 3
        rw [show ct i - 303 = 3 by omega]
      · rw [q2 _ (by omega) (by omega)]; exact a5 2 (by omega) (by omega)
      · rw [q2 _ (by omega) (by omega)]; exact a5 3 (by omega) (by omega)
      · rw [q2 _ (by omega) (by omega)]; exact a5 4 (by omega) (by omega)
      · rcases q12 with ⟨t1, t2⟩ | ⟨t1, s, t2, t3⟩
        · exact Or.inl ⟨t1, t2.trans (a5 5 (by omega) (by omega))⟩
        · exact Or.inr ⟨t1, s, t2, t3⟩
    · by_cases c21 : tc i = 21
      · have e : pOrdC tc tv i p = pcb (pSum true tc tv (i + 1) p) (fun i1 p1 x => if tc i1 = 22 then pcb (pSum true tc tv (i1 + 1) p1) (fun i2 p2 y => if tc i2 = 23 then pcb (pSum true tc tv (i2 + 1) p2) (fun i3 p3 z => pTimes tc tv i3 p3 0 x y z) else (0, i2, p2, 0, 1, dz, dz, dz, 0, dz)) else (0, i1, p1, 0, 1, dz, dz, dz, 0, dz)) := by
          unfold pOrdC
          rw [if_pos c21]
        refine x_iload_n rfl rfl ?_
        refine x_sipushN (q := 306) rfl ?_
        refine x_icmpN_eq rfl (fun c50 => ?_) (fun c50 => ?_)
        · exact absurd c50 (by first | decide | omega)
        refine x_aload_n rfl rfl ?_
        refine x_iconstN (q := 2) rfl ?_
        refine x_callV (M' := mi55) (As := [_]) (bc1 := 0) (bs1 := 0) (bc2 := 0) (bs2 := 0) rfl rfl rfl rfl ok55 rfl rfl (by decide) rfl rfl rfl rfl rfl rfl ?_
        refine oc_sum (k := 2) (d := d) hA2 hS2 a2 hm hin hp (by omega) (by omega) (by omega) (fun V3 l3 i3 p3 x3 e3 b1 b2 b3 b4 b5 o1 o2 op b6 b7 b8 b9 h23 hA3 => ?_) (fun cs1 cs0 V3 b1 b2 => ?_)
        skip
        · rw [e3] at e
          have e' := e.trans (if_pos (c := (1 : Nat) = 1) rfl)
          dsimp only at e'
          have w307 : ct i3 = 307 ↔ tc i3 = 22 := (hA.1 i3 o2).2.2.1.word (w := 7) (by omega)
          have hF3 := hF2.trans b1.frK
          by_cases c22 : tc i3 = 22
          · have hin3 : i3 < N := Nat.lt_of_not_le (fun z => by have := hA.2.2.2.2.1 i3 z; omega)
            rw [if_pos c22] at e'
            have hFu : FrTx V3 (up V3 37 5 (nI (i3 + 1))) := FrTx.refl.up (by omega)
            refine x_ifN_ne rfl (fun c58 => ?_) (fun c58 => ?_)
            rotate_left
            · exact absurd c58 (by first | decide | omega)
            refine x_iload_n rfl rfl ?_
            refine x_sipushN (q := 303) rfl ?_
            refine x_icmpN_ne rfl (fun c67 => ?_) (fun c67 => ?_)
            · exact absurd c67 (by first | decide | omega)
            refine x_aload_n rfl rfl ?_
            refine x_sipushN (q := 307) rfl ?_
            refine x_callV (M' := mi50) (As := [_]) (bc1 := 0) (bs1 := 0) (bc2 := 0) (bs2 := 0) rfl rfl rfl rfl ok50 rfl rfl (by decide) rfl rfl rfl rfl rfl rfl ?_
            refine x_passed1 hA3 b5.1 o2 (w307.mpr c22) ?_
            refine x_ifN_eq rfl (fun c77 => ?_) (fun c77 => ?_)
            · exact absurd c77 (by first | decide | omega)
            refine x_aload_n rfl rfl ?_
            refine x_iconstN (q := 3) rfl ?_
            refine x_callV (M' := mi55) (As := [_]) (bc1 := 0) (bs1 := 0) (bc2 := 0) (bs2 := 0) rfl rfl rfl rfl ok55 rfl rfl (by decide) rfl rfl rfl rfl rfl rfl ?_
            refine oc_sum (k := 3) (d := d) (hA3.frT hFu) b5.tok ((up_ne2 (by omega)).trans h23) hm hin3 op (by omega) (by omega) (by omega) (fun V4 l4 i4 p4 x4 e4 g1 g2 g3 g4 g5 m1 m2 mp g6 g7 g8 g9 h24 hA4 => ?_) (fun cs1 cs0 V4 g1 g2 => ?_)
            skip
            · rw [e4] at e'
              have e2 := e'.trans (if_pos (c := (1 : Nat) = 1) rfl)
              dsimp only at e2
              have w308 : ct i4 = 308 ↔ tc i4 = 23 := (hA.1 i4 m2).2.2.1.word (w := 8) (by omega)
              have hF4 := hF3.trans (hFu.trans g1).frK
              have g2' : ∀ j, j ≠ 6 * m + 3 → V4 39 j = V3 39 j := fun j hj => by rw [g2 j hj, up_ne (by omega)]
              have g4' : ∀ j, j < l3 → V4 40 j = V3 40 j := fun j hj => by rw [g4 j hj, up_ne (by omega)]
              by_cases c23 : tc i4 = 23
              · have hin4 : i4 < N := Nat.lt_of_not_le (fun z => by have := hA.2.2.2.2.1 i4 z; omega)
                rw [if_pos c23] at e2
                have hFv : FrTx V4 (up V4 37 5 (nI (i4 + 1))) := FrTx.refl.up (by omega)
                refine x_ifN_eq rfl (fun c85 => ?_) (fun c85 => ?_)
                · exact absurd c85 (by first | decide | omega)
                refine x_aload_n rfl rfl ?_
                refine x_sipushN (q := 308) rfl ?_
                refine x_callV (M' := mi50) (As := [_]) (bc1 := 0) (bs1 := 0) (bc2 := 0) (bs2 := 0) rfl rfl rfl rfl ok50 rfl rfl (by decide) rfl rfl rfl rfl rfl rfl ?_
                refine x_passed1 hA4 g5.1 m2 (w308.mpr c23) ?_
                refine x_ifN_eq rfl (fun c95 => ?_) (fun c95 => ?_)
                · exact absurd c95 (by first | decide | omega)
                refine x_aload_n rfl rfl ?_
                refine x_iconstN (q := 4) rfl ?_
                refine x_callV (M' := mi55) (As := [_]) (bc1 := 0) (bs1 := 0) (bc2 := 0) (bs2 := 0) rfl rfl rfl rfl ok55 rfl rfl (by decide) rfl rfl rfl rfl rfl rfl ?_
                refine oc_sum (k := 4) (d := d) (hA4.frT hFv) g5.tok ((up_ne2 (by omega)).trans h24) hm hin4 mp (by omega) (by omega) (by omega) (fun V5 l5 i5 p5 x5 e5 f1 f2 f3 f4 f5 n1 n2 np f6 f7 f8 f9 h25 hA5 => ?_) (fun cs1 cs0 V5 f1 f2 => ?_)
                skip
                · rw [e5] at e2
                  have e6 := e2.trans (if_pos (c := (1 : Nat) = 1) rfl)
                  dsimp only at e6
                  have hF5 := hF4.trans (hFv.trans f1).frK
                  have f2' : ∀ j, j ≠ 6 * m + 4 → V5 39 j = V4 39 j := fun j hj => by rw [f2 j hj, up_ne (by omega)]
                  have f4' : ∀ j, j < l4 → V5 40 j = V4 40 j := fun j hj => by rw [f4 j hj, up_ne (by omega)]
                  rw [e6] at h0
                  refine x_ifN_ne rfl (fun c103 => ?_) (fun c103 => ?_)
                  rotate_left
                  · exact absurd c103 (by first | decide | omega)
                  skip
                  refine oc_tail (kd := 0) (x := x3) (y := x4) (z := x5) (d := d) hA5 f5 h25 hm n2 np f6 (by rw [f2' _ (by omega), g2' _ (by omega), b2 _ (by omega)]; exact a4) (fun V6 l6 i6 p6 tm fl te q0 q1 q2 q3 q4 q5 q6 q7 q8 q9 q10 q11 q12 => ?_) (fun V6 i6 q0 q1 q2 q3 => h0 V6 i6 q0 q1 (hF5.trans q2.frK) q3)
                  have q4' : ∀ j, j < l4 → V6 40 j = V4 40 j := fun j hj => by rw [q4 j (by omega), f4' j hj]
                  have q4'' : ∀ j, j < l3 → V6 40 j = V3 40 j := fun j hj => by rw [q4' j (by omega), g4' j hj]
                  refine h1 V6 l6 i6 p6 _ (e6.trans q0) (hF5.trans q1.frK) (fun j hj => by rw [q2 j (by omega) (by omega), f2' j (by omega), g2' j (by omega), b2 j (by omega)]; exact a6 j hj) (fun j hj => by rw [q4'' j (by omega), b4 j hj, a7 j]) q5 (by rw [q1 38 2 (by omega) (by omega) (by omega) (by omega)]; exact h25) q6 q7 (by omega) q9 (by omega) (CodR.join (CodR.same b8 (fun k _ b => q4'' k b)) (CodR.join (CodR.same g8 (fun k _ b => q4' k b)) (CodR.join (CodR.same f8 (fun k _ b => q4 k b)) q11))) ⟨?_, q3, Or.inr (Or.inr ⟨l, ?_, b9.same (by omega) q4''⟩), fun _ => Or.inr ⟨rfl, ⟨l3, ?_, g9.same (by omega) q4'⟩, l4, ?_, f9.same (by omega) q4⟩, ?_⟩
                  · rw [q2 _ (by omega) (by omega), f2' _ (by omega), g2' _ (by omega), b2 _ (by omega), a3]
                    show nI (ct i - 303) = nI 0
                    rw [show ct i - 303 = 0 by omega]
                  · rw [q2 _ (by omega) (by omega), f2' _ (by omega), g2' _ (by omega)]; exact b3
                  · rw [q2 _ (by omega) (by omega), f2' _ (by omega)]; exact g3
                  · rw [q2 _ (by omega) (by omega)]; exact f3
                  · rcases q12 with ⟨t1, t2⟩ | ⟨t1, s, t2, t3⟩
                    · refine Or.inl ⟨t1, ?_⟩
                      rw [t2, f2' _ (by omega), g2' _ (by omega), b2 _ (by omega)]
                      exact a5 5 (by omega) (by omega)
                    · exact Or.inr ⟨t1, s, t2, t3⟩
                · have e6 := e2.trans (if_neg cs1)
                  rw [e6] at h0
                  refine x_ifN_ne rfl (fun c103 => ?_) (fun c103 => ?_)
                  · exact absurd c103 (by first | decide | omega)
                  refine x_iconstN (q := 0) rfl ?_
                  refine x_zret rfl rfl (by first | exact Or.inl rfl | exact Or.inr rfl) ?_
                  exact h0 V5 _ cs0 rfl (hF4.trans (hFv.trans f1).frK) f2
              · rw [if_neg c23] at e2
                rw [e2] at h0
                refine x_ifN_eq rfl (fun c85 => ?_) (fun c85 => ?_)
                · exact absurd c85 (by first | decide | omega)
                refine x_aload_n rfl rfl ?_
                refine x_sipushN (q := 308) rfl ?_
                refine x_callV (M' := mi50) (As := [_]) (bc1 := 0) (bs1 := 0) (bc2 := 0) (bs2 := 0) rfl rfl rfl rfl ok50 rfl rfl (by decide) rfl rfl rfl rfl rfl rfl ?_
                refine x_passedN hA4 g5.1 m2 (by omega) (fun z => c23 (w308.mp z)) ?_
                refine x_ifN_eq rfl (fun c95 => ?_) (fun c95 => ?_)
                rotate_left
                · exact absurd c95 (by first | decide | omega)
                refine x_iconstN (q := 0) rfl ?_
                refine x_zret rfl rfl (by first | exact Or.inl rfl | exact Or.inr rfl) ?_
                exact h0 _ _ rfl rfl (hF4.up (by omega)) up_at
            · have e2 := e'.trans (if_neg cs1)
              rw [e2] at h0
              refine x_ifN_eq rfl (fun c85 => ?_) (fun c85 => ?_)
              rotate_left
              · exact absurd c85 (by first | decide | omega)
              refine x_iconstN (q := 0) rfl ?_
              refine x_zret rfl rfl (by first | exact Or.inl rfl | exact Or.inr rfl) ?_
              exact h0 V4 _ cs0 rfl (hF3.trans (hFu.trans g1).frK) g2
          · rw [if_neg c22] at e'
            rw [e'] at h0
            refine x_ifN_ne rfl (fun c58 => ?_) (fun c58 => ?_)
            rotate_left
            · exact absurd c58 (by first | decide | omega)
            refine x_iload_n rfl rfl ?_
            refine x_sipushN (q := 303) rfl ?_
            refine x_icmpN_ne rfl (fun c67 => ?_) (fun c67 => ?_)
            · exact absurd c67 (by first | decide | omega)
            refine x_aload_n rfl rfl ?_
            refine x_sipushN (q := 307) rfl ?_
            refine x_callV (M' := mi50) (As := [_]) (bc1 := 0) (bs1 := 0) (bc2 := 0) (bs2 := 0) rfl rfl rfl rfl ok50 rfl rfl (by decide) rfl rfl rfl rfl rfl rfl ?_
            refine x_passedN hA3 b5.1 o2 (by omega) (fun z => c22 (w307.mp z)) ?_
            refine x_ifN_eq rfl (fun c77 => ?_) (fun c77 => ?_)
            rotate_left
            · exact absurd c77 (by first | decide | omega)
            refine x_iconstN (q := 0) rfl ?_
            refine x_zret rfl rfl (by first | exact Or.inl rfl | exact Or.inr rfl) ?_
            exact h0 _ _ rfl rfl (hF3.up (by omega)) up_at
        · have e' := e.trans (if_neg cs1)
          rw [e'] at h0
          refine x_ifN_ne rfl (fun c58 => ?_) (fun c58 => ?_)
          · exact absurd c58 (by first | decide | omega)
          refine x_iconstN (q := 0) rfl ?_
          refine x_zret rfl rfl (by first | exact Or.inl rfl | exact Or.inr rfl) ?_
          exact h0 V3 _ cs0 rfl (hF2.trans b1.frK) b2
      · have e : pOrdC tc tv i p = pcb (pSum true tc tv (i + 1) p) (fun i1 p1 x => pTimes tc tv i1 p1 (tc i - 23) x dz dz) := by
          unfold pOrdC
          rw [if_neg c21, if_pos (by omega)]
        refine x_iload_n rfl rfl ?_
        refine x_sipushN (q := 306) rfl ?_
        refine x_icmpN_eq rfl (fun c50 => ?_) (fun c50 => ?_)
        · exact absurd c50 (by first | decide | omega)
        refine x_aload_n rfl rfl ?_
        refine x_iconstN (q := 2) rfl ?_
        refine x_callV (M' := mi55) (As := [_]) (bc1 := 0) (bs1 := 0) (bc2 := 0) (bs2 := 0) rfl rfl rfl rfl ok55 rfl rfl (by decide) rfl rfl rfl rfl rfl rfl ?_
        refine oc_sum (k := 2) (d := d) hA2 hS2 a2 hm hin hp (by omega) (by omega) (by omega) (fun V3 l3 i3 p3 x3 e3 b1 b2 b3 b4 b5 o1 o2 op b6 b7 b8 b9 h23 hA3 => ?_) (fun cs1 cs0 V3 b1 b2 => ?_)
        skip
        · rw [e3] at e
          have e' := e.trans (if_pos (c := (1 : Nat) = 1) rfl)
          dsimp only at e'
          rw [e'] at h0
          refine x_ifN_ne rfl (fun c58 => ?_) (fun c58 => ?_)
          rotate_left
          · exact absurd c58 (by first | decide | omega)
          refine x_iload_n rfl rfl ?_
          refine x_sipushN (q := 303) rfl ?_
          refine x_icmpN_ne rfl (fun c67 => ?_) (fun c67 => ?_)
          rotate_left
          · exact absurd c67 (by first | decide | omega)
          skip
          refine oc_tail (kd := tc i - 23) (x := x3) (y := dz) (z := dz) (d := d) hA3 b5 h23 hm o2 op b6 (by rw [b2 _ (by omega)]; exact a4) (fun V4 l4 i4 p4 tm fl te q0 q1 q2 q3 q4 q5 q6 q7 q8 q9 q10 q11 q12 => ?_) (fun V4 i4 q0 q1 q2 q3 => h0 V4 i4 q0 q1 ((hF2.trans b1.frK).trans q2.frK) q3)
          refine h1 V4 l4 i4 p4 _ (e'.trans q0) ((hF2.trans b1.frK).trans q1.frK) (fun j hj => by rw [q2 j (by omega) (by omega), b2 j (by omega)]; exact a6 j hj) (fun j hj => by rw [q4 j (by omega), b4 j hj, a7 j]) q5 (by rw [q1 38 2 (by omega) (by omega) (by omega) (by omega)]; exact h23) q6 q7 (by omega) q9 (by omega) (CodR.join (CodR.same b8 (fun k _ b => q4 k b)) q11) ⟨?_, q3, Or.inr (Or.inr ⟨l, ?_, b9.same q10 q4⟩), fun _ => Or.inl ⟨by show tc i - 23 ≠ 0; omega, ?_, ?_⟩, ?_⟩
          · rw [q2 _ (by omega) (by omega), b2 _ (by omega), a3]
            show nI (ct i - 303) = nI (tc i - 23)
            rw [show ct i - 303 = tc i - 23 by omega]
          · rw [q2 _ (by omega) (by omega)]; exact b3
          · rw [q2 _ (by omega) (by omega), b2 _ (by omega)]; exact a5 3 (by omega) (by omega)
          · rw [q2 _ (by omega) (by omega), b2 _ (by omega)]; exact a5 4 (by omega) (by omega)
          · rcases q12 with ⟨t1, t2⟩ | ⟨t1, s, t2, t3⟩
            · refine Or.inl ⟨t1, ?_⟩
              rw [t2, b2 _ (by omega)]
              exact a5 5 (by omega) (by omega)
            · exact Or.inr ⟨t1, s, t2, t3⟩
        · have e' := e.trans (if_neg cs1)
          rw [e'] at h0
          refine x_ifN_ne rfl (fun c58 => ?_) (fun c58 => ?_)
          · exact absurd c58 (by first | decide | omega)
          refine x_iconstN (q := 0) rfl ?_
          refine x_zret rfl rfl (by first | exact Or.inl rfl | exact Or.inr rfl) ?_
          exact h0 V3 _ cs0 rfl (hF2.trans b1.frK) b2
  · have e : pOrdC tc tv i p = (0, i, p, 0, 1, dz, dz, dz, 0, dz) := by
      unfold pOrdC
      rw [if_neg (by omega), if_neg (by omega), if_neg (by omega)]
    rw [e] at h0
    have hk := h0 (up V 37 1 (nI (pl i))) i rfl rfl (FrK.refl.up (by omega)) up_at
    by_cases c3 : 303 ≤ ct i
    · refine x_aload_n rfl rfl ?_
      refine x_callV (M' := mi48) (As := []) (bc1 := 0) (bs1 := 0) (bc2 := 0) (bs2 := 0) rfl rfl rfl rfl ok48 rfl rfl (by decide) rfl rfl rfl rfl rfl rfl ?_
      refine x_token hA hS.1 hi ?_
      refine x_istore_n (ls' := [_, _]) rfl rfl rfl ?_
      refine x_iload_n rfl rfl ?_
      refine x_sipushN (q := 303) rfl ?_
      refine x_icmpN_lt rfl (fun c9 => ?_) (fun c9 => ?_)
      · exact absurd c9 (by first | decide | omega)
      refine x_iload_n rfl rfl ?_
      refine x_sipushN (q := 306) rfl ?_
      refine x_icmpN_le rfl (fun c16 => ?_) (fun c16 => ?_)
      · exact absurd c16 (by first | decide | omega)
      refine x_aload_n rfl rfl ?_
      refine x_callV (M' := mi49) (As := []) (bc1 := 0) (bs1 := 0) (bc2 := 0) (bs2 := 0) rfl rfl rfl rfl ok49 rfl rfl (by decide) rfl rfl rfl rfl rfl rfl ?_
      refine x_wrong hA hS.1 hi ?_
      refine x_zret rfl rfl (by first | exact Or.inl rfl | exact Or.inr rfl) ?_
      exact hk
    · refine x_aload_n rfl rfl ?_
      refine x_callV (M' := mi48) (As := []) (bc1 := 0) (bs1 := 0) (bc2 := 0) (bs2 := 0) rfl rfl rfl rfl ok48 rfl rfl (by decide) rfl rfl rfl rfl rfl rfl ?_
      refine x_token hA hS.1 hi ?_
      refine x_istore_n (ls' := [_, _]) rfl rfl rfl ?_
      refine x_iload_n rfl rfl ?_
      refine x_sipushN (q := 303) rfl ?_
      refine x_icmpN_lt rfl (fun c9 => ?_) (fun c9 => ?_)
      rotate_left
      · exact absurd c9 (by first | decide | omega)
      refine x_aload_n rfl rfl ?_
      refine x_callV (M' := mi49) (As := []) (bc1 := 0) (bs1 := 0) (bc2 := 0) (bs2 := 0) rfl rfl rfl rfl ok49 rfl rfl (by decide) rfl rfl rfl rfl rfl rfl ?_
      refine x_wrong hA hS.1 hi ?_
      refine x_zret rfl rfl (by first | exact Or.inl rfl | exact Or.inr rfl) ?_
      exact hk
end ReadH
