/-! ===== row: what one of its threes does ===== -/
set_option maxRecDepth 20000 in
theorem sg255 : ∀ v, v < 256 → (nI v).toInt8.toInt32 &&& 255 = nI v := by decide +kernel
set_option maxRecDepth 20000 in
theorem sg9 : ∀ v, v < 256 → liesF ((nI v).toInt8.toInt32) 0 9 = decide (v ≤ 9) := by decide +kernel
set_option maxRecDepth 20000 in
theorem sg99 : ∀ v, v < 256 → liesF ((nI v).toInt8.toInt32) 0 99 = decide (v ≤ 99) := by decide +kernel
set_option maxRecDepth 20000 in
theorem sg128 : ∀ v, v < 128 → (nI v).toInt8.toInt32 = nI v := by decide +kernel
set_option maxRecDepth 20000 in
theorem us9 : ∀ v, v < 256 → liesF (nI v) 0 9 = decide (v ≤ 9) := by decide +kernel
set_option maxRecDepth 20000 in
theorem us99 : ∀ v, v < 256 → liesF (nI v) 0 99 = decide (v ≤ 99) := by decide +kernel
set_option maxRecDepth 20000 in
theorem us255 : ∀ v, v < 256 → liesF (nI v) 0 255 = true := by decide +kernel
set_option maxRecDepth 20000 in
theorem canU {a b c : Nat} (ha : a < 256) (hb : b < 256) (hc : c < 256) : canF (nI a) (nI b) (nI c) = decide (a ≤ 9 ∧ b ≤ 99) := by
  rw [← lies3, us9 a ha, us99 b hb, us255 c hc, Bool.and_true, ← Bool.decide_and]
set_option maxRecDepth 20000 in
theorem canS {a b c : Nat} (ha : a < 256) (hb : b < 256) (hc : c < 256) : canF ((nI a).toInt8.toInt32) ((nI b).toInt8.toInt32) (nI c) = decide (a ≤ 9 ∧ b ≤ 99) := by
  rw [← lies3, sg9 a ha, sg99 b hb, us255 c hc, Bool.and_true, ← Bool.decide_and]
-- a three that is a person
def isR (T : Nat → Nat) (tn : Nat) (K : KT) (i : Nat) : Prop := i + 2 < tn ∧ K 93 < 6 ∧ T i ≤ 9 ∧ T (i + 1) ≤ 99
def XTape (tn : Nat) (T : Nat → Nat) (VI : VIT) : Prop := tn ≤ 400 ∧ VI 0 13 = nI tn ∧ ∀ k, k < tn → T k < 256 ∧ VI 72 k = nI (T k)
def MTape (tn : Nat) (T : Nat → Nat) (VI : VIT) : Prop := tn ≤ 400 ∧ ∀ k, k < tn → T k < 256 ∧ VI 81 k = (nI (T k)).toInt8.toInt32
section Row
variable {d : Nat} {VI : VIT} {VL : VLT} {G : VRT} {P : Post} {ext : HL} {K : KT} {tn i : Nat} {T : Nat → Nat}
set_option maxRecDepth 20000 in
theorem s_came_no (hX : RW 3 K VI) (hW : WF K) (hT : XTape tn T VI) (hi : i < 400) (h : ¬ isR T tn K i) (hP : P (some (.int 0)) (LY ++ ext) VI VL (vr G)) : Ex (d + 1) mi149 0 (entL [.ref 0, .int (nI i)] 2) [] (LY ++ ext) VI VL (vr G) 0 0 P := by
  have h4 := hT.1
  have h6 := hW.n
  have ht := hT.2.2
  refine x_iload_n rfl rfl ?_
  refine x_ifN_lt rfl ?_
  refine x_iload_n rfl rfl ?_
  refine x_iconstN (q := 2) rfl ?_
  refine x_iaddN rfl ?_
  refine x_aload_n rfl rfl ?_
  refine x_getE (y := 13) rfl rfl rfl (hT.2.1) ?_
  refine x_icmpN_ge rfl (fun c11 => ?_) (fun c11 => ?_)
  · refine x_iconstN (q := 0) rfl ?_
    refine x_zret rfl rfl (by first | exact Or.inl rfl | exact Or.inr rfl) ?_
    exact hP
  · refine x_aload_n rfl rfl ?_
    refine x_getR (u := .ref _) rfl rfl rfl rfl ?_
    refine x_getE (y := 0) rfl rfl rfl (hX.n) ?_
    refine x_bipushN (q := 6) rfl ?_
    refine x_icmpN_ge rfl (fun c23 => ?_) (fun c23 => ?_)
    · refine x_iconstN (q := 0) rfl ?_
      refine x_zret rfl rfl (by first | exact Or.inl rfl | exact Or.inr rfl) ?_
      exact hP
    · refine x_aload_n rfl rfl ?_
      refine x_getR (u := .ref _) rfl rfl rfl rfl ?_
      refine x_iload_n rfl rfl ?_
      refine x_ialE (j := i) rfl rfl (rfl) (by omega) ((ht i (by omega)).2) ?_
      refine x_aload_n rfl rfl ?_
      refine x_getR (u := .ref _) rfl rfl rfl rfl ?_
      refine x_iload_n rfl rfl ?_
      refine x_iconstN (q := 1) rfl ?_
      refine x_iaddN rfl ?_
      refine x_ialE (j := i + 1) rfl rfl (rfl) (by omega) ((ht (i + 1) (by omega)).2) ?_
      refine x_aload_n rfl rfl ?_
      refine x_getR (u := .ref _) rfl rfl rfl rfl ?_
      refine x_iload_n rfl rfl ?_
      refine x_iconstN (q := 2) rfl ?_
      refine x_iaddN rfl ?_
      refine x_ialE (j := i + 2) rfl rfl (rfl) (by omega) ((ht (i + 2) (by omega)).2) ?_
      refine x_callS (M' := mi90) (As := [_, _, _]) (bc1 := 0) (bs1 := 0) (bc2 := 0) (bs2 := 0) rfl rfl rfl rfl ok90 rfl rfl rfl rfl rfl rfl ?_
      refine s_canBePerson ?_
      rw [canU (ht i (by omega)).1 (ht (i + 1) (by omega)).1 (ht (i + 2) (by omega)).1]
      refine x_if_ne rfl (fun c51 => ?_) (fun c51 => ?_)
      · (have z := b1_ne c51; rw [decide_eq_true_eq] at z; exact absurd ⟨c11, c23, z.1, z.2⟩ h)
      · refine x_iconstN (q := 0) rfl ?_
        refine x_zret rfl rfl (by first | exact Or.inl rfl | exact Or.inr rfl) ?_
        exact hP
set_option maxRecDepth 20000 in
theorem s_came_yes (hX : RW 3 K VI) (hW : WF K) (hT : XTape tn T VI) (h : isR T tn K i) (hP : P (some (.int 1)) (LY ++ ext) (up (up (up (up (up (up (up (up VI 4 (K 93) (nI (T i))) 5 (K 93) (nI (T (i + 1)))) 6 (K 93 * 4 + 0) (nI (T (i + 2) / 2 ^ 6 % 4))) 6 (K 93 * 4 + 1) (nI (T (i + 2) / 2 ^ 4 % 4))) 6 (K 93 * 4 + 2) (nI (T (i + 2) / 2 ^ 2 % 4))) 6 (K 93 * 4 + 3) (nI (T (i + 2) / 2 ^ 0 % 4))) 3 1 (nI (lmK K ||| 1 * 2 ^ K 93))) 3 0 (nI (K 93 + 1))) VL (vr G)) : Ex (d + 1) mi149 0 (entL [.ref 0, .int (nI i)] 2) [] (LY ++ ext) VI VL (vr G) 0 0 P := by
  have h4 := hT.1
  have h6 := hW.n
  have ht := hT.2.2
  obtain ⟨h1, h2, h3, h5⟩ := h
  refine x_iload_n rfl rfl ?_
  refine x_ifN_lt rfl ?_
  refine x_iload_n rfl rfl ?_
  refine x_iconstN (q := 2) rfl ?_
  refine x_iaddN rfl ?_
  refine x_aload_n rfl rfl ?_
  refine x_getE (y := 13) rfl rfl rfl (hT.2.1) ?_
  refine x_icmpN_ge rfl (fun c11 => ?_) (fun c11 => ?_)
  · exact absurd c11 (by first | decide | omega)
  refine x_aload_n rfl rfl ?_
  refine x_getR (u := .ref _) rfl rfl rfl rfl ?_
  refine x_getE (y := 0) rfl rfl rfl (hX.n) ?_
  refine x_bipushN (q := 6) rfl ?_
  refine x_icmpN_ge rfl (fun c23 => ?_) (fun c23 => ?_)
  · exact absurd c23 (by first | decide | omega)
  refine x_aload_n rfl rfl ?_
  refine x_getR (u := .ref _) rfl rfl rfl rfl ?_
  refine x_iload_n rfl rfl ?_
  refine x_ialE (j := i) rfl rfl (rfl) (by omega) ((ht i (by omega)).2) ?_
  refine x_aload_n rfl rfl ?_
  refine x_getR (u := .ref _) rfl rfl rfl rfl ?_
  refine x_iload_n rfl rfl ?_
  refine x_iconstN (q := 1) rfl ?_
  refine x_iaddN rfl ?_
  refine x_ialE (j := i + 1) rfl rfl (rfl) (by omega) ((ht (i + 1) (by omega)).2) ?_
  refine x_aload_n rfl rfl ?_
  refine x_getR (u := .ref _) rfl rfl rfl rfl ?_
  refine x_iload_n rfl rfl ?_
  refine x_iconstN (q := 2) rfl ?_
  refine x_iaddN rfl ?_
  refine x_ialE (j := i + 2) rfl rfl (rfl) (by omega) ((ht (i + 2) (by omega)).2) ?_
  refine x_callS (M' := mi90) (As := [_, _, _]) (bc1 := 0) (bs1 := 0) (bc2 := 0) (bs2 := 0) rfl rfl rfl rfl ok90 rfl rfl rfl rfl rfl rfl ?_
  refine s_canBePerson ?_
  rw [canU (ht i (by omega)).1 (ht (i + 1) (by omega)).1 (ht (i + 2) (by omega)).1, decide_eq_true ⟨h3, h5⟩]
  refine x_if_ne rfl (fun c51 => ?_) (fun c51 => ?_)
  rotate_left
  · exact absurd c51 (by first | decide | omega)
  refine x_aload_n rfl rfl ?_
  refine x_getR (u := .ref _) rfl rfl rfl rfl ?_
  refine x_aload_n rfl rfl ?_
  refine x_getR (u := .ref _) rfl rfl rfl rfl ?_
  refine x_iload_n rfl rfl ?_
  refine x_ialE (j := i) rfl rfl (rfl) (by omega) ((ht i (by omega)).2) ?_
  refine x_aload_n rfl rfl ?_
  refine x_getR (u := .ref _) rfl rfl rfl rfl ?_
  refine x_iload_n rfl rfl ?_
  refine x_iconstN (q := 1) rfl ?_
  refine x_iaddN rfl ?_
  refine x_ialE (j := i + 1) rfl rfl (rfl) (by omega) ((ht (i + 1) (by omega)).2) ?_
  refine x_aload_n rfl rfl ?_
  refine x_getR (u := .ref _) rfl rfl rfl rfl ?_
  refine x_iload_n rfl rfl ?_
  refine x_iconstN (q := 2) rfl ?_
  refine x_iaddN rfl ?_
  refine x_ialE (j := i + 2) rfl rfl (rfl) (by omega) ((ht (i + 2) (by omega)).2) ?_
  refine x_callV (M' := mi91) (As := [_, _, _]) (bc1 := 0) (bs1 := 0) (bc2 := 0) (bs2 := 0) rfl rfl rfl rfl ok91 rfl rfl (by decide) rfl rfl rfl rfl rfl rfl ?_
  refine s_addPerson hX.n h2 hX.lm (ht (i + 2) (by omega)).1 ?_
  refine x_pop rfl rfl ?_
  refine x_iconst rfl ?_
  refine x_zret rfl rfl (by first | exact Or.inl rfl | exact Or.inr rfl) ?_
  exact hP
end Row
-- the threes from the first on: the row of people, how many came, how much grain
def rowA (T : Nat → Nat) (tn : Nat) (K : KT) : Nat → KT × Nat × Nat
  | 0 => (K, 0, 0)
  | t + 1 => if 3 * t + 2 < tn ∧ (rowA T tn K t).1 93 < 6 ∧ T (3 * t) ≤ 9 ∧ T (3 * t + 1) ≤ 99 then (addK (rowA T tn K t).1 (T (3 * t)) (T (3 * t + 1)) (T (3 * t + 2)), (rowA T tn K t).2.1 + 1, (rowA T tn K t).2.2) else ((rowA T tn K t).1, (rowA T tn K t).2.1, (rowA T tn K t).2.2 + 1)
set_option maxRecDepth 20000 in
theorem rowA_yes {T : Nat → Nat} {tn t : Nat} {K : KT} (h : isR T tn (rowA T tn K t).1 (3 * t)) : rowA T tn K (t + 1) = (addK (rowA T tn K t).1 (T (3 * t)) (T (3 * t + 1)) (T (3 * t + 2)), (rowA T tn K t).2.1 + 1, (rowA T tn K t).2.2) := if_pos h
set_option maxRecDepth 20000 in
theorem rowA_no {T : Nat → Nat} {tn t : Nat} {K : KT} (h : ¬ isR T tn (rowA T tn K t).1 (3 * t)) : rowA T tn K (t + 1) = ((rowA T tn K t).1, (rowA T tn K t).2.1, (rowA T tn K t).2.2 + 1) := if_neg h
set_option maxRecDepth 20000 in
theorem rowA_WF {T : Nat → Nat} {tn : Nat} {K : KT} (hW : WF K) : ∀ t, WF (rowA T tn K t).1 ∧ (rowA T tn K t).2.1 ≤ t ∧ (rowA T tn K t).2.2 ≤ t ∧ (∀ i, 51 ≤ i → i ≠ 93 → (rowA T tn K t).1 i = K i)
  | 0 => ⟨hW, Nat.le_refl _, Nat.le_refl _, fun _ _ _ => rfl⟩
  | t + 1 => by
    obtain ⟨h1, h2, h3, h4⟩ := rowA_WF hW t (T := T) (tn := tn)
    by_cases h : isR T tn (rowA T tn K t).1 (3 * t)
    · rw [rowA_yes h]
      refine ⟨addK_WF h1 h.2.1 h.2.2.1 h.2.2.2, Nat.succ_le_succ h2, Nat.le_succ_of_le h3, fun i hi hn => ?_⟩
      have := h.2.1
      show addK _ _ _ _ i = _
      rw [addK_ne (by omega) (by omega) (by omega) (by omega) hn]; exact h4 i hi hn
    · rw [rowA_no h]
      exact ⟨h1, Nat.le_succ_of_le h2, Nat.succ_le_succ h3, h4⟩
