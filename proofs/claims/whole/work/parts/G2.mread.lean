/-! ===== the model reads a text ===== -/
section ReadL
variable {d : Nat} {V0 V : VIT} {VL : VLT} {G : VRT} {P : Post} {ext : HL} {o : Bool} {N i p : Nat} {tc tv pl : Nat → Nat}
set_option maxRecDepth 20000 in
theorem m_readOne (hA : TkA o N tc tv pl V0) (hF : FrRM V0 V) (hS : MS i p V) (hi : i ≤ N) (hp : p ≤ 50)
  (h1 : ∀ (V' : VIT) (i' p' : Nat) (c : Cla), pCl o tc tv i p = (1, i', p', c) → FrRM V0 V' → MS i' p' V' → i' ≤ N → p' ≤ 50 → P none (LY ++ ext) V' VL (vr G))
  (h0 : ∀ (V' : VIT) (i' : Nat), (pCl o tc tv i p).1 = 0 → (pCl o tc tv i p).2.1 = i' → FrRM V0 V' → V' 74 21 = nI (pl i') → P none (LY ++ ext) V' VL (vr G)) : Ex (d + 36) mi203 0 (entL [.ref 74] 1) [] (LY ++ ext) V VL (vr G) 0 0 P := by
  have hO := (hA.fr hF).2.2.2.1
  cases o with
  | false =>
    have hO3 : V 74 10 = nI 0 := hO
    refine x_aload_n rfl rfl ?_
    refine x_getE (y := 10) rfl rfl rfl hO3 ?_
    refine x_ifN_eq rfl (fun c4 => ?_) (fun c4 => ?_)
    rotate_left
    · exact absurd c4 (by first | decide | omega)
    refine x_aload_n rfl rfl ?_
    refine x_callV (M' := mi201) (As := []) (bc1 := 0) (bs1 := 0) (bc2 := 0) (bs2 := 0) rfl rfl rfl rfl ok201 rfl rfl (by decide) rfl rfl rfl rfl rfl rfl ?_
    refine m_readClause (d := d) hA hF hS hi hp (fun V' i' p' c a1 a2 a3 a4 a5 => ?_) (fun V' i' a1 a2 a3 a4 => ?_)
    skip
    · refine x_vret rfl rfl ?_
      exact h1 V' i' p' c a1 a2 a3 a4 a5
    · refine x_vret rfl rfl ?_
      exact h0 V' i' a1 a2 a3 a4 | true =>
    have hO3 : V 74 10 = nI 1 := hO
    refine x_aload_n rfl rfl ?_
    refine x_getE (y := 10) rfl rfl rfl hO3 ?_
    refine x_ifN_eq rfl (fun c4 => ?_) (fun c4 => ?_)
    · exact absurd c4 (by first | decide | omega)
    refine x_aload_n rfl rfl ?_
    refine x_callV (M' := mi202) (As := []) (bc1 := 0) (bs1 := 0) (bc2 := 0) (bs2 := 0) rfl rfl rfl rfl ok202 rfl rfl (by decide) rfl rfl rfl rfl rfl rfl ?_
    refine m_readOrder (d := d) hA hF hS hi hp (fun V' i' p' c a1 a2 a3 a4 a5 => ?_) (fun V' i' a1 a2 a3 a4 => ?_)
    skip
    · refine x_goto rfl ?_
      refine x_vret rfl rfl ?_
      exact h1 V' i' p' c a1 a2 a3 a4 a5
    · refine x_goto rfl ?_
      refine x_vret rfl rfl ?_
      exact h0 V' i' a1 a2 a3 a4
/-- what is left behind a clause -/
def tlR (o : Bool) (tc tv : Nat → Nat) (N m i p : Nat) : Nat × Nat := if i = N then (1, N) else if tc i = 159 then ((pTxt o tc tv N m (i + 1) p).1, (pTxt o tc tv N m (i + 1) p).2.1) else (0, i)
set_option maxRecDepth 20000 in
theorem pTxt_t {m : Nat} : ((pTxt o tc tv N (m + 1) i p).1, (pTxt o tc tv N (m + 1) i p).2.1) = if (pCl o tc tv i p).1 = 1 then tlR o tc tv N m (pCl o tc tv i p).2.1 (pCl o tc tv i p).2.2.1 else ((pCl o tc tv i p).1, (pCl o tc tv i p).2.1) := by
  rw [pTxt_s]
  unfold tlR
  split
  · split
    · rfl
    · split <;> rfl
  · rfl
def FrMR (V0 V : VIT) : Prop := ∀ a k, ¬ (a = 74 ∧ (k = 8 ∨ k = 9 ∨ k = 10 ∨ k = 13 ∨ k = 14 ∨ (18 ≤ k ∧ k ≤ 21))) → a ≠ 83 → a ≠ 84 → a ≠ 85 → V a k = V0 a k
set_option maxRecDepth 20000 in
theorem FrRM.frMR {V0 V : VIT} (h : FrRM V0 V) : FrMR V0 V := fun a k q1 _ _ _ => h a k (by omega)
set_option maxRecDepth 20000 in
theorem FrMR.trans {V0 V1 V2 : VIT} (h1 : FrMR V0 V1) (h2 : FrMR V1 V2) : FrMR V0 V2 := fun a k q1 q2 q3 q4 => (h2 a k q1 q2 q3 q4).trans (h1 a k q1 q2 q3 q4)
set_option maxRecDepth 20000 in
theorem mr_end1 {z1 : Value} (hF : FrRM V0 V) (hS : MS N p V) (h18 : V0 74 18 = nI N) (hN : N ≤ 400) (hP : P (some (.int (nI 1))) (LY ++ ext) (up V 74 14 (-1)) VL (vr G)) : Ex (d + 37) mi210 73 [.ref 74, z1] [] (LY ++ ext) V VL (vr G) 0 0 P := by
  have h18' : V 74 18 = nI N := (hF 74 18 (by omega)).trans h18
  refine x_aload_n rfl rfl ?_
  refine x_callV (M' := mi194) (As := []) (bc1 := 0) (bs1 := 0) (bc2 := 0) (bs2 := 0) rfl rfl rfl rfl ok194 rfl rfl (by decide) rfl rfl rfl rfl rfl rfl ?_
  refine m_fine1 hS.2.2 ?_
  refine x_ifN_eq rfl (fun c77 => ?_) (fun c77 => ?_)
  · exact absurd c77 (by first | decide | omega)
  refine x_aload_n rfl rfl ?_
  refine x_getE (y := 19) rfl rfl rfl hS.1 ?_
  refine x_aload_n rfl rfl ?_
  refine x_getE (y := 18) rfl rfl rfl h18' ?_
  refine x_icmpN_ge rfl (fun c88 => ?_) (fun c88 => ?_)
  rotate_left
  · exact absurd c88 (by first | decide | omega)
  refine x_aload_n rfl rfl ?_
  refine x_aload_n rfl rfl ?_
  refine x_getE (y := 21) rfl rfl rfl hS.2.2 ?_
  refine x_putI rfl rfl rfl rfl ?_
  refine x_aload_n rfl rfl ?_
  refine x_callV (M' := mi194) (As := []) (bc1 := 0) (bs1 := 0) (bc2 := 0) (bs2 := 0) rfl rfl rfl rfl ok194 rfl rfl (by decide) rfl rfl rfl rfl rfl rfl ?_
  refine m_fine1 ((up_ne2 (by omega)).trans hS.2.2) ?_
  refine x_zret rfl rfl (by first | exact Or.inl rfl | exact Or.inr rfl) ?_
  exact hP
set_option maxRecDepth 20000 in
theorem mr_bad {b : Nat} {z1 : Value} (h : V 74 21 = nI b) (hb : b ≤ 400) (hP : P (some (.int (nI 0))) (LY ++ ext) (up V 74 14 (nI b)) VL (vr G)) : Ex (d + 37) mi210 73 [.ref 74, z1] [] (LY ++ ext) V VL (vr G) 0 0 P := by
  refine x_aload_n rfl rfl ?_
  refine x_callV (M' := mi194) (As := []) (bc1 := 0) (bs1 := 0) (bc2 := 0) (bs2 := 0) rfl rfl rfl rfl ok194 rfl rfl (by decide) rfl rfl rfl rfl rfl rfl ?_
  refine m_fine0 h hb ?_
  refine x_ifN_eq rfl (fun c77 => ?_) (fun c77 => ?_)
  rotate_left
  · exact absurd c77 (by first | decide | omega)
  refine x_aload_n rfl rfl ?_
  refine x_aload_n rfl rfl ?_
  refine x_getE (y := 21) rfl rfl rfl h ?_
  refine x_putI rfl rfl rfl rfl ?_
  refine x_aload_n rfl rfl ?_
  refine x_callV (M' := mi194) (As := []) (bc1 := 0) (bs1 := 0) (bc2 := 0) (bs2 := 0) rfl rfl rfl rfl ok194 rfl rfl (by decide) rfl rfl rfl rfl rfl rfl ?_
  refine m_fine0 ((up_ne2 (by omega)).trans h) hb ?_
  refine x_zret rfl rfl (by first | exact Or.inl rfl | exact Or.inr rfl) ?_
  exact hP
set_option maxRecDepth 20000 in
theorem mr_bad34 {b : Nat} {z1 : Value} (h : V 74 21 = nI b) (hb : b ≤ 400) (hP : P (some (.int (nI 0))) (LY ++ ext) (up V 74 14 (nI b)) VL (vr G)) : Ex (d + 37) mi210 34 [.ref 74, z1] [] (LY ++ ext) V VL (vr G) 0 0 P := by
  refine x_aload_n rfl rfl ?_
  refine x_bipushN (q := 59) rfl ?_
  refine x_callS (M' := mi199) (As := [_]) (bc1 := 0) (bs1 := 0) (bc2 := 0) (bs2 := 0) rfl rfl rfl rfl ok199 rfl rfl rfl rfl rfl rfl ?_
  refine m_sign (by omega) ?_
  refine x_callV (M' := mi196) (As := [_]) (bc1 := 0) (bs1 := 0) (bc2 := 0) (bs2 := 0) rfl rfl rfl rfl ok196 rfl rfl (by decide) rfl rfl rfl rfl rfl rfl ?_
  refine m_takesB h hb ?_
  refine x_ifN_eq rfl (fun c43 => ?_) (fun c43 => ?_)
  rotate_left
  · exact absurd c43 (by first | decide | omega)
  exact mr_bad h hb hP
set_option maxRecDepth 20000 in
theorem mr_go (hA : TkA o N tc tv pl V0) (h18 : V0 74 18 = nI N) {R : Nat × Nat}
  (h1 : R.1 = 1 → ∀ V' : VIT, FrRM V0 V' → P (some (.int (nI 1))) (LY ++ ext) (up V' 74 14 (-1)) VL (vr G))
  (h0 : R.1 = 0 → ∀ V' : VIT, FrRM V0 V' → P (some (.int (nI 0))) (LY ++ ext) (up V' 74 14 (nI (pl R.2))) VL (vr G)) :
  ∀ (m q i p : Nat) (V : VIT), q + m = 12 → FrRM V0 V → MS i p V → i ≤ N → p ≤ 50 → R = tlR o tc tv N m i p → Ex (d + 37) mi210 34 [.ref 74, .int (nI q)] [] (LY ++ ext) V VL (vr G) 0 0 P := by
  have hN := hA.2.2.2.2.1
  have hpl := fun j => (hA.2.2.2.2.2.2 j).2.2
  intro m
  induction m with
  | zero =>
    intro q i p V hq hF hS hi hp hR
    have hA1 := hA.fr hF
    have hci := (hA.2.2.2.2.2.2 i).1
    by_cases cN : i = N
    · subst cN
      have e0 := hA.2.2.2.2.2.1 i (Nat.le_refl _)
      have hR2 : R = (1, i) := hR.trans (if_pos rfl)
      refine x_aload_n rfl rfl ?_
      refine x_bipushN (q := 59) rfl ?_
      refine x_callS (M' := mi199) (As := [_]) (bc1 := 0) (bs1 := 0) (bc2 := 0) (bs2 := 0) rfl rfl rfl rfl ok199 rfl rfl rfl rfl rfl rfl ?_
      refine m_sign (by omega) ?_
      refine x_callV (M' := mi196) (As := [_]) (bc1 := 0) (bs1 := 0) (bc2 := 0) (bs2 := 0) rfl rfl rfl rfl ok196 rfl rfl (by decide) rfl rfl rfl rfl rfl rfl ?_
      refine m_takesN hA1 hS hi (by omega) (by omega) ?_
      refine x_ifN_eq rfl (fun c43 => ?_) (fun c43 => ?_)
      rotate_left
      · exact absurd c43 (by first | decide | omega)
      exact mr_end1 hF hS h18 hN (h1 (by rw [hR2]) V hF)
    · by_cases c9 : tc i = 159
      · have hR2 : R = (0, i + 1) := hR.trans ((if_neg cN).trans (if_pos c9))
        have hFt : FrRM V0 (up V 74 19 (nI (i + 1))) := hF.up (by omega)
        have hk := h0 (by rw [hR2]) (up (up V 74 19 (nI (i + 1))) 74 21 (nI (pl (i + 1)))) (hFt.up (by omega))
        rw [hR2] at hk
        refine x_aload_n rfl rfl ?_
        refine x_bipushN (q := 59) rfl ?_
        refine x_callS (M' := mi199) (As := [_]) (bc1 := 0) (bs1 := 0) (bc2 := 0) (bs2 := 0) rfl rfl rfl rfl ok199 rfl rfl rfl rfl rfl rfl ?_
        refine m_sign (by omega) ?_
        refine x_callV (M' := mi196) (As := [_]) (bc1 := 0) (bs1 := 0) (bc2 := 0) (bs2 := 0) rfl rfl rfl rfl ok196 rfl rfl (by decide) rfl rfl rfl rfl rfl rfl ?_
        refine m_takes1 hA1 hS hi c9 ?_
        refine x_ifN_eq rfl (fun c43 => ?_) (fun c43 => ?_)
        · exact absurd c43 (by first | decide | omega)
        refine x_iload_n rfl rfl ?_
        refine x_bipushN (q := 12) rfl ?_
        refine x_icmpN_ne rfl (fun c49 => ?_) (fun c49 => ?_)
        · exact absurd c49 (by first | decide | omega)
        refine x_aload_n rfl rfl ?_
        refine x_callV (M' := mi195) (As := []) (bc1 := 0) (bs1 := 0) (bc2 := 0) (bs2 := 0) rfl rfl rfl rfl ok195 rfl rfl (by decide) rfl rfl rfl rfl rfl rfl ?_
        refine m_faults1 (hA.fr hFt) hS.tok (by omega) ?_
        refine x_aload_n rfl rfl ?_
        refine x_callV (M' := mi194) (As := []) (bc1 := 0) (bs1 := 0) (bc2 := 0) (bs2 := 0) rfl rfl rfl rfl ok194 rfl rfl (by decide) rfl rfl rfl rfl rfl rfl ?_
        refine m_fine0 up_at (hpl _) ?_
        refine x_ifN_eq rfl (fun c60 => ?_) (fun c60 => ?_)
        rotate_left
        · exact absurd c60 (by first | decide | omega)
        refine x_iincN (q := 1) (ls' := [_, _]) rfl rfl rfl rfl ?_
        refine x_goto rfl ?_
        exact mr_bad34 up_at (hpl _) hk
      · have hR2 : R = (0, i) := hR.trans ((if_neg cN).trans (if_neg c9))
        have hk := h0 (by rw [hR2]) (up V 74 21 (nI (pl i))) (hF.up (by omega))
        rw [hR2] at hk
        have h18' : V 74 18 = nI N := (hF 74 18 (by omega)).trans h18
        refine x_aload_n rfl rfl ?_
        refine x_bipushN (q := 59) rfl ?_
        refine x_callS (M' := mi199) (As := [_]) (bc1 := 0) (bs1 := 0) (bc2 := 0) (bs2 := 0) rfl rfl rfl rfl ok199 rfl rfl rfl rfl rfl rfl ?_
        refine m_sign (by omega) ?_
        refine x_callV (M' := mi196) (As := [_]) (bc1 := 0) (bs1 := 0) (bc2 := 0) (bs2 := 0) rfl rfl rfl rfl ok196 rfl rfl (by decide) rfl rfl rfl rfl rfl rfl ?_
        refine m_takesN hA1 hS hi (by omega) c9 ?_
        refine x_ifN_eq rfl (fun c43 => ?_) (fun c43 => ?_)
        rotate_left
        · exact absurd c43 (by first | decide | omega)
        refine x_aload_n rfl rfl ?_
        refine x_callV (M' := mi194) (As := []) (bc1 := 0) (bs1 := 0) (bc2 := 0) (bs2 := 0) rfl rfl rfl rfl ok194 rfl rfl (by decide) rfl rfl rfl rfl rfl rfl ?_
        refine m_fine1 hS.2.2 ?_
        refine x_ifN_eq rfl (fun c77 => ?_) (fun c77 => ?_)
        · exact absurd c77 (by first | decide | omega)
        refine x_aload_n rfl rfl ?_
        refine x_getE (y := 19) rfl rfl rfl hS.1 ?_
        refine x_aload_n rfl rfl ?_
        refine x_getE (y := 18) rfl rfl rfl h18' ?_
        refine x_icmpN_ge rfl (fun c88 => ?_) (fun c88 => ?_)
        · exact absurd c88 (by first | decide | omega)
        refine x_aload_n rfl rfl ?_
        refine x_callV (M' := mi195) (As := []) (bc1 := 0) (bs1 := 0) (bc2 := 0) (bs2 := 0) rfl rfl rfl rfl ok195 rfl rfl (by decide) rfl rfl rfl rfl rfl rfl ?_
        refine m_faults1 hA1 hS hi ?_
        refine x_aload_n rfl rfl ?_
        refine x_aload_n rfl rfl ?_
        refine x_getE (y := 21) rfl rfl rfl up_at ?_
        refine x_putI rfl rfl rfl rfl ?_
        refine x_aload_n rfl rfl ?_
        refine x_callV (M' := mi194) (As := []) (bc1 := 0) (bs1 := 0) (bc2 := 0) (bs2 := 0) rfl rfl rfl rfl ok194 rfl rfl (by decide) rfl rfl rfl rfl rfl rfl ?_
        refine m_fine0 ((up_ne2 (by omega)).trans up_at) (hpl i) ?_
        refine x_zret rfl rfl (by first | exact Or.inl rfl | exact Or.inr rfl) ?_
        exact hk | succ m ih =>
    intro q i p V hq hF hS hi hp hR
    have hA1 := hA.fr hF
    have hci := (hA.2.2.2.2.2.2 i).1
    by_cases cN : i = N
    · subst cN
      have e0 := hA.2.2.2.2.2.1 i (Nat.le_refl _)
      have hR2 : R = (1, i) := hR.trans (if_pos rfl)
      refine x_aload_n rfl rfl ?_
      refine x_bipushN (q := 59) rfl ?_
      refine x_callS (M' := mi199) (As := [_]) (bc1 := 0) (bs1 := 0) (bc2 := 0) (bs2 := 0) rfl rfl rfl rfl ok199 rfl rfl rfl rfl rfl rfl ?_
      refine m_sign (by omega) ?_
      refine x_callV (M' := mi196) (As := [_]) (bc1 := 0) (bs1 := 0) (bc2 := 0) (bs2 := 0) rfl rfl rfl rfl ok196 rfl rfl (by decide) rfl rfl rfl rfl rfl rfl ?_
      refine m_takesN hA1 hS hi (by omega) (by omega) ?_
      refine x_ifN_eq rfl (fun c43 => ?_) (fun c43 => ?_)
      rotate_left
      · exact absurd c43 (by first | decide | omega)
      exact mr_end1 hF hS h18 hN (h1 (by rw [hR2]) V hF)
    · by_cases c9 : tc i = 159
      · have hin : i < N := by omega
        have hR2 : R = _ := hR.trans ((if_neg cN).trans (if_pos c9))
        rw [pTxt_t] at hR2
        have hFt : FrRM V0 (up V 74 19 (nI (i + 1))) := hF.up (by omega)
        refine x_aload_n rfl rfl ?_
        refine x_bipushN (q := 59) rfl ?_
        refine x_callS (M' := mi199) (As := [_]) (bc1 := 0) (bs1 := 0) (bc2 := 0) (bs2 := 0) rfl rfl rfl rfl ok199 rfl rfl rfl rfl rfl rfl ?_
        refine m_sign (by omega) ?_
        refine x_callV (M' := mi196) (As := [_]) (bc1 := 0) (bs1 := 0) (bc2 := 0) (bs2 := 0) rfl rfl rfl rfl ok196 rfl rfl (by decide) rfl rfl rfl rfl rfl rfl ?_
        refine m_takes1 hA1 hS hi c9 ?_
        refine x_ifN_eq rfl (fun c43 => ?_) (fun c43 => ?_)
        · exact absurd c43 (by first | decide | omega)
        refine x_iload_n rfl rfl ?_
        refine x_bipushN (q := 12) rfl ?_
        refine x_icmpN_ne rfl (fun c49 => ?_) (fun c49 => ?_)
        rotate_left
        · exact absurd c49 (by first | decide | omega)
        refine x_aload_n rfl rfl ?_
        refine x_callV (M' := mi194) (As := []) (bc1 := 0) (bs1 := 0) (bc2 := 0) (bs2 := 0) rfl rfl rfl rfl ok194 rfl rfl (by decide) rfl rfl rfl rfl rfl rfl ?_
        refine m_fine1 hS.tok.2.2 ?_
        refine x_ifN_eq rfl (fun c60 => ?_) (fun c60 => ?_)
        · exact absurd c60 (by first | decide | omega)
        refine x_aload_n rfl rfl ?_
        refine x_callV (M' := mi203) (As := []) (bc1 := 0) (bs1 := 0) (bc2 := 0) (bs2 := 0) rfl rfl rfl rfl ok203 rfl rfl (by decide) rfl rfl rfl rfl rfl rfl ?_
        refine m_readOne (d := d) hA hFt hS.tok hin hp (fun V' i' p' c a1 a2 a3 a4 a5 => ?_) (fun V' i' a1 a2 a3 a4 => ?_)
        skip
        · rw [a1] at hR2
          refine x_iincN (q := 1) (ls' := [_, _]) rfl rfl rfl rfl ?_
          refine x_goto rfl ?_
          exact ih (q + 1) i' p' V' (by omega) a2 a3 a4 a5 (hR2.trans (if_pos rfl))
        · rw [if_neg (by omega)] at hR2
          have hk := h0 (by rw [hR2]; exact a1) V' a3
          rw [hR2] at hk
          have hk2 : P (some (.int (nI 0))) (LY ++ ext) (up V' 74 14 (nI (pl i'))) VL (vr G) := by rw [← a2]; exact hk
          refine x_iincN (q := 1) (ls' := [_, _]) rfl rfl rfl rfl ?_
          refine x_goto rfl ?_
          exact mr_bad34 a4 (hpl _) hk2
      · have hR2 : R = (0, i) := hR.trans ((if_neg cN).trans (if_neg c9))
        have hk := h0 (by rw [hR2]) (up V 74 21 (nI (pl i))) (hF.up (by omega))
        rw [hR2] at hk
        have h18' : V 74 18 = nI N := (hF 74 18 (by omega)).trans h18
        refine x_aload_n rfl rfl ?_
        refine x_bipushN (q := 59) rfl ?_
        refine x_callS (M' := mi199) (As := [_]) (bc1 := 0) (bs1 := 0) (bc2 := 0) (bs2 := 0) rfl rfl rfl rfl ok199 rfl rfl rfl rfl rfl rfl ?_
        refine m_sign (by omega) ?_
        refine x_callV (M' := mi196) (As := [_]) (bc1 := 0) (bs1 := 0) (bc2 := 0) (bs2 := 0) rfl rfl rfl rfl ok196 rfl rfl (by decide) rfl rfl rfl rfl rfl rfl ?_
        refine m_takesN hA1 hS hi (by omega) c9 ?_
        refine x_ifN_eq rfl (fun c43 => ?_) (fun c43 => ?_)
        rotate_left
        · exact absurd c43 (by first | decide | omega)
        refine x_aload_n rfl rfl ?_
        refine x_callV (M' := mi194) (As := []) (bc1 := 0) (bs1 := 0) (bc2 := 0) (bs2 := 0) rfl rfl rfl rfl ok194 rfl rfl (by decide) rfl rfl rfl rfl rfl rfl ?_
        refine m_fine1 hS.2.2 ?_
        refine x_ifN_eq rfl (fun c77 => ?_) (fun c77 => ?_)
        · exact absurd c77 (by first | decide | omega)
        refine x_aload_n rfl rfl ?_
        refine x_getE (y := 19) rfl rfl rfl hS.1 ?_
        refine x_aload_n rfl rfl ?_
        refine x_getE (y := 18) rfl rfl rfl h18' ?_
        refine x_icmpN_ge rfl (fun c88 => ?_) (fun c88 => ?_)
        · exact absurd c88 (by first | decide | omega)
        refine x_aload_n rfl rfl ?_
        refine x_callV (M' := mi195) (As := []) (bc1 := 0) (bs1 := 0) (bc2 := 0) (bs2 := 0) rfl rfl rfl rfl ok195 rfl rfl (by decide) rfl rfl rfl rfl rfl rfl ?_
        refine m_faults1 hA1 hS hi ?_
        refine x_aload_n rfl rfl ?_
        refine x_aload_n rfl rfl ?_
        refine x_getE (y := 21) rfl rfl rfl up_at ?_
        refine x_putI rfl rfl rfl rfl ?_
        refine x_aload_n rfl rfl ?_
        refine x_callV (M' := mi194) (As := []) (bc1 := 0) (bs1 := 0) (bc2 := 0) (bs2 := 0) rfl rfl rfl rfl ok194 rfl rfl (by decide) rfl rfl rfl rfl rfl rfl ?_
        refine m_fine0 ((up_ne2 (by omega)).trans up_at) (hpl i) ?_
        refine x_zret rfl rfl (by first | exact Or.inl rfl | exact Or.inr rfl) ?_
        exact hk
end ReadL
section ReadM
variable {d : Nat} {V0 V : VIT} {VL : VLT} {G : VRT} {P : Post} {ext : HL} {o : Bool} {n : Nat} {T tc tv : Nat → Nat}
/-- the model's tokens in its arrays -/
def TkM (N : Nat) (tc tv : Nat → Nat) (V : VIT) : Prop := V 74 18 = nI N ∧ ∀ i, i < N → V 83 i = nI (tc i) ∧ V 84 i = nI (tv i)
set_option maxRecDepth 20000 in
theorem tkA_of (hn : n ≤ 400) (hK : TokC T n tc tv) (h : MdT T (Tks T n) V) (h83 : V 83 (Tks T n).length = nI 0) (h84 : V 84 (Tks T n).length = nI 0) (h85 : V 85 (Tks T n).length = nI n) (h8 : V 74 8 = nI (if o = true then 15 else 8)) (h9 : V 74 9 = nI (if o = true then 20 else 16)) (h10 : V 74 10 = nI (if o = true then 1 else 0)) : TkA o (Tks T n).length tc tv (plT T n) V := by
  have hlen : (Tks T n).length ≤ n - 0 := tks_len n 0
  refine ⟨fun i hi => ?_, h8, h9, h10, by omega, fun i hi => (hK.2.1 i hi).1, fun i => ⟨(hK.2.2 i).1, (hK.2.2 i).2, by have := plT_le (T := T) (n := n) i; omega⟩⟩
  by_cases c : i < (Tks T n).length
  · have hs := List.getElem?_eq_getElem c
    obtain ⟨c', v', m1, m2, m3, m4⟩ := h i _ hs
    obtain ⟨e1, e2⟩ := mtk_uni m1 (hK.1 i _ hs)
    rw [← e1, ← e2, plT_in hs]
    exact ⟨m2, m3, m4⟩
  · have e : i = (Tks T n).length := by omega
    obtain ⟨k1, k2⟩ := hK.2.1 i (by omega)
    rw [k1, k2, e, plT_end (Nat.le_refl _)]
    exact ⟨h83, h84, h85⟩
set_option maxRecDepth 20000 in
theorem m_reads (hn : n ≤ 400) (h80 : V 80 = VIm 80) (h13 : V 74 13 = nI n) (hT : ∀ k, k < n → T k < 256 ∧ V 81 k = sB (T k)) (hK : TokC T n tc tv) (g8 : V 74 8 = nI (if o = true then 15 else 8)) (g9 : V 74 9 = nI (if o = true then 20 else 16)) (g10 : V 74 10 = nI (if o = true then 1 else 0))
  (h1 : (pTxt o tc tv (Tks T n).length 12 0 0).1 = 1 → ∀ V' : VIT, FrMR V V' → V' 74 13 = nI 0 → V' 74 14 = -1 → TkM (Tks T n).length tc tv V' → P (some (.int (nI 1))) (LY ++ ext) V' VL (vr G))
  (h0 : (pTxt o tc tv (Tks T n).length 12 0 0).1 = 0 → ∀ V' : VIT, FrMR V V' → V' 74 13 = nI 0 → V' 74 14 = nI (plT T n (pTxt o tc tv (Tks T n).length 12 0 0).2.1) → P (some (.int (nI 0))) (LY ++ ext) V' VL (vr G)) : Ex (d + 37) mi210 0 (entL [.ref 74] 2) [] (LY ++ ext) V VL (vr G) 0 0 P := by
  have hlen : (Tks T n).length ≤ n - 0 := tks_len n 0
  refine x_aload_n rfl rfl ?_
  refine x_aload_n rfl rfl ?_
  refine x_getE (y := 13) rfl rfl rfl h13 ?_
  refine x_callV (M' := mi193) (As := [_]) (bc1 := 0) (bs1 := 0) (bc2 := 0) (bs2 := 0) rfl rfl rfl rfl ok193 rfl rfl (by decide) rfl rfl rfl rfl rfl rfl ?_
  refine m_splits hn h80 hT (fun V3 F3 M3 a1 a2 a3 a4 => ?_)
  skip
  have hFx : ∀ a k, ¬ (a = 74 ∧ (k = 13 ∨ k = 19 ∨ k = 20 ∨ k = 21)) → up (up (up (up V3 74 13 (nI 0)) 74 19 (nI 0)) 74 20 (nI 0)) 74 21 (-1) a k = V3 a k := fun a k q => by rw [up_ne2 (by omega), up_ne2 (by omega), up_ne2 (by omega), up_ne2 (by omega)]
  have hS : MS 0 0 (up (up (up (up V3 74 13 (nI 0)) 74 19 (nI 0)) 74 20 (nI 0)) 74 21 (-1)) := ⟨by rw [up_at' (by omega), up_at' (by omega), up_at], by rw [up_at' (by omega), up_at], up_at⟩
  have h13' : up (up (up (up V3 74 13 (nI 0)) 74 19 (nI 0)) 74 20 (nI 0)) 74 21 (-1) 74 13 = nI 0 := by rw [up_at' (by omega), up_at' (by omega), up_at' (by omega), up_at]
  generalize hV4 : up (up (up (up V3 74 13 (nI 0)) 74 19 (nI 0)) 74 20 (nI 0)) 74 21 (-1) = V4 at *
  have hA : TkA o (Tks T n).length tc tv (plT T n) V4 := by
    refine tkA_of hn hK (fun i s hs => ?_) ?_ ?_ ?_ ?_ ?_ ?_
    · obtain ⟨c, v, q1, q2, q3, q4⟩ := M3 i s hs
      refine ⟨c, v, q1, ?_, ?_, ?_⟩
      · rw [hFx 83 i (by omega)]; exact q2
      · rw [hFx 84 i (by omega)]; exact q3
      · rw [hFx 85 i (by omega)]; exact q4
    · rw [hFx 83 _ (by omega)]; exact a1
    · rw [hFx 84 _ (by omega)]; exact a2
    · rw [hFx 85 _ (by omega)]; exact a3
    · rw [hFx 74 8 (by omega), F3 74 8 (by omega) (by omega) (by omega) (by omega)]; exact g8
    · rw [hFx 74 9 (by omega), F3 74 9 (by omega) (by omega) (by omega) (by omega)]; exact g9
    · rw [hFx 74 10 (by omega), F3 74 10 (by omega) (by omega) (by omega) (by omega)]; exact g10
  have h18 : V4 74 18 = nI (Tks T n).length := by rw [hFx 74 18 (by omega)]; exact a4
  have hFall : FrMR V V4 := fun a k q1 q2 q3 q4 => by rw [hFx a k (by omega), F3 a k q2 q3 q4 (by omega)]
  -- how it ends
  have f1 : (pTxt o tc tv (Tks T n).length 12 0 0).1 = 1 → ∀ V' : VIT, FrRM V4 V' → P (some (.int (nI 1))) (LY ++ ext) (up V' 74 14 (-1)) VL (vr G) := fun c V' g => h1 c _ (fun a k q1 q2 q3 q4 => by rw [up_ne2 (by omega)]; exact (hFall.trans g.frMR) a k q1 q2 q3 q4) (by rw [up_at' (by omega), g 74 13 (by omega)]; exact h13') up_at ⟨by rw [up_at' (by omega), g 74 18 (by omega)]; exact h18, fun i hi => by rw [up_ne (by omega), up_ne (by omega), g 83 i (by omega), g 84 i (by omega)]; exact ⟨(hA.1 i (by omega)).1, (hA.1 i (by omega)).2.1⟩⟩
  have f0 : (pTxt o tc tv (Tks T n).length 12 0 0).1 = 0 → ∀ (V' : VIT) (b : Nat), b = (pTxt o tc tv (Tks T n).length 12 0 0).2.1 → FrRM V4 V' → P (some (.int (nI 0))) (LY ++ ext) (up V' 74 14 (nI (plT T n b))) VL (vr G) := fun c V' b hb g => h0 c _ (fun a k q1 q2 q3 q4 => by rw [up_ne2 (by omega)]; exact (hFall.trans g.frMR) a k q1 q2 q3 q4) (by rw [up_at' (by omega), g 74 13 (by omega)]; exact h13') (by rw [up_at, hb])
  have hR := pTxt_t (o := o) (tc := tc) (tv := tv) (N := (Tks T n).length) (m := 11) (i := 0) (p := 0)
  refine x_aload_n rfl rfl ?_
  refine x_iconstN (q := 0) rfl ?_
  refine x_putI rfl rfl rfl rfl ?_
  refine x_aload_n rfl rfl ?_
  refine x_iconstN (q := 0) rfl ?_
  refine x_putI rfl rfl rfl rfl ?_
  refine x_aload_n rfl rfl ?_
  refine x_iconstN (q := 0) rfl ?_
  refine x_putI rfl rfl rfl rfl ?_
  refine x_aload_n rfl rfl ?_
  refine x_iconst rfl ?_
  refine x_putI rfl rfl rfl rfl ?_
  rw [hV4]
  refine x_aload_n rfl rfl ?_
  refine x_callV (M' := mi203) (As := []) (bc1 := 0) (bs1 := 0) (bc2 := 0) (bs2 := 0) rfl rfl rfl rfl ok203 rfl rfl (by decide) rfl rfl rfl rfl rfl rfl ?_
  refine m_readOne (d := d) hA FrRM.refl hS (Nat.zero_le _) (Nat.zero_le _) (fun V' i' p' c b1 b2 b3 b4 b5 => ?_) (fun V' i' b1 b2 b3 b4 => ?_)
  skip
  · rw [b1] at hR
    have hR2 : ((pTxt o tc tv (Tks T n).length 12 0 0).1, (pTxt o tc tv (Tks T n).length 12 0 0).2.1) = tlR o tc tv (Tks T n).length 11 i' p' := hR.trans (if_pos rfl)
    refine x_iconstN (q := 1) rfl ?_
    refine x_istore_n (ls' := [_, _]) rfl rfl rfl ?_
    exact mr_go (d := d) (R := ((pTxt o tc tv (Tks T n).length 12 0 0).1, (pTxt o tc tv (Tks T n).length 12 0 0).2.1)) hA h18 (fun c V' g => f1 c V' g) (fun c V' g => f0 c V' _ rfl g) 11 1 i' p' V' (by omega) b2 b3 b4 b5 hR2
  · rw [if_neg (by omega)] at hR
    have q1 : (pTxt o tc tv (Tks T n).length 12 0 0).1 = 0 := (congrArg Prod.fst hR).trans b1
    have q2 : i' = (pTxt o tc tv (Tks T n).length 12 0 0).2.1 := b2.symm.trans (congrArg Prod.snd hR).symm
    refine x_iconstN (q := 1) rfl ?_
    refine x_istore_n (ls' := [_, _]) rfl rfl rfl ?_
    exact mr_bad34 b4 ((hA.2.2.2.2.2.2 i').2.2) (f0 q1 V' i' q2 b3)
set_option maxRecDepth 20000 in
theorem m_readsAs (hn : n ≤ 400) (h80 : V 80 = VIm 80) (h13 : V 74 13 = nI n) (hT : ∀ k, k < n → T k < 256 ∧ V 81 k = sB (T k)) (hK : TokC T n tc tv)
  (h1 : (pTxt o tc tv (Tks T n).length 12 0 0).1 = 1 → ∀ V' : VIT, FrMR V V' → V' 74 13 = nI 0 → V' 74 14 = -1 → TkM (Tks T n).length tc tv V' → P (some (.int (nI 1))) (LY ++ ext) V' VL (vr G))
  (h0 : (pTxt o tc tv (Tks T n).length 12 0 0).1 = 0 → ∀ V' : VIT, FrMR V V' → V' 74 13 = nI 0 → V' 74 14 = nI (plT T n (pTxt o tc tv (Tks T n).length 12 0 0).2.1) → P (some (.int (nI 0))) (LY ++ ext) V' VL (vr G)) : Ex (d + 38) mi211 0 (entL [.ref 74, .int (nI (if o = true then 1 else 0))] 2) [] (LY ++ ext) V VL (vr G) 0 0 P := by
  have hFr : ∀ {x y z : Int32}, FrMR V (up (up (up V 74 10 x) 74 8 y) 74 9 z) := fun {x y z} a k q1 q2 q3 q4 => by rw [up_ne2 (by omega), up_ne2 (by omega), up_ne2 (by omega)]
  have g80 : ∀ {x y z : Int32}, (up (up (up V 74 10 x) 74 8 y) 74 9 z) 80 = VIm 80 := fun {x y z} => by rw [up_ne (by omega), up_ne (by omega), up_ne (by omega)]; exact h80
  have g13 : ∀ {x y z : Int32}, (up (up (up V 74 10 x) 74 8 y) 74 9 z) 74 13 = nI n := fun {x y z} => by rw [up_at' (by omega), up_at' (by omega), up_at' (by omega)]; exact h13
  have gT : ∀ {x y z : Int32}, ∀ k, k < n → T k < 256 ∧ (up (up (up V 74 10 x) 74 8 y) 74 9 z) 81 k = sB (T k) := fun {x y z} k hk => ⟨(hT k hk).1, by rw [up_ne (by omega), up_ne (by omega), up_ne (by omega)]; exact (hT k hk).2⟩
  cases o with
  | false =>
    show Ex (d + 38) mi211 0 (entL [.ref 74, .int (nI 0)] 2) [] (LY ++ ext) V VL (vr G) 0 0 P
    refine x_aload_n rfl rfl ?_
    refine x_iload_n rfl rfl ?_
    refine x_putZ rfl rfl rfl rfl (by first | exact Or.inl rfl | exact Or.inr rfl) ?_
    refine x_aload_n rfl rfl ?_
    refine x_iload_n rfl rfl ?_
    refine x_ifN_eq rfl (fun c7 => ?_) (fun c7 => ?_)
    rotate_left
    · exact absurd c7 (by first | decide | omega)
    refine x_bipushN (q := 8) rfl ?_
    refine x_putI rfl rfl rfl rfl ?_
    refine x_aload_n rfl rfl ?_
    refine x_iload_n rfl rfl ?_
    refine x_ifN_eq rfl (fun c22 => ?_) (fun c22 => ?_)
    rotate_left
    · exact absurd c22 (by first | decide | omega)
    refine x_bipushN (q := 16) rfl ?_
    refine x_putI rfl rfl rfl rfl ?_
    refine x_aload_n rfl rfl ?_
    refine x_callV (M' := mi210) (As := []) (bc1 := 0) (bs1 := 0) (bc2 := 0) (bs2 := 0) rfl rfl rfl rfl ok210 rfl rfl (by decide) rfl rfl rfl rfl rfl rfl ?_
    refine m_reads (o := false) (d := d) hn g80 g13 gT hK (by rw [up_at' (by omega), up_at]; rfl) up_at (by rw [up_at' (by omega), up_at' (by omega), up_at]; rfl) (fun c V' a1 a2 a3 a4 => ?_) (fun c V' a1 a2 a3 => ?_)
    skip
    · refine x_zret rfl rfl (by first | exact Or.inl rfl | exact Or.inr rfl) ?_
      exact h1 c V' (hFr.trans a1) a2 a3 a4
    · refine x_zret rfl rfl (by first | exact Or.inl rfl | exact Or.inr rfl) ?_
      exact h0 c V' (hFr.trans a1) a2 a3 | true =>
    show Ex (d + 38) mi211 0 (entL [.ref 74, .int (nI 1)] 2) [] (LY ++ ext) V VL (vr G) 0 0 P
    refine x_aload_n rfl rfl ?_
    refine x_iload_n rfl rfl ?_
    refine x_putZ rfl rfl rfl rfl (by first | exact Or.inl rfl | exact Or.inr rfl) ?_
    refine x_aload_n rfl rfl ?_
    refine x_iload_n rfl rfl ?_
    refine x_ifN_eq rfl (fun c7 => ?_) (fun c7 => ?_)
    · exact absurd c7 (by first | decide | omega)
    refine x_bipushN (q := 15) rfl ?_
    refine x_goto rfl ?_
    refine x_putI rfl rfl rfl rfl ?_
    refine x_aload_n rfl rfl ?_
    refine x_iload_n rfl rfl ?_
    refine x_ifN_eq rfl (fun c22 => ?_) (fun c22 => ?_)
    · exact absurd c22 (by first | decide | omega)
    refine x_bipushN (q := 20) rfl ?_
    refine x_goto rfl ?_
    refine x_putI rfl rfl rfl rfl ?_
    refine x_aload_n rfl rfl ?_
    refine x_callV (M' := mi210) (As := []) (bc1 := 0) (bs1 := 0) (bc2 := 0) (bs2 := 0) rfl rfl rfl rfl ok210 rfl rfl (by decide) rfl rfl rfl rfl rfl rfl ?_
    refine m_reads (o := true) (d := d) hn g80 g13 gT hK (by rw [up_at' (by omega), up_at]; rfl) up_at (by rw [up_at' (by omega), up_at' (by omega), up_at]; rfl) (fun c V' a1 a2 a3 a4 => ?_) (fun c V' a1 a2 a3 => ?_)
    skip
    · refine x_zret rfl rfl (by first | exact Or.inl rfl | exact Or.inr rfl) ?_
      exact h1 c V' (hFr.trans a1) a2 a3 a4
    · refine x_zret rfl rfl (by first | exact Or.inl rfl | exact Or.inr rfl) ?_
      exact h0 c V' (hFr.trans a1) a2 a3
end ReadM
