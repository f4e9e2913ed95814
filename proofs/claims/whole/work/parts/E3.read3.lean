/-! ===== the model reads sums: loops, terms ===== -/
section Read3
variable {d : Nat} {V0 V : VIT} {VL : VLT} {G : VRT} {P : Post} {ext : HL} {o : Bool} {N f : Nat} {tc tv pl : Nat → Nat}
set_option maxRecDepth 20000 in
theorem rd7 (hA : TkA o N tc tv pl V0) (h9 : Rd9 V0 VL G ext o N tc tv pl f) (h8 : Rd8 V0 VL G ext o N tc tv pl f) : Rd7 V0 VL G ext o N tc tv pl (f + 1) := by
  intro dp i p x V D hd hD hi hp hF hS hr
  have e5 : prs o tc tv (f + 1) 7 dp i p x = pbd (prs o tc tv f 9 dp i p x) (fun i' p' y => prs o tc tv f 8 dp i' p' y) := rfl
  rw [e5] at hr ⊢
  obtain ⟨d, rfl⟩ : ∃ d, D = d + 5 := ⟨D - 5, by omega⟩
  have hpl := fun j => (hA.2.2.2.2.2.2 j).2.2
  intro P hP
  by_cases c : (prs o tc tv f 9 dp i p x).1 = 1
  · rw [show pbd (prs o tc tv f 9 dp i p x) (fun i' p' y => prs o tc tv f 8 dp i' p' y) = prs o tc tv f 8 dp (prs o tc tv f 9 dp i p x).2.1 (prs o tc tv f 9 dp i p x).2.2.1 (prs o tc tv f 9 dp i p x).2.2.2 from if_pos c] at hr hP
    obtain ⟨o1, o2, o3⟩ := prs_ok (o := o) (tv := tv) hA.2.2.2.2.2.1 f 9 dp i p x hi c
    have op := (prs_c (o := o) (tc := tc) (tv := tv) f 9 dp i p x hp).1 c
    refine x_aload_n rfl rfl ?_
    refine x_iload_n rfl rfl ?_
    refine x_callV (M' := mi209) (As := [_]) (bc1 := 0) (bs1 := 0) (bc2 := 0) (bs2 := 0) rfl rfl rfl rfl ok209 rfl rfl (by decide) rfl rfl rfl rfl rfl rfl ?_
    refine h9 dp i p x V (d + 4) hd (by omega) hi hp hF hS (by rw [c]; omega) _ (fun V' hF' g1 g0 => ?_)
    exact h8 dp _ _ _ V' (d + 5) hd hD o2 op hF' (g1 c) hr P hP
  · rw [pbd_0 c] at hr hP
    have c0 : (prs o tc tv f 9 dp i p x).1 = 0 := by
      have := (prs_c (o := o) (tc := tc) (tv := tv) f 9 dp i p x hp).2
      omega
    refine x_aload_n rfl rfl ?_
    refine x_iload_n rfl rfl ?_
    refine x_callV (M' := mi209) (As := [_]) (bc1 := 0) (bs1 := 0) (bc2 := 0) (bs2 := 0) rfl rfl rfl rfl ok209 rfl rfl (by decide) rfl rfl rfl rfl rfl rfl ?_
    refine h9 dp i p x V (d + 4) hd (by omega) hi hp hF hS hr _ (fun V' hF' g1 g0 => ?_)
    exact term_bad (d := d + 2) (g0 c0) (hpl _) (hP V' hF' g1 g0)
set_option maxRecDepth 20000 in
theorem rd6 (hA : TkA o N tc tv pl V0) (h7 : Rd7 V0 VL G ext o N tc tv pl f) (h6 : Rd6 V0 VL G ext o N tc tv pl f) : Rd6 V0 VL G ext o N tc tv pl (f + 1) := by
  intro dp i p x V D hd hD hi hp hF hS hr
  have hA1 := hA.fr hF
  have hN := hA.2.2.2.2.1
  have hpl := fun j => (hA.2.2.2.2.2.2 j).2.2
  obtain ⟨d, rfl⟩ : ∃ d, D = d + 6 := ⟨D - 6, by omega⟩
  by_cases c : tc i = 143 ∨ tc i = 145
  · have hin : i < N := Nat.lt_of_not_le (fun z => by have := hA.2.2.2.2.2.1 i z; omega)
    have e6 : prs o tc tv (f + 1) 6 dp i p x = pbd (prs o tc tv f 7 dp (i + 1) p x) (fun i' p' y => prs o tc tv f 6 dp i' p' (dBin (tc i - 100) x y)) := by
      show (if tc i = 143 ∨ tc i = 145 then pbd (prs o tc tv f 7 dp (i + 1) p x) (fun i' p' y => prs o tc tv f 6 dp i' p' (dBin (tc i - 100) x y)) else (1, i, p, x)) = _
      rw [if_pos c]
    rw [e6] at hr ⊢
    have hgo : RdP V0 VL G ext pl (d + 6) mi207 29 [.ref 74, .int (nI dp)] (up V 74 19 (nI (i + 1))) (pbd (prs o tc tv f 7 dp (i + 1) p x) (fun i' p' y => prs o tc tv f 6 dp i' p' (dBin (tc i - 100) x y))) := by
      intro P hP
      by_cases c1 : (prs o tc tv f 7 dp (i + 1) p x).1 = 1
      · rw [show pbd (prs o tc tv f 7 dp (i + 1) p x) (fun i' p' y => prs o tc tv f 6 dp i' p' (dBin (tc i - 100) x y)) = prs o tc tv f 6 dp (prs o tc tv f 7 dp (i + 1) p x).2.1 (prs o tc tv f 7 dp (i + 1) p x).2.2.1 (dBin (tc i - 100) x (prs o tc tv f 7 dp (i + 1) p x).2.2.2) from if_pos c1] at hr hP
        obtain ⟨o1, o2, o3⟩ := prs_ok (o := o) (tv := tv) hA.2.2.2.2.2.1 f 7 dp (i + 1) p x hin c1
        have op := (prs_c (o := o) (tc := tc) (tv := tv) f 7 dp (i + 1) p x hp).1 c1
        refine x_aload_n rfl rfl ?_
        refine x_iload_n rfl rfl ?_
        refine x_callV (M' := mi208) (As := [_]) (bc1 := 0) (bs1 := 0) (bc2 := 0) (bs2 := 0) rfl rfl rfl rfl ok208 rfl rfl (by decide) rfl rfl rfl rfl rfl rfl ?_
        refine h7 dp (i + 1) p x _ (d + 5) hd (by omega) hin hp (hF.up (by omega)) hS.tok (by rw [c1]; omega) _ (fun V' hF' g1 g0 => ?_)
        refine x_goto rfl ?_
        exact h6 dp _ _ _ V' (d + 6) hd hD o2 op hF' (g1 c1) hr P hP
      · rw [pbd_0 c1] at hr hP
        have c0 : (prs o tc tv f 7 dp (i + 1) p x).1 = 0 := by
          have := (prs_c (o := o) (tc := tc) (tv := tv) f 7 dp (i + 1) p x hp).2
          omega
        refine x_aload_n rfl rfl ?_
        refine x_iload_n rfl rfl ?_
        refine x_callV (M' := mi208) (As := [_]) (bc1 := 0) (bs1 := 0) (bc2 := 0) (bs2 := 0) rfl rfl rfl rfl ok208 rfl rfl (by decide) rfl rfl rfl rfl rfl rfl ?_
        refine h7 dp (i + 1) p x _ (d + 5) hd (by omega) hin hp (hF.up (by omega)) hS.tok hr _ (fun V' hF' g1 g0 => ?_)
        refine x_goto rfl ?_
        exact sum_bad (d := d + 3) (g0 c0) (hpl _) (hP V' hF' g1 g0)
    intro P hP
    by_cases c3 : tc i = 143
    · refine x_aload_n rfl rfl ?_
      refine x_bipushN (q := 43) rfl ?_
      refine x_callS (M' := mi199) (As := [_]) (bc1 := 0) (bs1 := 0) (bc2 := 0) (bs2 := 0) rfl rfl rfl rfl ok199 rfl rfl rfl rfl rfl rfl ?_
      refine m_sign (by omega) ?_
      refine x_callV (M' := mi196) (As := [_]) (bc1 := 0) (bs1 := 0) (bc2 := 0) (bs2 := 0) rfl rfl rfl rfl ok196 rfl rfl (by decide) rfl rfl rfl rfl rfl rfl ?_
      refine m_takes1 hA1 hS hi c3 ?_
      refine x_ifN_ne rfl (fun c14 => ?_) (fun c14 => ?_)
      rotate_left
      · exact absurd c14 (by first | decide | omega)
      exact hgo P hP
    · refine x_aload_n rfl rfl ?_
      refine x_bipushN (q := 43) rfl ?_
      refine x_callS (M' := mi199) (As := [_]) (bc1 := 0) (bs1 := 0) (bc2 := 0) (bs2 := 0) rfl rfl rfl rfl ok199 rfl rfl rfl rfl rfl rfl ?_
      refine m_sign (by omega) ?_
      refine x_callV (M' := mi196) (As := [_]) (bc1 := 0) (bs1 := 0) (bc2 := 0) (bs2 := 0) rfl rfl rfl rfl ok196 rfl rfl (by decide) rfl rfl rfl rfl rfl rfl ?_
      refine m_takesN hA1 hS hi (by omega) (by omega) ?_
      refine x_ifN_ne rfl (fun c14 => ?_) (fun c14 => ?_)
      · exact absurd c14 (by first | decide | omega)
      refine x_aload_n rfl rfl ?_
      refine x_bipushN (q := 45) rfl ?_
      refine x_callS (M' := mi199) (As := [_]) (bc1 := 0) (bs1 := 0) (bc2 := 0) (bs2 := 0) rfl rfl rfl rfl ok199 rfl rfl rfl rfl rfl rfl ?_
      refine m_sign (by omega) ?_
      refine x_callV (M' := mi196) (As := [_]) (bc1 := 0) (bs1 := 0) (bc2 := 0) (bs2 := 0) rfl rfl rfl rfl ok196 rfl rfl (by decide) rfl rfl rfl rfl rfl rfl ?_
      refine m_takes1 hA1 hS hi (show tc i = 100 + 45 by omega) ?_
      refine x_ifN_eq rfl (fun c26 => ?_) (fun c26 => ?_)
      · exact absurd c26 (by first | decide | omega)
      exact hgo P hP
  · have e6 : prs o tc tv (f + 1) 6 dp i p x = (1, i, p, x) := by
      show (if tc i = 143 ∨ tc i = 145 then pbd (prs o tc tv f 7 dp (i + 1) p x) (fun i' p' y => prs o tc tv f 6 dp i' p' (dBin (tc i - 100) x y)) else (1, i, p, x)) = _
      rw [if_neg c]
    rw [e6] at hr ⊢
    intro P hP
    refine x_aload_n rfl rfl ?_
    refine x_bipushN (q := 43) rfl ?_
    refine x_callS (M' := mi199) (As := [_]) (bc1 := 0) (bs1 := 0) (bc2 := 0) (bs2 := 0) rfl rfl rfl rfl ok199 rfl rfl rfl rfl rfl rfl ?_
    refine m_sign (by omega) ?_
    refine x_callV (M' := mi196) (As := [_]) (bc1 := 0) (bs1 := 0) (bc2 := 0) (bs2 := 0) rfl rfl rfl rfl ok196 rfl rfl (by decide) rfl rfl rfl rfl rfl rfl ?_
    refine m_takesN hA1 hS hi (by omega) (by omega) ?_
    refine x_ifN_ne rfl (fun c14 => ?_) (fun c14 => ?_)
    · exact absurd c14 (by first | decide | omega)
    refine x_aload_n rfl rfl ?_
    refine x_bipushN (q := 45) rfl ?_
    refine x_callS (M' := mi199) (As := [_]) (bc1 := 0) (bs1 := 0) (bc2 := 0) (bs2 := 0) rfl rfl rfl rfl ok199 rfl rfl rfl rfl rfl rfl ?_
    refine m_sign (by omega) ?_
    refine x_callV (M' := mi196) (As := [_]) (bc1 := 0) (bs1 := 0) (bc2 := 0) (bs2 := 0) rfl rfl rfl rfl ok196 rfl rfl (by decide) rfl rfl rfl rfl rfl rfl ?_
    refine m_takesN hA1 hS hi (by omega) (by omega) ?_
    refine x_ifN_eq rfl (fun c26 => ?_) (fun c26 => ?_)
    rotate_left
    · exact absurd c26 (by first | decide | omega)
    refine x_vret rfl rfl ?_
    exact hP V hF (fun _ => hS) (fun z => absurd z (by show ¬ 1 = 0; omega))
set_option maxRecDepth 20000 in
theorem rd8 (hA : TkA o N tc tv pl V0) (h9 : Rd9 V0 VL G ext o N tc tv pl f) (h8 : Rd8 V0 VL G ext o N tc tv pl f) : Rd8 V0 VL G ext o N tc tv pl (f + 1) := by
  intro dp i p x V D hd hD hi hp hF hS hr
  have hA1 := hA.fr hF
  have hN := hA.2.2.2.2.1
  have hpl := fun j => (hA.2.2.2.2.2.2 j).2.2
  obtain ⟨d, rfl⟩ : ∃ d, D = d + 5 := ⟨D - 5, by omega⟩
  by_cases c : tc i = 142 ∨ tc i = 147 ∨ tc i = 137
  · have hin : i < N := Nat.lt_of_not_le (fun z => by have := hA.2.2.2.2.2.1 i z; omega)
    have e6 : prs o tc tv (f + 1) 8 dp i p x = pbd (prs o tc tv f 9 dp (i + 1) p x) (fun i' p' y => prs o tc tv f 8 dp i' p' (dBin (tc i - 100) x y)) := by
      show (if tc i = 142 ∨ tc i = 147 ∨ tc i = 137 then pbd (prs o tc tv f 9 dp (i + 1) p x) (fun i' p' y => prs o tc tv f 8 dp i' p' (dBin (tc i - 100) x y)) else (1, i, p, x)) = _
      rw [if_pos c]
    rw [e6] at hr ⊢
    have hgo : RdP V0 VL G ext pl (d + 5) mi208 41 [.ref 74, .int (nI dp)] (up V 74 19 (nI (i + 1))) (pbd (prs o tc tv f 9 dp (i + 1) p x) (fun i' p' y => prs o tc tv f 8 dp i' p' (dBin (tc i - 100) x y))) := by
      intro P hP
      by_cases c1 : (prs o tc tv f 9 dp (i + 1) p x).1 = 1
      · rw [show pbd (prs o tc tv f 9 dp (i + 1) p x) (fun i' p' y => prs o tc tv f 8 dp i' p' (dBin (tc i - 100) x y)) = prs o tc tv f 8 dp (prs o tc tv f 9 dp (i + 1) p x).2.1 (prs o tc tv f 9 dp (i + 1) p x).2.2.1 (dBin (tc i - 100) x (prs o tc tv f 9 dp (i + 1) p x).2.2.2) from if_pos c1] at hr hP
        obtain ⟨o1, o2, o3⟩ := prs_ok (o := o) (tv := tv) hA.2.2.2.2.2.1 f 9 dp (i + 1) p x hin c1
        have op := (prs_c (o := o) (tc := tc) (tv := tv) f 9 dp (i + 1) p x hp).1 c1
        refine x_aload_n rfl rfl ?_
        refine x_iload_n rfl rfl ?_
        refine x_callV (M' := mi209) (As := [_]) (bc1 := 0) (bs1 := 0) (bc2 := 0) (bs2 := 0) rfl rfl rfl rfl ok209 rfl rfl (by decide) rfl rfl rfl rfl rfl rfl ?_
        refine h9 dp (i + 1) p x _ (d + 4) hd (by omega) hin hp (hF.up (by omega)) hS.tok (by rw [c1]; omega) _ (fun V' hF' g1 g0 => ?_)
        refine x_goto rfl ?_
        exact h8 dp _ _ _ V' (d + 5) hd hD o2 op hF' (g1 c1) hr P hP
      · rw [pbd_0 c1] at hr hP
        have c0 : (prs o tc tv f 9 dp (i + 1) p x).1 = 0 := by
          have := (prs_c (o := o) (tc := tc) (tv := tv) f 9 dp (i + 1) p x hp).2
          omega
        refine x_aload_n rfl rfl ?_
        refine x_iload_n rfl rfl ?_
        refine x_callV (M' := mi209) (As := [_]) (bc1 := 0) (bs1 := 0) (bc2 := 0) (bs2 := 0) rfl rfl rfl rfl ok209 rfl rfl (by decide) rfl rfl rfl rfl rfl rfl ?_
        refine h9 dp (i + 1) p x _ (d + 4) hd (by omega) hin hp (hF.up (by omega)) hS.tok hr _ (fun V' hF' g1 g0 => ?_)
        refine x_goto rfl ?_
        exact term_bad (d := d + 2) (g0 c0) (hpl _) (hP V' hF' g1 g0)
    intro P hP
    by_cases c3 : tc i = 142
    · refine x_aload_n rfl rfl ?_
      refine x_bipushN (q := 42) rfl ?_
      refine x_callS (M' := mi199) (As := [_]) (bc1 := 0) (bs1 := 0) (bc2 := 0) (bs2 := 0) rfl rfl rfl rfl ok199 rfl rfl rfl rfl rfl rfl ?_
      refine m_sign (by omega) ?_
      refine x_callV (M' := mi196) (As := [_]) (bc1 := 0) (bs1 := 0) (bc2 := 0) (bs2 := 0) rfl rfl rfl rfl ok196 rfl rfl (by decide) rfl rfl rfl rfl rfl rfl ?_
      refine m_takes1 hA1 hS hi c3 ?_
      refine x_ifN_ne rfl (fun c14 => ?_) (fun c14 => ?_)
      rotate_left
      · exact absurd c14 (by first | decide | omega)
      exact hgo P hP
    · by_cases c4 : tc i = 147
      · refine x_aload_n rfl rfl ?_
        refine x_bipushN (q := 42) rfl ?_
        refine x_callS (M' := mi199) (As := [_]) (bc1 := 0) (bs1 := 0) (bc2 := 0) (bs2 := 0) rfl rfl rfl rfl ok199 rfl rfl rfl rfl rfl rfl ?_
        refine m_sign (by omega) ?_
        refine x_callV (M' := mi196) (As := [_]) (bc1 := 0) (bs1 := 0) (bc2 := 0) (bs2 := 0) rfl rfl rfl rfl ok196 rfl rfl (by decide) rfl rfl rfl rfl rfl rfl ?_
        refine m_takesN hA1 hS hi (by omega) (by omega) ?_
        refine x_ifN_ne rfl (fun c14 => ?_) (fun c14 => ?_)
        · exact absurd c14 (by first | decide | omega)
        refine x_aload_n rfl rfl ?_
        refine x_bipushN (q := 47) rfl ?_
        refine x_callS (M' := mi199) (As := [_]) (bc1 := 0) (bs1 := 0) (bc2 := 0) (bs2 := 0) rfl rfl rfl rfl ok199 rfl rfl rfl rfl rfl rfl ?_
        refine m_sign (by omega) ?_
        refine x_callV (M' := mi196) (As := [_]) (bc1 := 0) (bs1 := 0) (bc2 := 0) (bs2 := 0) rfl rfl rfl rfl ok196 rfl rfl (by decide) rfl rfl rfl rfl rfl rfl ?_
        refine m_takes1 hA1 hS hi c4 ?_
        refine x_ifN_ne rfl (fun c26 => ?_) (fun c26 => ?_)
        rotate_left
        · exact absurd c26 (by first | decide | omega)
        exact hgo P hP
      · refine x_aload_n rfl rfl ?_
        refine x_bipushN (q := 42) rfl ?_
        refine x_callS (M' := mi199) (As := [_]) (bc1 := 0) (bs1 := 0) (bc2 := 0) (bs2 := 0) rfl rfl rfl rfl ok199 rfl rfl rfl rfl rfl rfl ?_
        refine m_sign (by omega) ?_
        refine x_callV (M' := mi196) (As := [_]) (bc1 := 0) (bs1 := 0) (bc2 := 0) (bs2 := 0) rfl rfl rfl rfl ok196 rfl rfl (by decide) rfl rfl rfl rfl rfl rfl ?_
        refine m_takesN hA1 hS hi (by omega) (by omega) ?_
        refine x_ifN_ne rfl (fun c14 => ?_) (fun c14 => ?_)
        · exact absurd c14 (by first | decide | omega)
        refine x_aload_n rfl rfl ?_
        refine x_bipushN (q := 47) rfl ?_
        refine x_callS (M' := mi199) (As := [_]) (bc1 := 0) (bs1 := 0) (bc2 := 0) (bs2 := 0) rfl rfl rfl rfl ok199 rfl rfl rfl rfl rfl rfl ?_
        refine m_sign (by omega) ?_
        refine x_callV (M' := mi196) (As := [_]) (bc1 := 0) (bs1 := 0) (bc2 := 0) (bs2 := 0) rfl rfl rfl rfl ok196 rfl rfl (by decide) rfl rfl rfl rfl rfl rfl ?_
        refine m_takesN hA1 hS hi (by omega) (by omega) ?_
        refine x_ifN_ne rfl (fun c26 => ?_) (fun c26 => ?_)
        · exact absurd c26 (by first | decide | omega)
        refine x_aload_n rfl rfl ?_
        refine x_bipushN (q := 37) rfl ?_
        refine x_callS (M' := mi199) (As := [_]) (bc1 := 0) (bs1 := 0) (bc2 := 0) (bs2 := 0) rfl rfl rfl rfl ok199 rfl rfl rfl rfl rfl rfl ?_
        refine m_sign (by omega) ?_
        refine x_callV (M' := mi196) (As := [_]) (bc1 := 0) (bs1 := 0) (bc2 := 0) (bs2 := 0) rfl rfl rfl rfl ok196 rfl rfl (by decide) rfl rfl rfl rfl rfl rfl ?_
        refine m_takes1 hA1 hS hi (show tc i = 100 + 37 by omega) ?_
        refine x_ifN_eq rfl (fun c38 => ?_) (fun c38 => ?_)
        · exact absurd c38 (by first | decide | omega)
        exact hgo P hP
  · have e6 : prs o tc tv (f + 1) 8 dp i p x = (1, i, p, x) := by
      show (if tc i = 142 ∨ tc i = 147 ∨ tc i = 137 then pbd (prs o tc tv f 9 dp (i + 1) p x) (fun i' p' y => prs o tc tv f 8 dp i' p' (dBin (tc i - 100) x y)) else (1, i, p, x)) = _
      rw [if_neg c]
    rw [e6] at hr ⊢
    intro P hP
    refine x_aload_n rfl rfl ?_
    refine x_bipushN (q := 42) rfl ?_
    refine x_callS (M' := mi199) (As := [_]) (bc1 := 0) (bs1 := 0) (bc2 := 0) (bs2 := 0) rfl rfl rfl rfl ok199 rfl rfl rfl rfl rfl rfl ?_
    refine m_sign (by omega) ?_
    refine x_callV (M' := mi196) (As := [_]) (bc1 := 0) (bs1 := 0) (bc2 := 0) (bs2 := 0) rfl rfl rfl rfl ok196 rfl rfl (by decide) rfl rfl rfl rfl rfl rfl ?_
    refine m_takesN hA1 hS hi (by omega) (by omega) ?_
    refine x_ifN_ne rfl (fun c14 => ?_) (fun c14 => ?_)
    · exact absurd c14 (by first | decide | omega)
    refine x_aload_n rfl rfl ?_
    refine x_bipushN (q := 47) rfl ?_
    refine x_callS (M' := mi199) (As := [_]) (bc1 := 0) (bs1 := 0) (bc2 := 0) (bs2 := 0) rfl rfl rfl rfl ok199 rfl rfl rfl rfl rfl rfl ?_
    refine m_sign (by omega) ?_
    refine x_callV (M' := mi196) (As := [_]) (bc1 := 0) (bs1 := 0) (bc2 := 0) (bs2 := 0) rfl rfl rfl rfl ok196 rfl rfl (by decide) rfl rfl rfl rfl rfl rfl ?_
    refine m_takesN hA1 hS hi (by omega) (by omega) ?_
    refine x_ifN_ne rfl (fun c26 => ?_) (fun c26 => ?_)
    · exact absurd c26 (by first | decide | omega)
    refine x_aload_n rfl rfl ?_
    refine x_bipushN (q := 37) rfl ?_
    refine x_callS (M' := mi199) (As := [_]) (bc1 := 0) (bs1 := 0) (bc2 := 0) (bs2 := 0) rfl rfl rfl rfl ok199 rfl rfl rfl rfl rfl rfl ?_
    refine m_sign (by omega) ?_
    refine x_callV (M' := mi196) (As := [_]) (bc1 := 0) (bs1 := 0) (bc2 := 0) (bs2 := 0) rfl rfl rfl rfl ok196 rfl rfl (by decide) rfl rfl rfl rfl rfl rfl ?_
    refine m_takesN hA1 hS hi (by omega) (by omega) ?_
    refine x_ifN_eq rfl (fun c38 => ?_) (fun c38 => ?_)
    rotate_left
    · exact absurd c38 (by first | decide | omega)
    refine x_vret rfl rfl ?_
    exact hP V hF (fun _ => hS) (fun z => absurd z (by show ¬ 1 = 0; omega))
end Read3
