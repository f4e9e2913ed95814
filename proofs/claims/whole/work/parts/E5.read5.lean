/-! ===== the model reads tests ===== -/
section Read5
variable {d : Nat} {V0 V : VIT} {VL : VLT} {G : VRT} {P : Post} {ext : HL} {o : Bool} {N f : Nat} {tc tv pl : Nat → Nat}
def Rd0 (V0 : VIT) (VL : VLT) (G : VRT) (ext : HL) (o : Bool) (N : Nat) (tc tv pl : Nat → Nat) (f : Nat) : Prop := ∀ dp i p x V D, dp ≤ 8 → 3 * (8 - dp) + 9 ≤ D → i ≤ N → p ≤ 50 → FrRM V0 V → MS i p V → (prs o tc tv f 0 dp i p x).1 ≠ 2 → RdP V0 VL G ext pl D mi204 0 (entL [.ref 74, .int (nI dp)] 2) V (prs o tc tv f 0 dp i p x)
def Rd1 (V0 : VIT) (VL : VLT) (G : VRT) (ext : HL) (o : Bool) (N : Nat) (tc tv pl : Nat → Nat) (f : Nat) : Prop := ∀ dp i p x V D, dp ≤ 8 → 3 * (8 - dp) + 9 ≤ D → i ≤ N → p ≤ 50 → FrRM V0 V → MS i p V → (prs o tc tv f 1 dp i p x).1 ≠ 2 → RdP V0 VL G ext pl D mi204 5 [.ref 74, .int (nI dp)] V (prs o tc tv f 1 dp i p x)
def Rd2 (V0 : VIT) (VL : VLT) (G : VRT) (ext : HL) (o : Bool) (N : Nat) (tc tv pl : Nat → Nat) (f : Nat) : Prop := ∀ dp i p x V D, dp ≤ 8 → 3 * (8 - dp) + 8 ≤ D → i ≤ N → p ≤ 50 → FrRM V0 V → MS i p V → (prs o tc tv f 2 dp i p x).1 ≠ 2 → RdP V0 VL G ext pl D mi205 0 (entL [.ref 74, .int (nI dp)] 2) V (prs o tc tv f 2 dp i p x)
def Rd3 (V0 : VIT) (VL : VLT) (G : VRT) (ext : HL) (o : Bool) (N : Nat) (tc tv pl : Nat → Nat) (f : Nat) : Prop := ∀ dp i p x V D, dp ≤ 8 → 3 * (8 - dp) + 8 ≤ D → i ≤ N → p ≤ 50 → FrRM V0 V → MS i p V → (prs o tc tv f 3 dp i p x).1 ≠ 2 → RdP V0 VL G ext pl D mi205 5 [.ref 74, .int (nI dp)] V (prs o tc tv f 3 dp i p x)
def Rd4 (V0 : VIT) (VL : VLT) (G : VRT) (ext : HL) (o : Bool) (N : Nat) (tc tv pl : Nat → Nat) (f : Nat) : Prop := ∀ dp i p x V D, dp ≤ 8 → 3 * (8 - dp) + 7 ≤ D → i ≤ N → p ≤ 50 → FrRM V0 V → MS i p V → (prs o tc tv f 4 dp i p x).1 ≠ 2 → RdP V0 VL G ext pl D mi206 0 (entL [.ref 74, .int (nI dp)] 4) V (prs o tc tv f 4 dp i p x)
def Rd10 (V0 : VIT) (VL : VLT) (G : VRT) (ext : HL) (o : Bool) (N : Nat) (tc tv pl : Nat → Nat) (f : Nat) : Prop := ∀ dp i p x V D, dp ≤ 8 → 3 * (8 - dp) + 7 ≤ D → i ≤ N → p ≤ 50 → FrRM V0 V → MS i p V → (prs o tc tv f 10 dp i p x).1 ≠ 2 → RdP V0 VL G ext pl D mi206 16 [.ref 74, .int (nI dp), .int (nI 0), .retAddr 9] V (prs o tc tv f 10 dp i p x)
set_option maxRecDepth 20000 in
theorem test_bad {dp b : Nat} (h : V 74 21 = nI b) (hb : b ≤ 400) (hP : P none (LY ++ ext) V VL (vr G)) : Ex (d + 3) mi204 5 [.ref 74, .int (nI dp)] [] (LY ++ ext) V VL (vr G) 0 0 P := by
  refine x_aload_n rfl rfl ?_
  refine x_iconst rfl ?_
  refine x_callV (M' := mi196) (As := [_]) (bc1 := 0) (bs1 := 0) (bc2 := 0) (bs2 := 0) rfl rfl rfl rfl ok196 rfl rfl (by decide) rfl rfl rfl rfl rfl rfl ?_
  refine m_takesB h hb ?_
  refine x_ifN_eq rfl (fun c10 => ?_) (fun c10 => ?_)
  rotate_left
  · exact absurd c10 (by first | decide | omega)
  refine x_vret rfl rfl ?_
  exact hP
set_option maxRecDepth 20000 in
theorem both_bad {dp b : Nat} (h : V 74 21 = nI b) (hb : b ≤ 400) (hP : P none (LY ++ ext) V VL (vr G)) : Ex (d + 3) mi205 5 [.ref 74, .int (nI dp)] [] (LY ++ ext) V VL (vr G) 0 0 P := by
  refine x_aload_n rfl rfl ?_
  refine x_bipush rfl ?_
  refine x_callV (M' := mi196) (As := [_]) (bc1 := 0) (bs1 := 0) (bc2 := 0) (bs2 := 0) rfl rfl rfl rfl ok196 rfl rfl (by decide) rfl rfl rfl rfl rfl rfl ?_
  refine m_takesB h hb ?_
  refine x_ifN_eq rfl (fun c11 => ?_) (fun c11 => ?_)
  rotate_left
  · exact absurd c11 (by first | decide | omega)
  refine x_vret rfl rfl ?_
  exact hP
set_option maxRecDepth 20000 in
theorem rd0 (hA : TkA o N tc tv pl V0) (h2 : Rd2 V0 VL G ext o N tc tv pl f) (h1 : Rd1 V0 VL G ext o N tc tv pl f) : Rd0 V0 VL G ext o N tc tv pl (f + 1) := by
  intro dp i p x V D hd hD hi hp hF hS hr
  have e5 : prs o tc tv (f + 1) 0 dp i p x = pbd (prs o tc tv f 2 dp i p x) (fun i' p' y => prs o tc tv f 1 dp i' p' y) := rfl
  rw [e5] at hr ⊢
  obtain ⟨d, rfl⟩ : ∃ d, D = d + 9 := ⟨D - 9, by omega⟩
  have hpl := fun j => (hA.2.2.2.2.2.2 j).2.2
  intro P hP
  by_cases c : (prs o tc tv f 2 dp i p x).1 = 1
  · rw [show pbd (prs o tc tv f 2 dp i p x) (fun i' p' y => prs o tc tv f 1 dp i' p' y) = prs o tc tv f 1 dp (prs o tc tv f 2 dp i p x).2.1 (prs o tc tv f 2 dp i p x).2.2.1 (prs o tc tv f 2 dp i p x).2.2.2 from if_pos c] at hr hP
    obtain ⟨o1, o2, o3⟩ := prs_ok (o := o) (tv := tv) hA.2.2.2.2.2.1 f 2 dp i p x hi c
    have op := (prs_c (o := o) (tc := tc) (tv := tv) f 2 dp i p x hp).1 c
    refine x_aload_n rfl rfl ?_
    refine x_iload_n rfl rfl ?_
    refine x_callV (M' := mi205) (As := [_]) (bc1 := 0) (bs1 := 0) (bc2 := 0) (bs2 := 0) rfl rfl rfl rfl ok205 rfl rfl (by decide) rfl rfl rfl rfl rfl rfl ?_
    refine h2 dp i p x V (d + 8) hd (by omega) hi hp hF hS (by rw [c]; omega) _ (fun V' hF' g1 g0 => ?_)
    exact h1 dp _ _ _ V' (d + 9) hd hD o2 op hF' (g1 c) hr P hP
  · rw [pbd_0 c] at hr hP
    have c0 : (prs o tc tv f 2 dp i p x).1 = 0 := by
      have := (prs_c (o := o) (tc := tc) (tv := tv) f 2 dp i p x hp).2
      omega
    refine x_aload_n rfl rfl ?_
    refine x_iload_n rfl rfl ?_
    refine x_callV (M' := mi205) (As := [_]) (bc1 := 0) (bs1 := 0) (bc2 := 0) (bs2 := 0) rfl rfl rfl rfl ok205 rfl rfl (by decide) rfl rfl rfl rfl rfl rfl ?_
    refine h2 dp i p x V (d + 8) hd (by omega) hi hp hF hS hr _ (fun V' hF' g1 g0 => ?_)
    exact test_bad (d := d + 6) (g0 c0) (hpl _) (hP V' hF' g1 g0)
set_option maxRecDepth 20000 in
theorem rd2 (hA : TkA o N tc tv pl V0) (h2 : Rd4 V0 VL G ext o N tc tv pl f) (h1 : Rd3 V0 VL G ext o N tc tv pl f) : Rd2 V0 VL G ext o N tc tv pl (f + 1) := by
  intro dp i p x V D hd hD hi hp hF hS hr
  have e5 : prs o tc tv (f + 1) 2 dp i p x = pbd (prs o tc tv f 4 dp i p x) (fun i' p' y => prs o tc tv f 3 dp i' p' y) := rfl
  rw [e5] at hr ⊢
  obtain ⟨d, rfl⟩ : ∃ d, D = d + 8 := ⟨D - 8, by omega⟩
  have hpl := fun j => (hA.2.2.2.2.2.2 j).2.2
  intro P hP
  by_cases c : (prs o tc tv f 4 dp i p x).1 = 1
  · rw [show pbd (prs o tc tv f 4 dp i p x) (fun i' p' y => prs o tc tv f 3 dp i' p' y) = prs o tc tv f 3 dp (prs o tc tv f 4 dp i p x).2.1 (prs o tc tv f 4 dp i p x).2.2.1 (prs o tc tv f 4 dp i p x).2.2.2 from if_pos c] at hr hP
    obtain ⟨o1, o2, o3⟩ := prs_ok (o := o) (tv := tv) hA.2.2.2.2.2.1 f 4 dp i p x hi c
    have op := (prs_c (o := o) (tc := tc) (tv := tv) f 4 dp i p x hp).1 c
    refine x_aload_n rfl rfl ?_
    refine x_iload_n rfl rfl ?_
    refine x_callV (M' := mi206) (As := [_]) (bc1 := 0) (bs1 := 0) (bc2 := 0) (bs2 := 0) rfl rfl rfl rfl ok206 rfl rfl (by decide) rfl rfl rfl rfl rfl rfl ?_
    refine h2 dp i p x V (d + 7) hd (by omega) hi hp hF hS (by rw [c]; omega) _ (fun V' hF' g1 g0 => ?_)
    exact h1 dp _ _ _ V' (d + 8) hd hD o2 op hF' (g1 c) hr P hP
  · rw [pbd_0 c] at hr hP
    have c0 : (prs o tc tv f 4 dp i p x).1 = 0 := by
      have := (prs_c (o := o) (tc := tc) (tv := tv) f 4 dp i p x hp).2
      omega
    refine x_aload_n rfl rfl ?_
    refine x_iload_n rfl rfl ?_
    refine x_callV (M' := mi206) (As := [_]) (bc1 := 0) (bs1 := 0) (bc2 := 0) (bs2 := 0) rfl rfl rfl rfl ok206 rfl rfl (by decide) rfl rfl rfl rfl rfl rfl ?_
    refine h2 dp i p x V (d + 7) hd (by omega) hi hp hF hS hr _ (fun V' hF' g1 g0 => ?_)
    exact both_bad (d := d + 5) (g0 c0) (hpl _) (hP V' hF' g1 g0)
set_option maxRecDepth 20000 in
theorem rd1 (hA : TkA o N tc tv pl V0) (h2 : Rd2 V0 VL G ext o N tc tv pl f) (h1 : Rd1 V0 VL G ext o N tc tv pl f) : Rd1 V0 VL G ext o N tc tv pl (f + 1) := by
  intro dp i p x V D hd hD hi hp hF hS hr
  have hA1 := hA.fr hF
  have hN := hA.2.2.2.2.1
  have hpl := fun j => (hA.2.2.2.2.2.2 j).2.2
  obtain ⟨d, rfl⟩ : ∃ d, D = d + 9 := ⟨D - 9, by omega⟩
  by_cases c : tc i = 5
  · have hin : i < N := Nat.lt_of_not_le (fun z => by have := hA.2.2.2.2.2.1 i z; omega)
    have e6 : prs o tc tv (f + 1) 1 dp i p x = pbd (prs o tc tv f 2 dp (i + 1) p x) (fun i' p' y => prs o tc tv f 1 dp i' p' (dOr x y)) := by
      show (if tc i = 5 then pbd (prs o tc tv f 2 dp (i + 1) p x) (fun i' p' y => prs o tc tv f 1 dp i' p' (dOr x y)) else (1, i, p, x)) = _
      rw [if_pos c]
    rw [e6] at hr ⊢
    intro P hP
    by_cases c1 : (prs o tc tv f 2 dp (i + 1) p x).1 = 1
    · rw [show pbd (prs o tc tv f 2 dp (i + 1) p x) (fun i' p' y => prs o tc tv f 1 dp i' p' (dOr x y)) = prs o tc tv f 1 dp (prs o tc tv f 2 dp (i + 1) p x).2.1 (prs o tc tv f 2 dp (i + 1) p x).2.2.1 (dOr x (prs o tc tv f 2 dp (i + 1) p x).2.2.2) from if_pos c1] at hr hP
      obtain ⟨o1, o2, o3⟩ := prs_ok (o := o) (tv := tv) hA.2.2.2.2.2.1 f 2 dp (i + 1) p x hin c1
      have op := (prs_c (o := o) (tc := tc) (tv := tv) f 2 dp (i + 1) p x hp).1 c1
      refine x_aload_n rfl rfl ?_
      refine x_iconstN (q := 5) rfl ?_
      refine x_callV (M' := mi196) (As := [_]) (bc1 := 0) (bs1 := 0) (bc2 := 0) (bs2 := 0) rfl rfl rfl rfl ok196 rfl rfl (by decide) rfl rfl rfl rfl rfl rfl ?_
      refine m_takes1 hA1 hS hi c ?_
      refine x_ifN_eq rfl (fun c10 => ?_) (fun c10 => ?_)
      · exact absurd c10 (by first | decide | omega)
      refine x_aload_n rfl rfl ?_
      refine x_iload_n rfl rfl ?_
      refine x_callV (M' := mi205) (As := [_]) (bc1 := 0) (bs1 := 0) (bc2 := 0) (bs2 := 0) rfl rfl rfl rfl ok205 rfl rfl (by decide) rfl rfl rfl rfl rfl rfl ?_
      refine h2 dp (i + 1) p x _ (d + 8) hd (by omega) hin hp (hF.up (by omega)) hS.tok (by rw [c1]; omega) _ (fun V' hF' g1 g0 => ?_)
      refine x_goto rfl ?_
      exact h1 dp _ _ _ V' (d + 9) hd hD o2 op hF' (g1 c1) hr P hP
    · rw [pbd_0 c1] at hr hP
      have c0 : (prs o tc tv f 2 dp (i + 1) p x).1 = 0 := by
        have := (prs_c (o := o) (tc := tc) (tv := tv) f 2 dp (i + 1) p x hp).2
        omega
      refine x_aload_n rfl rfl ?_
      refine x_iconstN (q := 5) rfl ?_
      refine x_callV (M' := mi196) (As := [_]) (bc1 := 0) (bs1 := 0) (bc2 := 0) (bs2 := 0) rfl rfl rfl rfl ok196 rfl rfl (by decide) rfl rfl rfl rfl rfl rfl ?_
      refine m_takes1 hA1 hS hi c ?_
      refine x_ifN_eq rfl (fun c10 => ?_) (fun c10 => ?_)
      · exact absurd c10 (by first | decide | omega)
      refine x_aload_n rfl rfl ?_
      refine x_iload_n rfl rfl ?_
      refine x_callV (M' := mi205) (As := [_]) (bc1 := 0) (bs1 := 0) (bc2 := 0) (bs2 := 0) rfl rfl rfl rfl ok205 rfl rfl (by decide) rfl rfl rfl rfl rfl rfl ?_
      refine h2 dp (i + 1) p x _ (d + 8) hd (by omega) hin hp (hF.up (by omega)) hS.tok hr _ (fun V' hF' g1 g0 => ?_)
      refine x_goto rfl ?_
      exact test_bad (d := d + 6) (g0 c0) (hpl _) (hP V' hF' g1 g0)
  · have e6 : prs o tc tv (f + 1) 1 dp i p x = (1, i, p, x) := by
      show (if tc i = 5 then pbd (prs o tc tv f 2 dp (i + 1) p x) (fun i' p' y => prs o tc tv f 1 dp i' p' (dOr x y)) else (1, i, p, x)) = _
      rw [if_neg c]
    rw [e6] at hr ⊢
    intro P hP
    refine x_aload_n rfl rfl ?_
    refine x_iconstN (q := 5) rfl ?_
    refine x_callV (M' := mi196) (As := [_]) (bc1 := 0) (bs1 := 0) (bc2 := 0) (bs2 := 0) rfl rfl rfl rfl ok196 rfl rfl (by decide) rfl rfl rfl rfl rfl rfl ?_
    refine m_takesN hA1 hS hi (by omega) c ?_
    refine x_ifN_eq rfl (fun c10 => ?_) (fun c10 => ?_)
    rotate_left
    · exact absurd c10 (by first | decide | omega)
    refine x_vret rfl rfl ?_
    exact hP V hF (fun _ => hS) (fun z => absurd z (by show ¬ 1 = 0; omega))
set_option maxRecDepth 20000 in
theorem rd3 (hA : TkA o N tc tv pl V0) (h2 : Rd4 V0 VL G ext o N tc tv pl f) (h1 : Rd3 V0 VL G ext o N tc tv pl f) : Rd3 V0 VL G ext o N tc tv pl (f + 1) := by
  intro dp i p x V D hd hD hi hp hF hS hr
  have hA1 := hA.fr hF
  have hN := hA.2.2.2.2.1
  have hpl := fun j => (hA.2.2.2.2.2.2 j).2.2
  obtain ⟨d, rfl⟩ : ∃ d, D = d + 8 := ⟨D - 8, by omega⟩
  by_cases c : tc i = 6
  · have hin : i < N := Nat.lt_of_not_le (fun z => by have := hA.2.2.2.2.2.1 i z; omega)
    have e6 : prs o tc tv (f + 1) 3 dp i p x = pbd (prs o tc tv f 4 dp (i + 1) p x) (fun i' p' y => prs o tc tv f 3 dp i' p' (dAnd x y)) := by
      show (if tc i = 6 then pbd (prs o tc tv f 4 dp (i + 1) p x) (fun i' p' y => prs o tc tv f 3 dp i' p' (dAnd x y)) else (1, i, p, x)) = _
      rw [if_pos c]
    rw [e6] at hr ⊢
    intro P hP
    by_cases c1 : (prs o tc tv f 4 dp (i + 1) p x).1 = 1
    · rw [show pbd (prs o tc tv f 4 dp (i + 1) p x) (fun i' p' y => prs o tc tv f 3 dp i' p' (dAnd x y)) = prs o tc tv f 3 dp (prs o tc tv f 4 dp (i + 1) p x).2.1 (prs o tc tv f 4 dp (i + 1) p x).2.2.1 (dAnd x (prs o tc tv f 4 dp (i + 1) p x).2.2.2) from if_pos c1] at hr hP
      obtain ⟨o1, o2, o3⟩ := prs_ok (o := o) (tv := tv) hA.2.2.2.2.2.1 f 4 dp (i + 1) p x hin c1
      have op := (prs_c (o := o) (tc := tc) (tv := tv) f 4 dp (i + 1) p x hp).1 c1
      refine x_aload_n rfl rfl ?_
      refine x_bipushN (q := 6) rfl ?_
      refine x_callV (M' := mi196) (As := [_]) (bc1 := 0) (bs1 := 0) (bc2 := 0) (bs2 := 0) rfl rfl rfl rfl ok196 rfl rfl (by decide) rfl rfl rfl rfl rfl rfl ?_
      refine m_takes1 hA1 hS hi c ?_
      refine x_ifN_eq rfl (fun c11 => ?_) (fun c11 => ?_)
      · exact absurd c11 (by first | decide | omega)
      refine x_aload_n rfl rfl ?_
      refine x_iload_n rfl rfl ?_
      refine x_callV (M' := mi206) (As := [_]) (bc1 := 0) (bs1 := 0) (bc2 := 0) (bs2 := 0) rfl rfl rfl rfl ok206 rfl rfl (by decide) rfl rfl rfl rfl rfl rfl ?_
      refine h2 dp (i + 1) p x _ (d + 7) hd (by omega) hin hp (hF.up (by omega)) hS.tok (by rw [c1]; omega) _ (fun V' hF' g1 g0 => ?_)
      refine x_goto rfl ?_
      exact h1 dp _ _ _ V' (d + 8) hd hD o2 op hF' (g1 c1) hr P hP
    · rw [pbd_0 c1] at hr hP
      have c0 : (prs o tc tv f 4 dp (i + 1) p x).1 = 0 := by
        have := (prs_c (o := o) (tc := tc) (tv := tv) f 4 dp (i + 1) p x hp).2
        omega
      refine x_aload_n rfl rfl ?_
      refine x_bipushN (q := 6) rfl ?_
      refine x_callV (M' := mi196) (As := [_]) (bc1 := 0) (bs1 := 0) (bc2 := 0) (bs2 := 0) rfl rfl rfl rfl ok196 rfl rfl (by decide) rfl rfl rfl rfl rfl rfl ?_
      refine m_takes1 hA1 hS hi c ?_
      refine x_ifN_eq rfl (fun c11 => ?_) (fun c11 => ?_)
      · exact absurd c11 (by first | decide | omega)
      refine x_aload_n rfl rfl ?_
      refine x_iload_n rfl rfl ?_
      refine x_callV (M' := mi206) (As := [_]) (bc1 := 0) (bs1 := 0) (bc2 := 0) (bs2 := 0) rfl rfl rfl rfl ok206 rfl rfl (by decide) rfl rfl rfl rfl rfl rfl ?_
      refine h2 dp (i + 1) p x _ (d + 7) hd (by omega) hin hp (hF.up (by omega)) hS.tok hr _ (fun V' hF' g1 g0 => ?_)
      refine x_goto rfl ?_
      exact both_bad (d := d + 5) (g0 c0) (hpl _) (hP V' hF' g1 g0)
  · have e6 : prs o tc tv (f + 1) 3 dp i p x = (1, i, p, x) := by
      show (if tc i = 6 then pbd (prs o tc tv f 4 dp (i + 1) p x) (fun i' p' y => prs o tc tv f 3 dp i' p' (dAnd x y)) else (1, i, p, x)) = _
      rw [if_neg c]
    rw [e6] at hr ⊢
    intro P hP
    refine x_aload_n rfl rfl ?_
    refine x_bipushN (q := 6) rfl ?_
    refine x_callV (M' := mi196) (As := [_]) (bc1 := 0) (bs1 := 0) (bc2 := 0) (bs2 := 0) rfl rfl rfl rfl ok196 rfl rfl (by decide) rfl rfl rfl rfl rfl rfl ?_
    refine m_takesN hA1 hS hi (by omega) c ?_
    refine x_ifN_eq rfl (fun c11 => ?_) (fun c11 => ?_)
    rotate_left
    · exact absurd c11 (by first | decide | omega)
    refine x_vret rfl rfl ?_
    exact hP V hF (fun _ => hS) (fun z => absurd z (by show ¬ 1 = 0; omega))
set_option maxRecDepth 20000 in
theorem rpl_loop {dp p : Nat} (hA : TkA o N tc tv pl V0) : ∀ (m i : Nat) (V : VIT), nrun tc 7 i m < m → i ≤ N → FrRM V0 V → MS i p V → (∀ V' : VIT, FrRM V0 V' → MS (i + nrun tc 7 i m) p V' → i + nrun tc 7 i m ≤ N → Ex (d + 7) mi206 16 [.ref 74, .int (nI dp), .int (nI 0), .retAddr 9] [] (LY ++ ext) V' VL (vr G) 0 0 P) → Ex (d + 7) mi206 2 [.ref 74, .int (nI dp), .int (nI 1), .retAddr 9] [] (LY ++ ext) V VL (vr G) 0 0 P := by
  have hN := hA.2.2.2.2.1
  intro m
  induction m with
  | zero => exact fun i V h => absurd h (Nat.not_lt_zero _)
  | succ m ih =>
    intro i V h hi hF hS hP
    have hA1 := hA.fr hF
    unfold nrun at h hP
    by_cases c : tc i = 7
    · rw [if_pos c] at h hP
      have hin : i < N := Nat.lt_of_not_le (fun z => by have := hA.2.2.2.2.2.1 i z; omega)
      refine x_iload_n rfl rfl ?_
      refine x_ifN_eq rfl (fun c3 => ?_) (fun c3 => ?_)
      · exact absurd c3 (by first | decide | omega)
      refine x_aload_n rfl rfl ?_
      refine x_bipushN (q := 7) rfl ?_
      refine x_callV (M' := mi196) (As := [_]) (bc1 := 0) (bs1 := 0) (bc2 := 0) (bs2 := 0) rfl rfl rfl rfl ok196 rfl rfl (by decide) rfl rfl rfl rfl rfl rfl ?_
      refine m_takes1 hA1 hS hi c ?_
      refine x_istore_n (ls' := [_, _, _, _]) rfl rfl rfl ?_
      refine x_goto rfl ?_
      refine ih (i + 1) _ (by omega) hin (hF.up (by omega)) hS.tok (fun V' q1 q2 q3 => ?_)
      have e : i + 1 + nrun tc 7 (i + 1) m = i + (nrun tc 7 (i + 1) m + 1) := by omega
      rw [e] at q2 q3
      exact hP V' q1 q2 q3
    · rw [if_neg c] at hP
      refine x_iload_n rfl rfl ?_
      refine x_ifN_eq rfl (fun c3 => ?_) (fun c3 => ?_)
      · exact absurd c3 (by first | decide | omega)
      refine x_aload_n rfl rfl ?_
      refine x_bipushN (q := 7) rfl ?_
      refine x_callV (M' := mi196) (As := [_]) (bc1 := 0) (bs1 := 0) (bc2 := 0) (bs2 := 0) rfl rfl rfl rfl ok196 rfl rfl (by decide) rfl rfl rfl rfl rfl rfl ?_
      refine m_takesN hA1 hS hi (by omega) c ?_
      refine x_istore_n (ls' := [_, _, _, _]) rfl rfl rfl ?_
      refine x_goto rfl ?_
      skip
      refine x_iload_n rfl rfl ?_
      refine x_ifN_eq rfl (fun c3 => ?_) (fun c3 => ?_)
      rotate_left
      · exact absurd c3 (by first | decide | omega)
      exact hP V hF hS hi
set_option maxRecDepth 20000 in
theorem rd4 (hA : TkA o N tc tv pl V0) (h10 : Rd10 V0 VL G ext o N tc tv pl f) : Rd4 V0 VL G ext o N tc tv pl (f + 1) := by
  intro dp i p x V D hd hD hi hp hF hS hr
  have hN := hA.2.2.2.2.1
  have e4 : prs o tc tv (f + 1) 4 dp i p x = pbd (prs o tc tv f 10 dp (i + nrun tc 7 i 401) p x) (fun i' p' y => (1, i', p', if nrun tc 7 i 401 % 2 = 1 then dNot y else y)) := rfl
  obtain ⟨n1, n2⟩ := nrun_ok (c := 7) hA.2.2.2.2.2.1 (by omega) (by omega) 401 i hi
  rw [e4] at hr ⊢
  have hr2 : (prs o tc tv f 10 dp (i + nrun tc 7 i 401) p x).1 ≠ 2 := fun z => hr (by rw [pbd_0 (by omega)]; exact z)
  obtain ⟨d, rfl⟩ : ∃ d, D = d + 7 := ⟨D - 7, by omega⟩
  intro P hP
  have hP2 : ∀ V' : VIT, FrRM V0 V' → ((prs o tc tv f 10 dp (i + nrun tc 7 i 401) p x).1 = 1 → MS (prs o tc tv f 10 dp (i + nrun tc 7 i 401) p x).2.1 (prs o tc tv f 10 dp (i + nrun tc 7 i 401) p x).2.2.1 V') → ((prs o tc tv f 10 dp (i + nrun tc 7 i 401) p x).1 = 0 → V' 74 21 = nI (pl (prs o tc tv f 10 dp (i + nrun tc 7 i 401) p x).2.1)) → P none (LY ++ ext) V' VL (vr G) := by
    intro V' q1 q2 q3
    by_cases c : (prs o tc tv f 10 dp (i + nrun tc 7 i 401) p x).1 = 1
    · refine hP V' q1 (fun _ => ?_) (fun z => ?_)
      · rw [show pbd (prs o tc tv f 10 dp (i + nrun tc 7 i 401) p x) (fun i' p' y => ((1, i', p', if nrun tc 7 i 401 % 2 = 1 then dNot y else y) : PRd)) = (1, (prs o tc tv f 10 dp (i + nrun tc 7 i 401) p x).2.1, (prs o tc tv f 10 dp (i + nrun tc 7 i 401) p x).2.2.1, if nrun tc 7 i 401 % 2 = 1 then dNot (prs o tc tv f 10 dp (i + nrun tc 7 i 401) p x).2.2.2 else (prs o tc tv f 10 dp (i + nrun tc 7 i 401) p x).2.2.2) from if_pos c]
        exact q2 c
      · rw [show pbd (prs o tc tv f 10 dp (i + nrun tc 7 i 401) p x) (fun i' p' y => ((1, i', p', if nrun tc 7 i 401 % 2 = 1 then dNot y else y) : PRd)) = (1, (prs o tc tv f 10 dp (i + nrun tc 7 i 401) p x).2.1, (prs o tc tv f 10 dp (i + nrun tc 7 i 401) p x).2.2.1, if nrun tc 7 i 401 % 2 = 1 then dNot (prs o tc tv f 10 dp (i + nrun tc 7 i 401) p x).2.2.2 else (prs o tc tv f 10 dp (i + nrun tc 7 i 401) p x).2.2.2) from if_pos c] at z
        exact absurd z (by show ¬ 1 = 0; omega)
    · rw [pbd_0 c] at hP
      exact hP V' q1 q2 q3
  refine x_iconstN (q := 1) rfl ?_
  refine x_istore_n (ls' := [_, _, _, _]) rfl rfl rfl ?_
  refine rpl_loop hA 401 i V (by omega) hi hF hS (fun V' q1 q2 q3 => ?_)
  exact h10 dp _ p x V' (d + 7) hd hD q3 hp q1 q2 hr2 P hP2
set_option maxRecDepth 20000 in
theorem rd10 (hA : TkA o N tc tv pl V0) (h5 : ∀ g, Rd5 V0 VL G ext o N tc tv pl g) (h0 : Rd0 V0 VL G ext o N tc tv pl f) : Rd10 V0 VL G ext o N tc tv pl (f + 1) := by
  intro dp i p x V D hd hD hi hp hF hS hr
  have hA1 := hA.fr hF
  have hN := hA.2.2.2.2.1
  have hpl := fun j => (hA.2.2.2.2.2.2 j).2.2
  have hci := (hA.2.2.2.2.2.2 i).1
  obtain ⟨d, rfl⟩ : ∃ d, D = d + 7 := ⟨D - 7, by omega⟩
  by_cases c : tc i = 140
  · have hin : i < N := Nat.lt_of_not_le (fun z => by have := hA.2.2.2.2.2.1 i z; omega)
    have e9 : prs o tc tv (f + 1) 10 dp i p x = if 8 ≤ dp then (0, i, p, x) else pbd (prs o tc tv f 0 (dp + 1) (i + 1) p x) (fun i' p' y => if tc i' = 141 then (1, i' + 1, p', y) else (0, i', p', y)) := by
      show (if tc i = 140 then _ else _) = _
      rw [if_pos c]
    rw [e9] at hr ⊢
    intro P hP
    by_cases c8 : 8 ≤ dp
    · rw [if_pos c8] at hP
      refine x_aload_n rfl rfl ?_
      refine x_callV (M' := mi194) (As := []) (bc1 := 0) (bs1 := 0) (bc2 := 0) (bs2 := 0) rfl rfl rfl rfl ok194 rfl rfl (by decide) rfl rfl rfl rfl rfl rfl ?_
      refine m_fine1 hS.2.2 ?_
      refine x_ifN_ne rfl (fun c20 => ?_) (fun c20 => ?_)
      rotate_left
      · exact absurd c20 (by first | decide | omega)
      refine x_aload_n rfl rfl ?_
      refine x_getR (u := .ref _) rfl rfl rfl rfl ?_
      refine x_aload_n rfl rfl ?_
      refine x_getE (y := 19) rfl rfl rfl hS.1 ?_
      refine x_ialE (j := i) rfl rfl (rfl) (by omega) ((hA1.1 i hi).1) ?_
      refine x_istore_n (ls' := [_, _, _, _]) rfl rfl rfl ?_
      refine x_iload_n rfl rfl ?_
      refine x_bipushN (q := 40) rfl ?_
      refine x_callS (M' := mi199) (As := [_]) (bc1 := 0) (bs1 := 0) (bc2 := 0) (bs2 := 0) rfl rfl rfl rfl ok199 rfl rfl rfl rfl rfl rfl ?_
      refine m_sign (by omega) ?_
      refine x_icmpN_ne rfl (fun c40 => ?_) (fun c40 => ?_)
      · exact absurd c40 (by first | decide | omega)
      refine x_iload_n rfl rfl ?_
      refine x_bipushN (q := 8) rfl ?_
      refine x_icmpN_ne rfl (fun c46 => ?_) (fun c46 => ?_)
      · exact absurd c46 (by first | decide | omega)
      refine x_aload_n rfl rfl ?_
      refine x_callV (M' := mi195) (As := []) (bc1 := 0) (bs1 := 0) (bc2 := 0) (bs2 := 0) rfl rfl rfl rfl ok195 rfl rfl (by decide) rfl rfl rfl rfl rfl rfl ?_
      refine m_faults1 hA1 hS hi ?_
      refine x_aload_n rfl rfl ?_
      refine x_callV (M' := mi194) (As := []) (bc1 := 0) (bs1 := 0) (bc2 := 0) (bs2 := 0) rfl rfl rfl rfl ok194 rfl rfl (by decide) rfl rfl rfl rfl rfl rfl ?_
      refine m_fine0 up_at (hpl i) ?_
      refine x_ifN_ne rfl (fun c57 => ?_) (fun c57 => ?_)
      · exact absurd c57 (by first | decide | omega)
      refine x_vret rfl rfl ?_
      exact hP _ (hF.up (by omega)) (fun z => absurd z (by show ¬ 0 = 1; omega)) (fun _ => up_at)
    · rw [if_neg c8] at hP hr
      obtain ⟨d', rfl⟩ : ∃ d', d = d' + 3 := ⟨d - 3, by omega⟩
      by_cases c1 : (prs o tc tv f 0 (dp + 1) (i + 1) p x).1 = 1
      · rw [show pbd (prs o tc tv f 0 (dp + 1) (i + 1) p x) (fun i' p' y => if tc i' = 141 then (1, i' + 1, p', y) else (0, i', p', y)) = (if tc (prs o tc tv f 0 (dp + 1) (i + 1) p x).2.1 = 141 then (1, (prs o tc tv f 0 (dp + 1) (i + 1) p x).2.1 + 1, (prs o tc tv f 0 (dp + 1) (i + 1) p x).2.2.1, (prs o tc tv f 0 (dp + 1) (i + 1) p x).2.2.2) else (0, (prs o tc tv f 0 (dp + 1) (i + 1) p x).2.1, (prs o tc tv f 0 (dp + 1) (i + 1) p x).2.2.1, (prs o tc tv f 0 (dp + 1) (i + 1) p x).2.2.2)) from if_pos c1] at hP
        obtain ⟨o1, o2, o3⟩ := prs_ok (o := o) (tv := tv) hA.2.2.2.2.2.1 f 0 (dp + 1) (i + 1) p x hin c1
        refine x_aload_n rfl rfl ?_
        refine x_callV (M' := mi194) (As := []) (bc1 := 0) (bs1 := 0) (bc2 := 0) (bs2 := 0) rfl rfl rfl rfl ok194 rfl rfl (by decide) rfl rfl rfl rfl rfl rfl ?_
        refine m_fine1 hS.2.2 ?_
        refine x_ifN_ne rfl (fun c20 => ?_) (fun c20 => ?_)
        rotate_left
        · exact absurd c20 (by first | decide | omega)
        refine x_aload_n rfl rfl ?_
        refine x_getR (u := .ref _) rfl rfl rfl rfl ?_
        refine x_aload_n rfl rfl ?_
        refine x_getE (y := 19) rfl rfl rfl hS.1 ?_
        refine x_ialE (j := i) rfl rfl (rfl) (by omega) ((hA1.1 i hi).1) ?_
        refine x_istore_n (ls' := [_, _, _, _]) rfl rfl rfl ?_
        refine x_iload_n rfl rfl ?_
        refine x_bipushN (q := 40) rfl ?_
        refine x_callS (M' := mi199) (As := [_]) (bc1 := 0) (bs1 := 0) (bc2 := 0) (bs2 := 0) rfl rfl rfl rfl ok199 rfl rfl rfl rfl rfl rfl ?_
        refine m_sign (by omega) ?_
        refine x_icmpN_ne rfl (fun c40 => ?_) (fun c40 => ?_)
        · exact absurd c40 (by first | decide | omega)
        refine x_iload_n rfl rfl ?_
        refine x_bipushN (q := 8) rfl ?_
        refine x_icmpN_ne rfl (fun c46 => ?_) (fun c46 => ?_)
        rotate_left
        · exact absurd c46 (by first | decide | omega)
        refine x_aload_n rfl rfl ?_
        refine x_callV (M' := mi194) (As := []) (bc1 := 0) (bs1 := 0) (bc2 := 0) (bs2 := 0) rfl rfl rfl rfl ok194 rfl rfl (by decide) rfl rfl rfl rfl rfl rfl ?_
        refine m_fine1 hS.2.2 ?_
        refine x_ifN_ne rfl (fun c57 => ?_) (fun c57 => ?_)
        rotate_left
        · exact absurd c57 (by first | decide | omega)
        refine x_aload_n rfl rfl ?_
        refine x_dup rfl rfl ?_
        refine x_getE (y := 19) rfl rfl rfl hS.1 ?_
        refine x_iconstN (q := 1) rfl ?_
        refine x_iaddN rfl ?_
        refine x_putI rfl rfl rfl rfl ?_
        refine x_aload_n rfl rfl ?_
        refine x_iload_n rfl rfl ?_
        refine x_iconstN (q := 1) rfl ?_
        refine x_iaddN rfl ?_
        refine x_callV (M' := mi204) (As := [_]) (bc1 := 0) (bs1 := 0) (bc2 := 0) (bs2 := 0) rfl rfl rfl rfl ok204 rfl rfl (by decide) rfl rfl rfl rfl rfl rfl ?_
        refine h0 (dp + 1) (i + 1) p x _ (d' + 9) (by omega) (by omega) hin hp (hF.up (by omega)) hS.tok (by rw [c1]; omega) _ (fun V' hF' g1 g0 => ?_)
        skip
        by_cases c9 : tc (prs o tc tv f 0 (dp + 1) (i + 1) p x).2.1 = 141
        · rw [if_pos c9] at hP
          refine x_aload_n rfl rfl ?_
          refine x_bipushN (q := 41) rfl ?_
          refine x_callS (M' := mi199) (As := [_]) (bc1 := 0) (bs1 := 0) (bc2 := 0) (bs2 := 0) rfl rfl rfl rfl ok199 rfl rfl rfl rfl rfl rfl ?_
          refine m_sign (by omega) ?_
          refine x_callV (M' := mi197) (As := [_]) (bc1 := 0) (bs1 := 0) (bc2 := 0) (bs2 := 0) rfl rfl rfl rfl ok197 rfl rfl (by decide) rfl rfl rfl rfl rfl rfl ?_
          refine m_must1 (hA.fr hF') (g1 c1) o2 c9 ?_
          refine x_goto rfl ?_
          refine x_vret rfl rfl ?_
          exact hP _ (hF'.up (by omega)) (fun _ => (g1 c1).tok) (fun z => absurd z (by show ¬ 1 = 0; omega))
        · rw [if_neg c9] at hP
          refine x_aload_n rfl rfl ?_
          refine x_bipushN (q := 41) rfl ?_
          refine x_callS (M' := mi199) (As := [_]) (bc1 := 0) (bs1 := 0) (bc2 := 0) (bs2 := 0) rfl rfl rfl rfl ok199 rfl rfl rfl rfl rfl rfl ?_
          refine m_sign (by omega) ?_
          refine x_callV (M' := mi197) (As := [_]) (bc1 := 0) (bs1 := 0) (bc2 := 0) (bs2 := 0) rfl rfl rfl rfl ok197 rfl rfl (by decide) rfl rfl rfl rfl rfl rfl ?_
          refine m_mustN (hA.fr hF') (g1 c1) o2 (by omega) c9 ?_
          refine x_goto rfl ?_
          refine x_vret rfl rfl ?_
          exact hP _ (hF'.up (by omega)) (fun z => absurd z (by show ¬ 0 = 1; omega)) (fun _ => up_at)
      · rw [pbd_0 c1] at hr hP
        have c0 : (prs o tc tv f 0 (dp + 1) (i + 1) p x).1 = 0 := by
          have := (prs_c (o := o) (tc := tc) (tv := tv) f 0 (dp + 1) (i + 1) p x hp).2
          omega
        refine x_aload_n rfl rfl ?_
        refine x_callV (M' := mi194) (As := []) (bc1 := 0) (bs1 := 0) (bc2 := 0) (bs2 := 0) rfl rfl rfl rfl ok194 rfl rfl (by decide) rfl rfl rfl rfl rfl rfl ?_
        refine m_fine1 hS.2.2 ?_
        refine x_ifN_ne rfl (fun c20 => ?_) (fun c20 => ?_)
        rotate_left
        · exact absurd c20 (by first | decide | omega)
        refine x_aload_n rfl rfl ?_
        refine x_getR (u := .ref _) rfl rfl rfl rfl ?_
        refine x_aload_n rfl rfl ?_
        refine x_getE (y := 19) rfl rfl rfl hS.1 ?_
        refine x_ialE (j := i) rfl rfl (rfl) (by omega) ((hA1.1 i hi).1) ?_
        refine x_istore_n (ls' := [_, _, _, _]) rfl rfl rfl ?_
        refine x_iload_n rfl rfl ?_
        refine x_bipushN (q := 40) rfl ?_
        refine x_callS (M' := mi199) (As := [_]) (bc1 := 0) (bs1 := 0) (bc2 := 0) (bs2 := 0) rfl rfl rfl rfl ok199 rfl rfl rfl rfl rfl rfl ?_
        refine m_sign (by omega) ?_
        refine x_icmpN_ne rfl (fun c40 => ?_) (fun c40 => ?_)
        · exact absurd c40 (by first | decide | omega)
        refine x_iload_n rfl rfl ?_
        refine x_bipushN (q := 8) rfl ?_
        refine x_icmpN_ne rfl (fun c46 => ?_) (fun c46 => ?_)
        rotate_left
        · exact absurd c46 (by first | decide | omega)
        refine x_aload_n rfl rfl ?_
        refine x_callV (M' := mi194) (As := []) (bc1 := 0) (bs1 := 0) (bc2 := 0) (bs2 := 0) rfl rfl rfl rfl ok194 rfl rfl (by decide) rfl rfl rfl rfl rfl rfl ?_
        refine m_fine1 hS.2.2 ?_
        refine x_ifN_ne rfl (fun c57 => ?_) (fun c57 => ?_)
        rotate_left
        · exact absurd c57 (by first | decide | omega)
        refine x_aload_n rfl rfl ?_
        refine x_dup rfl rfl ?_
        refine x_getE (y := 19) rfl rfl rfl hS.1 ?_
        refine x_iconstN (q := 1) rfl ?_
        refine x_iaddN rfl ?_
        refine x_putI rfl rfl rfl rfl ?_
        refine x_aload_n rfl rfl ?_
        refine x_iload_n rfl rfl ?_
        refine x_iconstN (q := 1) rfl ?_
        refine x_iaddN rfl ?_
        refine x_callV (M' := mi204) (As := [_]) (bc1 := 0) (bs1 := 0) (bc2 := 0) (bs2 := 0) rfl rfl rfl rfl ok204 rfl rfl (by decide) rfl rfl rfl rfl rfl rfl ?_
        refine h0 (dp + 1) (i + 1) p x _ (d' + 9) (by omega) (by omega) hin hp (hF.up (by omega)) hS.tok hr _ (fun V' hF' g1 g0 => ?_)
        refine x_aload_n rfl rfl ?_
        refine x_bipushN (q := 41) rfl ?_
        refine x_callS (M' := mi199) (As := [_]) (bc1 := 0) (bs1 := 0) (bc2 := 0) (bs2 := 0) rfl rfl rfl rfl ok199 rfl rfl rfl rfl rfl rfl ?_
        refine m_sign (by omega) ?_
        refine x_callV (M' := mi197) (As := [_]) (bc1 := 0) (bs1 := 0) (bc2 := 0) (bs2 := 0) rfl rfl rfl rfl ok197 rfl rfl (by decide) rfl rfl rfl rfl rfl rfl ?_
        refine m_mustB (g0 c0) (hpl _) ?_
        refine x_goto rfl ?_
        refine x_vret rfl rfl ?_
        exact hP V' hF' g1 g0
  · have e9 : prs o tc tv (f + 1) 10 dp i p x = pbd (prs o tc tv f 5 dp i p x) (fun i' p' y => if tc i' = 160 ∨ tc i' = 162 ∨ tc i' = 161 then pbd (prs o tc tv f 5 dp (i' + 1) p' x) (fun i2 p2 z => (1, i2, p2, dBin (tc i' - 100) y z)) else (0, i', p', y)) := by
      show (if tc i = 140 then _ else _) = _
      rw [if_neg c]
    rw [e9] at hr ⊢
    intro P hP
    have hbad : ∀ (V' : VIT) (b : Nat), b ≤ 400 → V' 74 21 = nI b → P none (LY ++ ext) V' VL (vr G) → Ex (d + 7) mi206 95 [.ref 74, .int (nI dp), .int (nI 0), .int (nI (tc i))] [] (LY ++ ext) V' VL (vr G) 0 0 P := by
      intro V' b hb hv hq
      refine x_aload_n rfl rfl ?_
      refine x_bipushN (q := 60) rfl ?_
      refine x_callS (M' := mi199) (As := [_]) (bc1 := 0) (bs1 := 0) (bc2 := 0) (bs2 := 0) rfl rfl rfl rfl ok199 rfl rfl rfl rfl rfl rfl ?_
      refine m_sign (by omega) ?_
      refine x_callV (M' := mi196) (As := [_]) (bc1 := 0) (bs1 := 0) (bc2 := 0) (bs2 := 0) rfl rfl rfl rfl ok196 rfl rfl (by decide) rfl rfl rfl rfl rfl rfl ?_
      refine m_takesB hv hb ?_
      refine x_ifN_ne rfl (fun c104 => ?_) (fun c104 => ?_)
      · exact absurd c104 (by first | decide | omega)
      refine x_aload_n rfl rfl ?_
      refine x_bipushN (q := 62) rfl ?_
      refine x_callS (M' := mi199) (As := [_]) (bc1 := 0) (bs1 := 0) (bc2 := 0) (bs2 := 0) rfl rfl rfl rfl ok199 rfl rfl rfl rfl rfl rfl ?_
      refine m_sign (by omega) ?_
      refine x_callV (M' := mi196) (As := [_]) (bc1 := 0) (bs1 := 0) (bc2 := 0) (bs2 := 0) rfl rfl rfl rfl ok196 rfl rfl (by decide) rfl rfl rfl rfl rfl rfl ?_
      refine m_takesB hv hb ?_
      refine x_ifN_ne rfl (fun c116 => ?_) (fun c116 => ?_)
      · exact absurd c116 (by first | decide | omega)
      refine x_aload_n rfl rfl ?_
      refine x_bipushN (q := 61) rfl ?_
      refine x_callS (M' := mi199) (As := [_]) (bc1 := 0) (bs1 := 0) (bc2 := 0) (bs2 := 0) rfl rfl rfl rfl ok199 rfl rfl rfl rfl rfl rfl ?_
      refine m_sign (by omega) ?_
      refine x_callV (M' := mi197) (As := [_]) (bc1 := 0) (bs1 := 0) (bc2 := 0) (bs2 := 0) rfl rfl rfl rfl ok197 rfl rfl (by decide) rfl rfl rfl rfl rfl rfl ?_
      refine m_mustB hv hb ?_
      refine x_aload_n rfl rfl ?_
      refine x_iload_n rfl rfl ?_
      refine x_callV (M' := mi207) (As := [_]) (bc1 := 0) (bs1 := 0) (bc2 := 0) (bs2 := 0) rfl rfl rfl rfl ok207 rfl rfl (by decide) rfl rfl rfl rfl rfl rfl ?_
      refine sum_bad0 (d := d + 1) hv hb ?_
      refine x_vret rfl rfl ?_
      exact hq
    by_cases c1 : (prs o tc tv f 5 dp i p x).1 = 1
    · rw [show pbd (prs o tc tv f 5 dp i p x) (fun i' p' y => if tc i' = 160 ∨ tc i' = 162 ∨ tc i' = 161 then pbd (prs o tc tv f 5 dp (i' + 1) p' x) (fun i2 p2 z => ((1, i2, p2, dBin (tc i' - 100) y z) : PRd)) else (0, i', p', y)) = (if tc (prs o tc tv f 5 dp i p x).2.1 = 160 ∨ tc (prs o tc tv f 5 dp i p x).2.1 = 162 ∨ tc (prs o tc tv f 5 dp i p x).2.1 = 161 then pbd (prs o tc tv f 5 dp ((prs o tc tv f 5 dp i p x).2.1 + 1) (prs o tc tv f 5 dp i p x).2.2.1 x) (fun i2 p2 z => ((1, i2, p2, dBin (tc (prs o tc tv f 5 dp i p x).2.1 - 100) (prs o tc tv f 5 dp i p x).2.2.2 z) : PRd)) else (0, (prs o tc tv f 5 dp i p x).2.1, (prs o tc tv f 5 dp i p x).2.2.1, (prs o tc tv f 5 dp i p x).2.2.2)) from if_pos c1] at hr hP
      obtain ⟨o1, o2, o3⟩ := prs_ok (o := o) (tv := tv) hA.2.2.2.2.2.1 f 5 dp i p x hi c1
      have op := (prs_c (o := o) (tc := tc) (tv := tv) f 5 dp i p x hp).1 c1
      refine x_aload_n rfl rfl ?_
      refine x_callV (M' := mi194) (As := []) (bc1 := 0) (bs1 := 0) (bc2 := 0) (bs2 := 0) rfl rfl rfl rfl ok194 rfl rfl (by decide) rfl rfl rfl rfl rfl rfl ?_
      refine m_fine1 hS.2.2 ?_
      refine x_ifN_ne rfl (fun c20 => ?_) (fun c20 => ?_)
      rotate_left
      · exact absurd c20 (by first | decide | omega)
      refine x_aload_n rfl rfl ?_
      refine x_getR (u := .ref _) rfl rfl rfl rfl ?_
      refine x_aload_n rfl rfl ?_
      refine x_getE (y := 19) rfl rfl rfl hS.1 ?_
      refine x_ialE (j := i) rfl rfl (rfl) (by omega) ((hA1.1 i hi).1) ?_
      refine x_istore_n (ls' := [_, _, _, _]) rfl rfl rfl ?_
      refine x_iload_n rfl rfl ?_
      refine x_bipushN (q := 40) rfl ?_
      refine x_callS (M' := mi199) (As := [_]) (bc1 := 0) (bs1 := 0) (bc2 := 0) (bs2 := 0) rfl rfl rfl rfl ok199 rfl rfl rfl rfl rfl rfl ?_
      refine m_sign (by omega) ?_
      refine x_icmpN_ne rfl (fun c40 => ?_) (fun c40 => ?_)
      rotate_left
      · exact absurd c40 (by first | decide | omega)
      refine x_aload_n rfl rfl ?_
      refine x_iload_n rfl rfl ?_
      refine x_callV (M' := mi207) (As := [_]) (bc1 := 0) (bs1 := 0) (bc2 := 0) (bs2 := 0) rfl rfl rfl rfl ok207 rfl rfl (by decide) rfl rfl rfl rfl rfl rfl ?_
      refine h5 f dp i p x V (d + 6) hd (by omega) hi hp hF hS (by rw [c1]; omega) _ (fun V' hF' g1 g0 => ?_)
      skip
      have hS' := g1 c1
      have hA' := hA.fr hF'
      generalize (prs o tc tv f 5 dp i p x).2.1 = i' at *
      generalize (prs o tc tv f 5 dp i p x).2.2.1 = p' at *
      generalize (prs o tc tv f 5 dp i p x).2.2.2 = y' at *
      by_cases cc : tc i' = 160 ∨ tc i' = 162 ∨ tc i' = 161
      · rw [if_pos cc] at hr hP
        have hin : i' < N := Nat.lt_of_not_le (fun z => by have := hA.2.2.2.2.2.1 i' z; omega)
        have hr2 : (prs o tc tv f 5 dp (i' + 1) p' x).1 ≠ 2 := fun z => hr (by rw [pbd_0 (by omega)]; exact z)
        have hgo : Ex (d + 7) mi206 128 [.ref 74, .int (nI dp), .int (nI 0), .int (nI (tc i))] [] (LY ++ ext) (up V' 74 19 (nI (i' + 1))) VL (vr G) 0 0 P := by
          refine x_aload_n rfl rfl ?_
          refine x_iload_n rfl rfl ?_
          refine x_callV (M' := mi207) (As := [_]) (bc1 := 0) (bs1 := 0) (bc2 := 0) (bs2 := 0) rfl rfl rfl rfl ok207 rfl rfl (by decide) rfl rfl rfl rfl rfl rfl ?_
          refine h5 f dp (i' + 1) p' x _ (d + 6) hd (by omega) hin op (hF'.up (by omega)) hS'.tok hr2 _ (fun V2 hF2 k1 k0 => ?_)
          skip
          by_cases c5 : (prs o tc tv f 5 dp (i' + 1) p' x).1 = 1
          · rw [show pbd (prs o tc tv f 5 dp (i' + 1) p' x) (fun i2 p2 z => ((1, i2, p2, dBin (tc i' - 100) y' z) : PRd)) = (1, (prs o tc tv f 5 dp (i' + 1) p' x).2.1, (prs o tc tv f 5 dp (i' + 1) p' x).2.2.1, dBin (tc i' - 100) y' (prs o tc tv f 5 dp (i' + 1) p' x).2.2.2) from if_pos c5] at hP
            refine x_vret rfl rfl ?_
            exact hP V2 hF2 (fun _ => k1 c5) (fun z => absurd z (by show ¬ 1 = 0; omega))
          · rw [pbd_0 c5] at hP
            refine x_vret rfl rfl ?_
            exact hP V2 hF2 k1 k0
        by_cases d1 : tc i' = 160
        · refine x_aload_n rfl rfl ?_
          refine x_bipushN (q := 60) rfl ?_
          refine x_callS (M' := mi199) (As := [_]) (bc1 := 0) (bs1 := 0) (bc2 := 0) (bs2 := 0) rfl rfl rfl rfl ok199 rfl rfl rfl rfl rfl rfl ?_
          refine m_sign (by omega) ?_
          refine x_callV (M' := mi196) (As := [_]) (bc1 := 0) (bs1 := 0) (bc2 := 0) (bs2 := 0) rfl rfl rfl rfl ok196 rfl rfl (by decide) rfl rfl rfl rfl rfl rfl ?_
          refine m_takes1 hA' hS' o2 d1 ?_
          refine x_ifN_ne rfl (fun c104 => ?_) (fun c104 => ?_)
          rotate_left
          · exact absurd c104 (by first | decide | omega)
          exact hgo
        · by_cases d2 : tc i' = 162
          · refine x_aload_n rfl rfl ?_
            refine x_bipushN (q := 60) rfl ?_
            refine x_callS (M' := mi199) (As := [_]) (bc1 := 0) (bs1 := 0) (bc2 := 0) (bs2 := 0) rfl rfl rfl rfl ok199 rfl rfl rfl rfl rfl rfl ?_
            refine m_sign (by omega) ?_
            refine x_callV (M' := mi196) (As := [_]) (bc1 := 0) (bs1 := 0) (bc2 := 0) (bs2 := 0) rfl rfl rfl rfl ok196 rfl rfl (by decide) rfl rfl rfl rfl rfl rfl ?_
            refine m_takesN hA' hS' o2 (by omega) d1 ?_
            refine x_ifN_ne rfl (fun c104 => ?_) (fun c104 => ?_)
            · exact absurd c104 (by first | decide | omega)
            refine x_aload_n rfl rfl ?_
            refine x_bipushN (q := 62) rfl ?_
            refine x_callS (M' := mi199) (As := [_]) (bc1 := 0) (bs1 := 0) (bc2 := 0) (bs2 := 0) rfl rfl rfl rfl ok199 rfl rfl rfl rfl rfl rfl ?_
            refine m_sign (by omega) ?_
            refine x_callV (M' := mi196) (As := [_]) (bc1 := 0) (bs1 := 0) (bc2 := 0) (bs2 := 0) rfl rfl rfl rfl ok196 rfl rfl (by decide) rfl rfl rfl rfl rfl rfl ?_
            refine m_takes1 hA' hS' o2 d2 ?_
            refine x_ifN_ne rfl (fun c116 => ?_) (fun c116 => ?_)
            rotate_left
            · exact absurd c116 (by first | decide | omega)
            exact hgo
          · refine x_aload_n rfl rfl ?_
            refine x_bipushN (q := 60) rfl ?_
            refine x_callS (M' := mi199) (As := [_]) (bc1 := 0) (bs1 := 0) (bc2 := 0) (bs2 := 0) rfl rfl rfl rfl ok199 rfl rfl rfl rfl rfl rfl ?_
            refine m_sign (by omega) ?_
            refine x_callV (M' := mi196) (As := [_]) (bc1 := 0) (bs1 := 0) (bc2 := 0) (bs2 := 0) rfl rfl rfl rfl ok196 rfl rfl (by decide) rfl rfl rfl rfl rfl rfl ?_
            refine m_takesN hA' hS' o2 (by omega) d1 ?_
            refine x_ifN_ne rfl (fun c104 => ?_) (fun c104 => ?_)
            · exact absurd c104 (by first | decide | omega)
            refine x_aload_n rfl rfl ?_
            refine x_bipushN (q := 62) rfl ?_
            refine x_callS (M' := mi199) (As := [_]) (bc1 := 0) (bs1 := 0) (bc2 := 0) (bs2 := 0) rfl rfl rfl rfl ok199 rfl rfl rfl rfl rfl rfl ?_
            refine m_sign (by omega) ?_
            refine x_callV (M' := mi196) (As := [_]) (bc1 := 0) (bs1 := 0) (bc2 := 0) (bs2 := 0) rfl rfl rfl rfl ok196 rfl rfl (by decide) rfl rfl rfl rfl rfl rfl ?_
            refine m_takesN hA' hS' o2 (by omega) d2 ?_
            refine x_ifN_ne rfl (fun c116 => ?_) (fun c116 => ?_)
            · exact absurd c116 (by first | decide | omega)
            refine x_aload_n rfl rfl ?_
            refine x_bipushN (q := 61) rfl ?_
            refine x_callS (M' := mi199) (As := [_]) (bc1 := 0) (bs1 := 0) (bc2 := 0) (bs2 := 0) rfl rfl rfl rfl ok199 rfl rfl rfl rfl rfl rfl ?_
            refine m_sign (by omega) ?_
            refine x_callV (M' := mi197) (As := [_]) (bc1 := 0) (bs1 := 0) (bc2 := 0) (bs2 := 0) rfl rfl rfl rfl ok197 rfl rfl (by decide) rfl rfl rfl rfl rfl rfl ?_
            refine m_must1 hA' hS' o2 (show tc i' = 100 + 61 by omega) ?_
            exact hgo
      · rw [if_neg cc] at hr hP
        have hq := hP (up V' 74 21 (nI (pl i'))) (hF'.up (by omega)) (fun z => absurd z (by show ¬ 0 = 1; omega)) (fun _ => up_at)
        refine x_aload_n rfl rfl ?_
        refine x_bipushN (q := 60) rfl ?_
        refine x_callS (M' := mi199) (As := [_]) (bc1 := 0) (bs1 := 0) (bc2 := 0) (bs2 := 0) rfl rfl rfl rfl ok199 rfl rfl rfl rfl rfl rfl ?_
        refine m_sign (by omega) ?_
        refine x_callV (M' := mi196) (As := [_]) (bc1 := 0) (bs1 := 0) (bc2 := 0) (bs2 := 0) rfl rfl rfl rfl ok196 rfl rfl (by decide) rfl rfl rfl rfl rfl rfl ?_
        refine m_takesN hA' hS' o2 (by omega) (by omega) ?_
        refine x_ifN_ne rfl (fun c104 => ?_) (fun c104 => ?_)
        · exact absurd c104 (by first | decide | omega)
        refine x_aload_n rfl rfl ?_
        refine x_bipushN (q := 62) rfl ?_
        refine x_callS (M' := mi199) (As := [_]) (bc1 := 0) (bs1 := 0) (bc2 := 0) (bs2 := 0) rfl rfl rfl rfl ok199 rfl rfl rfl rfl rfl rfl ?_
        refine m_sign (by omega) ?_
        refine x_callV (M' := mi196) (As := [_]) (bc1 := 0) (bs1 := 0) (bc2 := 0) (bs2 := 0) rfl rfl rfl rfl ok196 rfl rfl (by decide) rfl rfl rfl rfl rfl rfl ?_
        refine m_takesN hA' hS' o2 (by omega) (by omega) ?_
        refine x_ifN_ne rfl (fun c116 => ?_) (fun c116 => ?_)
        · exact absurd c116 (by first | decide | omega)
        refine x_aload_n rfl rfl ?_
        refine x_bipushN (q := 61) rfl ?_
        refine x_callS (M' := mi199) (As := [_]) (bc1 := 0) (bs1 := 0) (bc2 := 0) (bs2 := 0) rfl rfl rfl rfl ok199 rfl rfl rfl rfl rfl rfl ?_
        refine m_sign (by omega) ?_
        refine x_callV (M' := mi197) (As := [_]) (bc1 := 0) (bs1 := 0) (bc2 := 0) (bs2 := 0) rfl rfl rfl rfl ok197 rfl rfl (by decide) rfl rfl rfl rfl rfl rfl ?_
        refine m_mustN hA' hS' o2 (by omega) (by omega) ?_
        refine x_aload_n rfl rfl ?_
        refine x_iload_n rfl rfl ?_
        refine x_callV (M' := mi207) (As := [_]) (bc1 := 0) (bs1 := 0) (bc2 := 0) (bs2 := 0) rfl rfl rfl rfl ok207 rfl rfl (by decide) rfl rfl rfl rfl rfl rfl ?_
        refine sum_bad0 (d := d + 1) up_at (hpl i') ?_
        refine x_vret rfl rfl ?_
        exact hq
    · rw [pbd_0 c1] at hr hP
      have c0 : (prs o tc tv f 5 dp i p x).1 = 0 := by
        have := (prs_c (o := o) (tc := tc) (tv := tv) f 5 dp i p x hp).2
        omega
      refine x_aload_n rfl rfl ?_
      refine x_callV (M' := mi194) (As := []) (bc1 := 0) (bs1 := 0) (bc2 := 0) (bs2 := 0) rfl rfl rfl rfl ok194 rfl rfl (by decide) rfl rfl rfl rfl rfl rfl ?_
      refine m_fine1 hS.2.2 ?_
      refine x_ifN_ne rfl (fun c20 => ?_) (fun c20 => ?_)
      rotate_left
      · exact absurd c20 (by first | decide | omega)
      refine x_aload_n rfl rfl ?_
      refine x_getR (u := .ref _) rfl rfl rfl rfl ?_
      refine x_aload_n rfl rfl ?_
      refine x_getE (y := 19) rfl rfl rfl hS.1 ?_
      refine x_ialE (j := i) rfl rfl (rfl) (by omega) ((hA1.1 i hi).1) ?_
      refine x_istore_n (ls' := [_, _, _, _]) rfl rfl rfl ?_
      refine x_iload_n rfl rfl ?_
      refine x_bipushN (q := 40) rfl ?_
      refine x_callS (M' := mi199) (As := [_]) (bc1 := 0) (bs1 := 0) (bc2 := 0) (bs2 := 0) rfl rfl rfl rfl ok199 rfl rfl rfl rfl rfl rfl ?_
      refine m_sign (by omega) ?_
      refine x_icmpN_ne rfl (fun c40 => ?_) (fun c40 => ?_)
      rotate_left
      · exact absurd c40 (by first | decide | omega)
      refine x_aload_n rfl rfl ?_
      refine x_iload_n rfl rfl ?_
      refine x_callV (M' := mi207) (As := [_]) (bc1 := 0) (bs1 := 0) (bc2 := 0) (bs2 := 0) rfl rfl rfl rfl ok207 rfl rfl (by decide) rfl rfl rfl rfl rfl rfl ?_
      refine h5 f dp i p x V (d + 6) hd (by omega) hi hp hF hS hr _ (fun V' hF' g1 g0 => ?_)
      exact hbad V' _ (hpl _) (g0 c0) (hP V' hF' g1 g0)
set_option maxRecDepth 20000 in
theorem rd_tests (hA : TkA o N tc tv pl V0) : ∀ f, Rd0 V0 VL G ext o N tc tv pl f ∧ Rd1 V0 VL G ext o N tc tv pl f ∧ Rd2 V0 VL G ext o N tc tv pl f ∧ Rd3 V0 VL G ext o N tc tv pl f ∧ Rd4 V0 VL G ext o N tc tv pl f ∧ Rd10 V0 VL G ext o N tc tv pl f
  | 0 => ⟨fun _ _ _ _ _ _ _ _ _ _ _ _ hr => absurd rfl hr, fun _ _ _ _ _ _ _ _ _ _ _ _ hr => absurd rfl hr, fun _ _ _ _ _ _ _ _ _ _ _ _ hr => absurd rfl hr, fun _ _ _ _ _ _ _ _ _ _ _ _ hr => absurd rfl hr, fun _ _ _ _ _ _ _ _ _ _ _ _ hr => absurd rfl hr, fun _ _ _ _ _ _ _ _ _ _ _ _ hr => absurd rfl hr⟩
  | f + 1 => by
    obtain ⟨h0, h1, h2, h3, h4, h10⟩ := rd_tests hA f
    exact ⟨rd0 hA h2 h1, rd1 hA h2 h1, rd2 hA h4 h3, rd3 hA h4 h3, rd4 hA h10, rd10 hA (fun g => (rd_sums hA g).1) h0⟩
end Read5
