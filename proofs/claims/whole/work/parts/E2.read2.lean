/-! ===== the model reads sums ===== -/
def RdP (V0 : VIT) (VL : VLT) (G : VRT) (ext : HL) (pl : Nat → Nat) (D : Nat) (M : MI) (pc : Nat) (ls : List Value) (V : VIT) (r : PRd) : Prop :=
  ∀ P : Post, (∀ V' : VIT, FrRM V0 V' → (r.1 = 1 → MS r.2.1 r.2.2.1 V') → (r.1 = 0 → V' 74 21 = nI (pl r.2.1)) → P none (LY ++ ext) V' VL (vr G)) → Ex D M pc ls [] (LY ++ ext) V VL (vr G) 0 0 P
set_option maxRecDepth 20000 in
theorem pbd_0 {r : PRd} {k : Nat → Nat → Den → PRd} (h : ¬ r.1 = 1) : pbd r k = r := if_neg h
set_option maxRecDepth 20000 in
theorem MS.tok {i p j : Nat} {V : VIT} (h : MS i p V) : MS j p (up V 74 19 (nI j)) := ⟨up_at, (up_at' (by omega)).trans h.2.1, (up_at' (by omega)).trans h.2.2⟩
section Read2
variable {d : Nat} {V0 V : VIT} {VL : VLT} {G : VRT} {P : Post} {ext : HL} {o : Bool} {N f : Nat} {tc tv pl : Nat → Nat}
def Rd5 (V0 : VIT) (VL : VLT) (G : VRT) (ext : HL) (o : Bool) (N : Nat) (tc tv pl : Nat → Nat) (f : Nat) : Prop := ∀ dp i p x V D, dp ≤ 8 → 3 * (8 - dp) + 6 ≤ D → i ≤ N → p ≤ 50 → FrRM V0 V → MS i p V → (prs o tc tv f 5 dp i p x).1 ≠ 2 → RdP V0 VL G ext pl D mi207 0 (entL [.ref 74, .int (nI dp)] 2) V (prs o tc tv f 5 dp i p x)
def Rd6 (V0 : VIT) (VL : VLT) (G : VRT) (ext : HL) (o : Bool) (N : Nat) (tc tv pl : Nat → Nat) (f : Nat) : Prop := ∀ dp i p x V D, dp ≤ 8 → 3 * (8 - dp) + 6 ≤ D → i ≤ N → p ≤ 50 → FrRM V0 V → MS i p V → (prs o tc tv f 6 dp i p x).1 ≠ 2 → RdP V0 VL G ext pl D mi207 5 [.ref 74, .int (nI dp)] V (prs o tc tv f 6 dp i p x)
def Rd7 (V0 : VIT) (VL : VLT) (G : VRT) (ext : HL) (o : Bool) (N : Nat) (tc tv pl : Nat → Nat) (f : Nat) : Prop := ∀ dp i p x V D, dp ≤ 8 → 3 * (8 - dp) + 5 ≤ D → i ≤ N → p ≤ 50 → FrRM V0 V → MS i p V → (prs o tc tv f 7 dp i p x).1 ≠ 2 → RdP V0 VL G ext pl D mi208 0 (entL [.ref 74, .int (nI dp)] 2) V (prs o tc tv f 7 dp i p x)
def Rd8 (V0 : VIT) (VL : VLT) (G : VRT) (ext : HL) (o : Bool) (N : Nat) (tc tv pl : Nat → Nat) (f : Nat) : Prop := ∀ dp i p x V D, dp ≤ 8 → 3 * (8 - dp) + 5 ≤ D → i ≤ N → p ≤ 50 → FrRM V0 V → MS i p V → (prs o tc tv f 8 dp i p x).1 ≠ 2 → RdP V0 VL G ext pl D mi208 5 [.ref 74, .int (nI dp)] V (prs o tc tv f 8 dp i p x)
def Rd9 (V0 : VIT) (VL : VLT) (G : VRT) (ext : HL) (o : Bool) (N : Nat) (tc tv pl : Nat → Nat) (f : Nat) : Prop := ∀ dp i p x V D, dp ≤ 8 → 3 * (8 - dp) + 4 ≤ D → i ≤ N → p ≤ 50 → FrRM V0 V → MS i p V → (prs o tc tv f 9 dp i p x).1 ≠ 2 → RdP V0 VL G ext pl D mi209 0 (entL [.ref 74, .int (nI dp)] 3) V (prs o tc tv f 9 dp i p x)
set_option maxRecDepth 20000 in
theorem sum_bad {dp b : Nat} (h : V 74 21 = nI b) (hb : b ≤ 400) (hP : P none (LY ++ ext) V VL (vr G)) : Ex (d + 3) mi207 5 [.ref 74, .int (nI dp)] [] (LY ++ ext) V VL (vr G) 0 0 P := by
  refine x_aload_n rfl rfl ?_
  refine x_bipushN (q := 43) rfl ?_
  refine x_callS (M' := mi199) (As := [_]) (bc1 := 0) (bs1 := 0) (bc2 := 0) (bs2 := 0) rfl rfl rfl rfl ok199 rfl rfl rfl rfl rfl rfl ?_
  refine m_sign (by omega) ?_
  refine x_callV (M' := mi196) (As := [_]) (bc1 := 0) (bs1 := 0) (bc2 := 0) (bs2 := 0) rfl rfl rfl rfl ok196 rfl rfl (by decide) rfl rfl rfl rfl rfl rfl ?_
  refine m_takesB h hb ?_
  refine x_ifN_ne rfl (fun c14 => ?_) (fun c14 => ?_)
  · exact absurd c14 (by first | decide | omega)
  refine x_aload_n rfl rfl ?_
  refine x_bipushN (q := 45) rfl ?_
  refine x_callS (M' := mi199) (As := [_]) (bc1 := 0) (bs1 := 0) (bc2 := 0) (bs2 := 0) rfl rfl rfl rfl ok199 rfl rfl rfl rfl rfl rfl ?_
  refine m_sign (by omega) ?_
  refine x_callV (M' := mi196) (As := [_]) (bc1 := 0) (bs1 := 0) (bc2 := 0) (bs2 := 0) rfl rfl rfl rfl ok196 rfl rfl (by decide) rfl rfl rfl rfl rfl rfl ?_
  refine m_takesB h hb ?_
  refine x_ifN_eq rfl (fun c26 => ?_) (fun c26 => ?_)
  rotate_left
  · exact absurd c26 (by first | decide | omega)
  refine x_vret rfl rfl ?_
  exact hP
set_option maxRecDepth 20000 in
theorem term_bad {dp b : Nat} (h : V 74 21 = nI b) (hb : b ≤ 400) (hP : P none (LY ++ ext) V VL (vr G)) : Ex (d + 3) mi208 5 [.ref 74, .int (nI dp)] [] (LY ++ ext) V VL (vr G) 0 0 P := by
  refine x_aload_n rfl rfl ?_
  refine x_bipushN (q := 42) rfl ?_
  refine x_callS (M' := mi199) (As := [_]) (bc1 := 0) (bs1 := 0) (bc2 := 0) (bs2 := 0) rfl rfl rfl rfl ok199 rfl rfl rfl rfl rfl rfl ?_
  refine m_sign (by omega) ?_
  refine x_callV (M' := mi196) (As := [_]) (bc1 := 0) (bs1 := 0) (bc2 := 0) (bs2 := 0) rfl rfl rfl rfl ok196 rfl rfl (by decide) rfl rfl rfl rfl rfl rfl ?_
  refine m_takesB h hb ?_
  refine x_ifN_ne rfl (fun c14 => ?_) (fun c14 => ?_)
  · exact absurd c14 (by first | decide | omega)
  refine x_aload_n rfl rfl ?_
  refine x_bipushN (q := 47) rfl ?_
  refine x_callS (M' := mi199) (As := [_]) (bc1 := 0) (bs1 := 0) (bc2 := 0) (bs2 := 0) rfl rfl rfl rfl ok199 rfl rfl rfl rfl rfl rfl ?_
  refine m_sign (by omega) ?_
  refine x_callV (M' := mi196) (As := [_]) (bc1 := 0) (bs1 := 0) (bc2 := 0) (bs2 := 0) rfl rfl rfl rfl ok196 rfl rfl (by decide) rfl rfl rfl rfl rfl rfl ?_
  refine m_takesB h hb ?_
  refine x_ifN_ne rfl (fun c26 => ?_) (fun c26 => ?_)
  · exact absurd c26 (by first | decide | omega)
  refine x_aload_n rfl rfl ?_
  refine x_bipushN (q := 37) rfl ?_
  refine x_callS (M' := mi199) (As := [_]) (bc1 := 0) (bs1 := 0) (bc2 := 0) (bs2 := 0) rfl rfl rfl rfl ok199 rfl rfl rfl rfl rfl rfl ?_
  refine m_sign (by omega) ?_
  refine x_callV (M' := mi196) (As := [_]) (bc1 := 0) (bs1 := 0) (bc2 := 0) (bs2 := 0) rfl rfl rfl rfl ok196 rfl rfl (by decide) rfl rfl rfl rfl rfl rfl ?_
  refine m_takesB h hb ?_
  refine x_ifN_eq rfl (fun c38 => ?_) (fun c38 => ?_)
  rotate_left
  · exact absurd c38 (by first | decide | omega)
  refine x_vret rfl rfl ?_
  exact hP
set_option maxRecDepth 20000 in
theorem part_bad0 {dp b : Nat} (h : V 74 21 = nI b) (hb : b ≤ 400) (hP : P none (LY ++ ext) V VL (vr G)) : Ex (d + 3) mi209 0 (entL [.ref 74, .int (nI dp)] 3) [] (LY ++ ext) V VL (vr G) 0 0 P := by
  refine x_aload_n rfl rfl ?_
  refine x_callV (M' := mi194) (As := []) (bc1 := 0) (bs1 := 0) (bc2 := 0) (bs2 := 0) rfl rfl rfl rfl ok194 rfl rfl (by decide) rfl rfl rfl rfl rfl rfl ?_
  refine m_fine0 h hb ?_
  refine x_ifN_ne rfl (fun c4 => ?_) (fun c4 => ?_)
  · exact absurd c4 (by first | decide | omega)
  refine x_vret rfl rfl ?_
  exact hP
set_option maxRecDepth 20000 in
theorem term_bad0 {dp b : Nat} (h : V 74 21 = nI b) (hb : b ≤ 400) (hP : P none (LY ++ ext) V VL (vr G)) : Ex (d + 4) mi208 0 (entL [.ref 74, .int (nI dp)] 2) [] (LY ++ ext) V VL (vr G) 0 0 P := by
  refine x_aload_n rfl rfl ?_
  refine x_iload_n rfl rfl ?_
  refine x_callV (M' := mi209) (As := [_]) (bc1 := 0) (bs1 := 0) (bc2 := 0) (bs2 := 0) rfl rfl rfl rfl ok209 rfl rfl (by decide) rfl rfl rfl rfl rfl rfl ?_
  refine part_bad0 (d := d) h hb ?_
  exact term_bad (d := d + 1) h hb hP
set_option maxRecDepth 20000 in
theorem sum_bad0 {dp b : Nat} (h : V 74 21 = nI b) (hb : b ≤ 400) (hP : P none (LY ++ ext) V VL (vr G)) : Ex (d + 5) mi207 0 (entL [.ref 74, .int (nI dp)] 2) [] (LY ++ ext) V VL (vr G) 0 0 P := by
  refine x_aload_n rfl rfl ?_
  refine x_iload_n rfl rfl ?_
  refine x_callV (M' := mi208) (As := [_]) (bc1 := 0) (bs1 := 0) (bc2 := 0) (bs2 := 0) rfl rfl rfl rfl ok208 rfl rfl (by decide) rfl rfl rfl rfl rfl rfl ?_
  refine term_bad0 (d := d) h hb ?_
  exact sum_bad (d := d + 2) h hb hP
set_option maxRecDepth 20000 in
theorem rd5 (hA : TkA o N tc tv pl V0) (h7 : Rd7 V0 VL G ext o N tc tv pl f) (h6 : Rd6 V0 VL G ext o N tc tv pl f) : Rd5 V0 VL G ext o N tc tv pl (f + 1) := by
  intro dp i p x V D hd hD hi hp hF hS hr
  have e5 : prs o tc tv (f + 1) 5 dp i p x = pbd (prs o tc tv f 7 dp i p x) (fun i' p' y => prs o tc tv f 6 dp i' p' y) := rfl
  rw [e5] at hr ⊢
  obtain ⟨d, rfl⟩ : ∃ d, D = d + 6 := ⟨D - 6, by omega⟩
  have hpl := fun j => (hA.2.2.2.2.2.2 j).2.2
  intro P hP
  by_cases c : (prs o tc tv f 7 dp i p x).1 = 1
  · rw [show pbd (prs o tc tv f 7 dp i p x) (fun i' p' y => prs o tc tv f 6 dp i' p' y) = prs o tc tv f 6 dp (prs o tc tv f 7 dp i p x).2.1 (prs o tc tv f 7 dp i p x).2.2.1 (prs o tc tv f 7 dp i p x).2.2.2 from if_pos c] at hr hP
    obtain ⟨o1, o2, o3⟩ := prs_ok (o := o) (tv := tv) hA.2.2.2.2.2.1 f 7 dp i p x hi c
    have op := (prs_c (o := o) (tc := tc) (tv := tv) f 7 dp i p x hp).1 c
    refine x_aload_n rfl rfl ?_
    refine x_iload_n rfl rfl ?_
    refine x_callV (M' := mi208) (As := [_]) (bc1 := 0) (bs1 := 0) (bc2 := 0) (bs2 := 0) rfl rfl rfl rfl ok208 rfl rfl (by decide) rfl rfl rfl rfl rfl rfl ?_
    refine h7 dp i p x V (d + 5) hd (by omega) hi hp hF hS (by rw [c]; omega) _ (fun V' hF' g1 g0 => ?_)
    exact h6 dp _ _ _ V' (d + 6) hd hD o2 op hF' (g1 c) hr P hP
  · rw [pbd_0 c] at hr hP
    have c0 : (prs o tc tv f 7 dp i p x).1 = 0 := by
      have := (prs_c (o := o) (tc := tc) (tv := tv) f 7 dp i p x hp).2
      omega
    refine x_aload_n rfl rfl ?_
    refine x_iload_n rfl rfl ?_
    refine x_callV (M' := mi208) (As := [_]) (bc1 := 0) (bs1 := 0) (bc2 := 0) (bs2 := 0) rfl rfl rfl rfl ok208 rfl rfl (by decide) rfl rfl rfl rfl rfl rfl ?_
    refine h7 dp i p x V (d + 5) hd (by omega) hi hp hF hS hr _ (fun V' hF' g1 g0 => ?_)
    exact sum_bad (d := d + 3) (g0 c0) (hpl _) (hP V' hF' g1 g0)
end Read2
