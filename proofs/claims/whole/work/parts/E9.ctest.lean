/-! ===== the class reads tests ===== -/
section ReadE
variable {d : Nat} {V0 V : VIT} {VL : VLT} {G : VRT} {P : Post} {ext : HL} {o : Bool} {N f nw : Nat} {ct tc tv pl wm : Nat → Nat}
def Rc0 (V0 : VIT) (VL : VLT) (G : VRT) (ext : HL) (o : Bool) (N : Nat) (tc tv pl : Nat → Nat) (nw : Nat) (wm : Nat → Nat) (f : Nat) : Prop := ∀ dp i p x V D l, dp ≤ 8 → 3 * (8 - dp) + 7 ≤ D → i ≤ N → p ≤ 50 → FrRC V0 V → CS i p l V → l ≤ 2 * i → (prs o tc tv f 0 dp i p x).1 ≠ 2 → RcP V0 VL G ext pl nw wm (2 * (8 - dp) + 4) i l D mi56 0 (entL [.ref 37, .int (nI dp)] 4) V (prs o tc tv f 0 dp i p x)
def Rc1 (V0 : VIT) (VL : VLT) (G : VRT) (ext : HL) (o : Bool) (N : Nat) (tc tv pl : Nat → Nat) (nw : Nat) (wm : Nat → Nat) (f : Nat) : Prop := ∀ dp i p x V D l l0 i0 q z3, dp ≤ 8 → 3 * (8 - dp) + 7 ≤ D → i ≤ N → p ≤ 50 → FrRC V0 V → CS i p l V → l0 ≤ 2 * i0 → i0 ≤ i → l + 2 * i0 ≤ l0 + 2 * i → q ≤ i → SegC nw (2 * (8 - dp) + 4) wm V l0 l x → (prs o tc tv f 1 dp i p x).1 ≠ 2 → RcP V0 VL G ext pl nw wm (2 * (8 - dp) + 4) i0 l0 D mi56 12 [.ref 37, .int (nI dp), .int (nI q), z3] V (prs o tc tv f 1 dp i p x)
def Rc2 (V0 : VIT) (VL : VLT) (G : VRT) (ext : HL) (o : Bool) (N : Nat) (tc tv pl : Nat → Nat) (nw : Nat) (wm : Nat → Nat) (f : Nat) : Prop := ∀ dp i p x V D l, dp ≤ 8 → 3 * (8 - dp) + 6 ≤ D → i ≤ N → p ≤ 50 → FrRC V0 V → CS i p l V → l ≤ 2 * i → (prs o tc tv f 2 dp i p x).1 ≠ 2 → RcP V0 VL G ext pl nw wm (2 * (8 - dp) + 4) i l D mi57 0 (entL [.ref 37, .int (nI dp)] 4) V (prs o tc tv f 2 dp i p x)
def Rc3 (V0 : VIT) (VL : VLT) (G : VRT) (ext : HL) (o : Bool) (N : Nat) (tc tv pl : Nat → Nat) (nw : Nat) (wm : Nat → Nat) (f : Nat) : Prop := ∀ dp i p x V D l l0 i0 q z3, dp ≤ 8 → 3 * (8 - dp) + 6 ≤ D → i ≤ N → p ≤ 50 → FrRC V0 V → CS i p l V → l0 ≤ 2 * i0 → i0 ≤ i → l + 2 * i0 ≤ l0 + 2 * i → q ≤ i → SegC nw (2 * (8 - dp) + 4) wm V l0 l x → (prs o tc tv f 3 dp i p x).1 ≠ 2 → RcP V0 VL G ext pl nw wm (2 * (8 - dp) + 4) i0 l0 D mi57 12 [.ref 37, .int (nI dp), .int (nI q), z3] V (prs o tc tv f 3 dp i p x)
def Rc4 (V0 : VIT) (VL : VLT) (G : VRT) (ext : HL) (o : Bool) (N : Nat) (tc tv pl : Nat → Nat) (nw : Nat) (wm : Nat → Nat) (f : Nat) : Prop := ∀ dp i p x V D l, dp ≤ 8 → 3 * (8 - dp) + 5 ≤ D → i ≤ N → p ≤ 50 → FrRC V0 V → CS i p l V → l ≤ 2 * i → (prs o tc tv f 4 dp i p x).1 ≠ 2 → RcP V0 VL G ext pl nw wm (2 * (8 - dp) + 4) i l D mi58 0 (entL [.ref 37, .int (nI dp)] 4) V (prs o tc tv f 4 dp i p x)
def Rc10 (V0 : VIT) (VL : VLT) (G : VRT) (ext : HL) (o : Bool) (N : Nat) (tc tv pl : Nat → Nat) (nw : Nat) (wm : Nat → Nat) (f : Nat) : Prop := ∀ dp i p x V D l tu z3, dp ≤ 8 → 3 * (8 - dp) + 5 ≤ D → i ≤ N → p ≤ 50 → tu ≤ 1 → FrRC V0 V → CS i p l V → l ≤ 2 * i → (prs o tc tv f 10 dp i p x).1 ≠ 2 → ∀ P : Post, ((prs o tc tv f 10 dp i p x).1 = 1 → ∀ (V' : VIT) (l' : Nat) (z : Value), FrRC V0 V' → (∀ k, k < l → V' 40 k = V 40 k) → CS (prs o tc tv f 10 dp i p x).2.1 (prs o tc tv f 10 dp i p x).2.2.1 l' V' → l' + 2 * i ≤ l + 2 * (prs o tc tv f 10 dp i p x).2.1 → SegC nw (2 * (8 - dp) + 4) wm V' l l' (prs o tc tv f 10 dp i p x).2.2.2 → Ex D mi58 166 [.ref 37, .int (nI dp), .int (nI tu), z] [] (LY ++ ext) V' VL (vr G) 0 0 P) → ((prs o tc tv f 10 dp i p x).1 = 0 → ∀ V' : VIT, FrRC V0 V' → V' 37 1 = nI (pl (prs o tc tv f 10 dp i p x).2.1) → P (some (.int (nI 0))) (LY ++ ext) V' VL (vr G)) → Ex D mi58 47 [.ref 37, .int (nI dp), .int (nI tu), z3] [] (LY ++ ext) V VL (vr G) 0 0 P
set_option maxRecDepth 20000 in
theorem rc0 (hA : CkA o N ct tc tv pl V0) (h2 : Rc2 V0 VL G ext o N tc tv pl nw wm f) (h1 : Rc1 V0 VL G ext o N tc tv pl nw wm f) : Rc0 V0 VL G ext o N tc tv pl nw wm (f + 1) := by
  intro dp i p x V D l hd hD hi hp hF hS hl hr
  have e5 : prs o tc tv (f + 1) 0 dp i p x = pbd (prs o tc tv f 2 dp i p x) (fun i' p' y => prs o tc tv f 1 dp i' p' y) := rfl
  rw [e5] at hr ⊢
  obtain ⟨d, rfl⟩ : ∃ d, D = d + 7 := ⟨D - 7, by omega⟩
  intro P hP hP0
  by_cases c : (prs o tc tv f 2 dp i p x).1 = 1
  · rw [show pbd (prs o tc tv f 2 dp i p x) (fun i' p' y => prs o tc tv f 1 dp i' p' y) = prs o tc tv f 1 dp (prs o tc tv f 2 dp i p x).2.1 (prs o tc tv f 2 dp i p x).2.2.1 (prs o tc tv f 2 dp i p x).2.2.2 from if_pos c] at hr hP hP0
    obtain ⟨o1, o2, o3⟩ := prs_ok (o := o) (tv := tv) hA.2.2.2.2.1 f 2 dp i p x hi c
    have op := (prs_c (o := o) (tc := tc) (tv := tv) f 2 dp i p x hp).1 c
    refine x_aload_n rfl rfl ?_
    refine x_iload_n rfl rfl ?_
    refine x_callV (M' := mi57) (As := [_]) (bc1 := 0) (bs1 := 0) (bc2 := 0) (bs2 := 0) rfl rfl rfl rfl ok57 rfl rfl (by decide) rfl rfl rfl rfl rfl rfl ?_
    refine h2 dp i p x V (d + 6) l hd (by omega) hi hp hF hS hl (by rw [c]; omega) _ (fun _ V1 l1 hF1 hk1 g1 b1 sg1 => ?_) (fun z => absurd z (by rw [c]; omega))
    refine x_ifN_ne rfl (fun c5 => ?_) (fun c5 => ?_)
    rotate_left
    · exact absurd c5 (by first | decide | omega)
    refine x_iconstN (q := 0) rfl ?_
    refine x_istore_n (ls' := [_, _, _, _]) rfl rfl rfl ?_
    skip
    exact h1 dp _ _ _ V1 (d + 7) l1 l i 0 _ hd hD o2 op hF1 g1 hl o1 b1 (Nat.zero_le _) sg1 hr P (fun z V2 l2 q1 q2 => hP z V2 l2 q1 (fun k hk => (q2 k hk).trans (hk1 k hk))) hP0
  · rw [pbd_0 c] at hr hP hP0
    have c0 := ne2_0 hr (prs_c (o := o) (tc := tc) (tv := tv) f 2 dp i p x hp) c
    refine x_aload_n rfl rfl ?_
    refine x_iload_n rfl rfl ?_
    refine x_callV (M' := mi57) (As := [_]) (bc1 := 0) (bs1 := 0) (bc2 := 0) (bs2 := 0) rfl rfl rfl rfl ok57 rfl rfl (by decide) rfl rfl rfl rfl rfl rfl ?_
    refine h2 dp i p x V (d + 6) l hd (by omega) hi hp hF hS hl hr _ (fun z => absurd z c) (fun _ V1 hF1 g1 => ?_)
    refine x_ifN_ne rfl (fun c5 => ?_) (fun c5 => ?_)
    · exact absurd c5 (by first | decide | omega)
    refine x_iconstN (q := 0) rfl ?_
    refine x_zret rfl rfl (by first | exact Or.inl rfl | exact Or.inr rfl) ?_
    exact hP0 c0 V1 hF1 g1
set_option maxRecDepth 20000 in
theorem rc1 (hA : CkA o N ct tc tv pl V0) (h2 : Rc2 V0 VL G ext o N tc tv pl nw wm f) (h1 : Rc1 V0 VL G ext o N tc tv pl nw wm f) : Rc1 V0 VL G ext o N tc tv pl nw wm (f + 1) := by
  intro dp i p x V D l l0 i0 q z3 hd hD hi hp hF hS hl0 hi0 hll hq hx hr
  have hA1 := hA.fr hF
  have hN := hA.2.2.2.1
  have hTR := (hA.1 i hi).2.2.1
  have hct := (hA.1 i hi).2.2.2
  have w : ct i = 313 ↔ tc i = 5 := hTR.word (w := 13) (by omega)
  obtain ⟨d, rfl⟩ : ∃ d, D = d + 7 := ⟨D - 7, by omega⟩
  by_cases c : tc i = 5
  · have hin : i < N := Nat.lt_of_not_le (fun z => by have := hA.2.2.2.2.1 i z; omega)
    have e6 : prs o tc tv (f + 1) 1 dp i p x = pbd (prs o tc tv f 2 dp (i + 1) p x) (fun i' p' y => prs o tc tv f 1 dp i' p' (dOr x y)) := by
      show (if tc i = 5 then pbd (prs o tc tv f 2 dp (i + 1) p x) (fun i' p' y => prs o tc tv f 1 dp i' p' (dOr x y)) else (1, i, p, x)) = _
      rw [if_pos c]
    rw [e6] at hr ⊢
    intro P hP hP0
    have hx1 := hx.1
    by_cases c1 : (prs o tc tv f 2 dp (i + 1) p x).1 = 1
    · rw [show pbd (prs o tc tv f 2 dp (i + 1) p x) (fun i' p' y => prs o tc tv f 1 dp i' p' (dOr x y)) = prs o tc tv f 1 dp (prs o tc tv f 2 dp (i + 1) p x).2.1 (prs o tc tv f 2 dp (i + 1) p x).2.2.1 (dOr x (prs o tc tv f 2 dp (i + 1) p x).2.2.2) from if_pos c1] at hr hP hP0
      obtain ⟨o1, o2, o3⟩ := prs_ok (o := o) (tv := tv) hA.2.2.2.2.1 f 2 dp (i + 1) p x hin c1
      have op := (prs_c (o := o) (tc := tc) (tv := tv) f 2 dp (i + 1) p x hp).1 c1
      refine x_iload_n rfl rfl ?_
      refine x_sipushN (q := 400) rfl ?_
      refine x_icmpN_ge rfl (fun c16 => ?_) (fun c16 => ?_)
      · exact absurd c16 (by first | decide | omega)
      refine x_aload_n rfl rfl ?_
      refine x_callV (M' := mi48) (As := []) (bc1 := 0) (bs1 := 0) (bc2 := 0) (bs2 := 0) rfl rfl rfl rfl ok48 rfl rfl (by decide) rfl rfl rfl rfl rfl rfl ?_
      refine x_token hA1 hS.1 hi ?_
      refine x_sipushN (q := 313) rfl ?_
      refine x_icmpN_ne rfl (fun c26 => ?_) (fun c26 => ?_)
      · exact absurd c26 (by first | decide | omega)
      refine x_aload_n rfl rfl ?_
      refine x_dup rfl rfl ?_
      refine x_getE (y := 5) rfl rfl rfl hS.1 ?_
      refine x_iconstN (q := 1) rfl ?_
      refine x_iaddN rfl ?_
      refine x_putI rfl rfl rfl rfl ?_
      refine x_aload_n rfl rfl ?_
      refine x_getR (u := .ref _) rfl rfl rfl rfl ?_
      refine x_iconstN (q := 5) rfl ?_
      refine x_iconstN (q := 0) rfl ?_
      refine x_callV (M' := mi86) (As := [_, _]) (bc1 := 0) (bs1 := 0) (bc2 := 0) (bs2 := 0) rfl rfl rfl rfl ok86 rfl rfl (by decide) rfl rfl rfl rfl rfl rfl ?_
      refine x_putC hS.tok.2.2.2 (by omega) ?_
      refine x_istore_n (ls' := [_, _, _, _]) rfl rfl rfl ?_
      refine x_aload_n rfl rfl ?_
      refine x_iload_n rfl rfl ?_
      refine x_callV (M' := mi57) (As := [_]) (bc1 := 0) (bs1 := 0) (bc2 := 0) (bs2 := 0) rfl rfl rfl rfl ok57 rfl rfl (by decide) rfl rfl rfl rfl rfl rfl ?_
      refine h2 dp (i + 1) p x _ (d + 6) (l + 2) hd (by omega) hin hp (hF.up (by omega)).put hS.tok.put (by omega) (by rw [c1]; omega) _ (fun _ V1 l1 hF1 hk1 g1 b1 sg1 => ?_) (fun z => absurd z (by rw [c1]; omega))
      refine x_ifN_ne rfl (fun c54 => ?_) (fun c54 => ?_)
      rotate_left
      · exact absurd c54 (by first | decide | omega)
      refine x_aload_n rfl rfl ?_
      refine x_getR (u := .ref _) rfl rfl rfl rfl ?_
      refine x_iload_n rfl rfl ?_
      refine x_callV (M' := mi87) (As := [_]) (bc1 := 0) (bs1 := 0) (bc2 := 0) (bs2 := 0) rfl rfl rfl rfl ok87 rfl rfl (by decide) rfl rfl rfl rfl rfl rfl ?_
      refine x_land g1.2.2.2 (by have := sg1.1; omega) (by omega) ?_
      refine x_iincN (q := 1) (ls' := [_, _, _, _]) rfl rfl rfl rfl ?_
      refine x_goto rfl ?_
      skip
      have hs1 := sg1.1
      have hlo : ∀ k, k < l → V1 40 k = V 40 k := fun k hk => by rw [hk1 k (by omega), put_lt hk, up_ne2 (by omega)]
      refine h1 dp _ _ _ _ (d + 7) l1 l0 i0 (q + 1) _ hd hD o2 op hF1.cd g1.land hl0 (by omega) (by omega) (by omega) ?_ hr P (fun z V2 l2 q1 q2 => hP z V2 l2 q1 (fun k hk => ?_)) hP0
      · refine SegC.or (l1 := l) (hx.same (fun k a b => ?_)) ?_ up_at (sg1.same (fun k a b => up_ne2 (by omega))) (by omega)
        · rw [up_ne2 (by omega), hlo k b]
        · rw [up_ne2 (by omega), hk1 l (by omega), put_0]
      · rw [q2 k hk, up_ne2 (by omega), hlo k (by omega)]
    · rw [pbd_0 c1] at hr hP hP0
      have c0 := ne2_0 hr (prs_c (o := o) (tc := tc) (tv := tv) f 2 dp (i + 1) p x hp) c1
      refine x_iload_n rfl rfl ?_
      refine x_sipushN (q := 400) rfl ?_
      refine x_icmpN_ge rfl (fun c16 => ?_) (fun c16 => ?_)
      · exact absurd c16 (by first | decide | omega)
      refine x_aload_n rfl rfl ?_
      refine x_callV (M' := mi48) (As := []) (bc1 := 0) (bs1 := 0) (bc2 := 0) (bs2 := 0) rfl rfl rfl rfl ok48 rfl rfl (by decide) rfl rfl rfl rfl rfl rfl ?_
      refine x_token hA1 hS.1 hi ?_
      refine x_sipushN (q := 313) rfl ?_
      refine x_icmpN_ne rfl (fun c26 => ?_) (fun c26 => ?_)
      · exact absurd c26 (by first | decide | omega)
      refine x_aload_n rfl rfl ?_
      refine x_dup rfl rfl ?_
      refine x_getE (y := 5) rfl rfl rfl hS.1 ?_
      refine x_iconstN (q := 1) rfl ?_
      refine x_iaddN rfl ?_
      refine x_putI rfl rfl rfl rfl ?_
      refine x_aload_n rfl rfl ?_
      refine x_getR (u := .ref _) rfl rfl rfl rfl ?_
      refine x_iconstN (q := 5) rfl ?_
      refine x_iconstN (q := 0) rfl ?_
      refine x_callV (M' := mi86) (As := [_, _]) (bc1 := 0) (bs1 := 0) (bc2 := 0) (bs2 := 0) rfl rfl rfl rfl ok86 rfl rfl (by decide) rfl rfl rfl rfl rfl rfl ?_
      refine x_putC hS.tok.2.2.2 (by omega) ?_
      refine x_istore_n (ls' := [_, _, _, _]) rfl rfl rfl ?_
      refine x_aload_n rfl rfl ?_
      refine x_iload_n rfl rfl ?_
      refine x_callV (M' := mi57) (As := [_]) (bc1 := 0) (bs1 := 0) (bc2 := 0) (bs2 := 0) rfl rfl rfl rfl ok57 rfl rfl (by decide) rfl rfl rfl rfl rfl rfl ?_
      refine h2 dp (i + 1) p x _ (d + 6) (l + 2) hd (by omega) hin hp (hF.up (by omega)).put hS.tok.put (by omega) hr _ (fun z => absurd z c1) (fun _ V1 hF1 g1 => ?_)
      refine x_ifN_ne rfl (fun c54 => ?_) (fun c54 => ?_)
      · exact absurd c54 (by first | decide | omega)
      refine x_iconstN (q := 0) rfl ?_
      refine x_zret rfl rfl (by first | exact Or.inl rfl | exact Or.inr rfl) ?_
      exact hP0 c0 V1 hF1 g1
  · have e6 : prs o tc tv (f + 1) 1 dp i p x = (1, i, p, x) := by
      show (if tc i = 5 then pbd (prs o tc tv f 2 dp (i + 1) p x) (fun i' p' y => prs o tc tv f 1 dp i' p' (dOr x y)) else (1, i, p, x)) = _
      rw [if_neg c]
    rw [e6] at hr ⊢
    intro P hP hP0
    have hend := hP rfl V l hF (fun _ _ => rfl) hS hll hx
    by_cases cq : q < 400
    · refine x_iload_n rfl rfl ?_
      refine x_sipushN (q := 400) rfl ?_
      refine x_icmpN_ge rfl (fun c16 => ?_) (fun c16 => ?_)
      · exact absurd c16 (by first | decide | omega)
      refine x_aload_n rfl rfl ?_
      refine x_callV (M' := mi48) (As := []) (bc1 := 0) (bs1 := 0) (bc2 := 0) (bs2 := 0) rfl rfl rfl rfl ok48 rfl rfl (by decide) rfl rfl rfl rfl rfl rfl ?_
      refine x_token hA1 hS.1 hi ?_
      refine x_sipushN (q := 313) rfl ?_
      refine x_icmpN_ne rfl (fun c26 => ?_) (fun c26 => ?_)
      rotate_left
      · exact absurd c26 (by first | decide | omega)
      refine x_iconstN (q := 1) rfl ?_
      refine x_zret rfl rfl (by first | exact Or.inl rfl | exact Or.inr rfl) ?_
      exact hend
    · refine x_iload_n rfl rfl ?_
      refine x_sipushN (q := 400) rfl ?_
      refine x_icmpN_ge rfl (fun c16 => ?_) (fun c16 => ?_)
      rotate_left
      · exact absurd c16 (by first | decide | omega)
      refine x_iconstN (q := 1) rfl ?_
      refine x_zret rfl rfl (by first | exact Or.inl rfl | exact Or.inr rfl) ?_
      exact hend
set_option maxRecDepth 20000 in
theorem rc2 (hA : CkA o N ct tc tv pl V0) (h2 : Rc4 V0 VL G ext o N tc tv pl nw wm f) (h1 : Rc3 V0 VL G ext o N tc tv pl nw wm f) : Rc2 V0 VL G ext o N tc tv pl nw wm (f + 1) := by
  intro dp i p x V D l hd hD hi hp hF hS hl hr
  have e5 : prs o tc tv (f + 1) 2 dp i p x = pbd (prs o tc tv f 4 dp i p x) (fun i' p' y => prs o tc tv f 3 dp i' p' y) := rfl
  rw [e5] at hr ⊢
  obtain ⟨d, rfl⟩ : ∃ d, D = d + 6 := ⟨D - 6, by omega⟩
  intro P hP hP0
  by_cases c : (prs o tc tv f 4 dp i p x).1 = 1
  · rw [show pbd (prs o tc tv f 4 dp i p x) (fun i' p' y => prs o tc tv f 3 dp i' p' y) = prs o tc tv f 3 dp (prs o tc tv f 4 dp i p x).2.1 (prs o tc tv f 4 dp i p x).2.2.1 (prs o tc tv f 4 dp i p x).2.2.2 from if_pos c] at hr hP hP0
    obtain ⟨o1, o2, o3⟩ := prs_ok (o := o) (tv := tv) hA.2.2.2.2.1 f 4 dp i p x hi c
    have op := (prs_c (o := o) (tc := tc) (tv := tv) f 4 dp i p x hp).1 c
    refine x_aload_n rfl rfl ?_
    refine x_iload_n rfl rfl ?_
    refine x_callV (M' := mi58) (As := [_]) (bc1 := 0) (bs1 := 0) (bc2 := 0) (bs2 := 0) rfl rfl rfl rfl ok58 rfl rfl (by decide) rfl rfl rfl rfl rfl rfl ?_
    refine h2 dp i p x V (d + 5) l hd (by omega) hi hp hF hS hl (by rw [c]; omega) _ (fun _ V1 l1 hF1 hk1 g1 b1 sg1 => ?_) (fun z => absurd z (by rw [c]; omega))
    refine x_ifN_ne rfl (fun c5 => ?_) (fun c5 => ?_)
    rotate_left
    · exact absurd c5 (by first | decide | omega)
    refine x_iconstN (q := 0) rfl ?_
    refine x_istore_n (ls' := [_, _, _, _]) rfl rfl rfl ?_
    skip
    exact h1 dp _ _ _ V1 (d + 6) l1 l i 0 _ hd hD o2 op hF1 g1 hl o1 b1 (Nat.zero_le _) sg1 hr P (fun z V2 l2 q1 q2 => hP z V2 l2 q1 (fun k hk => (q2 k hk).trans (hk1 k hk))) hP0
  · rw [pbd_0 c] at hr hP hP0
    have c0 := ne2_0 hr (prs_c (o := o) (tc := tc) (tv := tv) f 4 dp i p x hp) c
    refine x_aload_n rfl rfl ?_
    refine x_iload_n rfl rfl ?_
    refine x_callV (M' := mi58) (As := [_]) (bc1 := 0) (bs1 := 0) (bc2 := 0) (bs2 := 0) rfl rfl rfl rfl ok58 rfl rfl (by decide) rfl rfl rfl rfl rfl rfl ?_
    refine h2 dp i p x V (d + 5) l hd (by omega) hi hp hF hS hl hr _ (fun z => absurd z c) (fun _ V1 hF1 g1 => ?_)
    refine x_ifN_ne rfl (fun c5 => ?_) (fun c5 => ?_)
    · exact absurd c5 (by first | decide | omega)
    refine x_iconstN (q := 0) rfl ?_
    refine x_zret rfl rfl (by first | exact Or.inl rfl | exact Or.inr rfl) ?_
    exact hP0 c0 V1 hF1 g1
set_option maxRecDepth 20000 in
theorem rc3 (hA : CkA o N ct tc tv pl V0) (h2 : Rc4 V0 VL G ext o N tc tv pl nw wm f) (h1 : Rc3 V0 VL G ext o N tc tv pl nw wm f) : Rc3 V0 VL G ext o N tc tv pl nw wm (f + 1) := by
  intro dp i p x V D l l0 i0 q z3 hd hD hi hp hF hS hl0 hi0 hll hq hx hr
  have hA1 := hA.fr hF
  have hN := hA.2.2.2.1
  have hTR := (hA.1 i hi).2.2.1
  have hct := (hA.1 i hi).2.2.2
  have w : ct i = 312 ↔ tc i = 6 := hTR.word (w := 12) (by omega)
  obtain ⟨d, rfl⟩ : ∃ d, D = d + 6 := ⟨D - 6, by omega⟩
  by_cases c : tc i = 6
  · have hin : i < N := Nat.lt_of_not_le (fun z => by have := hA.2.2.2.2.1 i z; omega)
    have e6 : prs o tc tv (f + 1) 3 dp i p x = pbd (prs o tc tv f 4 dp (i + 1) p x) (fun i' p' y => prs o tc tv f 3 dp i' p' (dAnd x y)) := by
      show (if tc i = 6 then pbd (prs o tc tv f 4 dp (i + 1) p x) (fun i' p' y => prs o tc tv f 3 dp i' p' (dAnd x y)) else (1, i, p, x)) = _
      rw [if_pos c]
    rw [e6] at hr ⊢
    intro P hP hP0
    have hx1 := hx.1
    by_cases c1 : (prs o tc tv f 4 dp (i + 1) p x).1 = 1
    · rw [show pbd (prs o tc tv f 4 dp (i + 1) p x) (fun i' p' y => prs o tc tv f 3 dp i' p' (dAnd x y)) = prs o tc tv f 3 dp (prs o tc tv f 4 dp (i + 1) p x).2.1 (prs o tc tv f 4 dp (i + 1) p x).2.2.1 (dAnd x (prs o tc tv f 4 dp (i + 1) p x).2.2.2) from if_pos c1] at hr hP hP0
      obtain ⟨o1, o2, o3⟩ := prs_ok (o := o) (tv := tv) hA.2.2.2.2.1 f 4 dp (i + 1) p x hin c1
      have op := (prs_c (o := o) (tc := tc) (tv := tv) f 4 dp (i + 1) p x hp).1 c1
      refine x_iload_n rfl rfl ?_
      refine x_sipushN (q := 400) rfl ?_
      refine x_icmpN_ge rfl (fun c16 => ?_) (fun c16 => ?_)
      · exact absurd c16 (by first | decide | omega)
      refine x_aload_n rfl rfl ?_
      refine x_callV (M' := mi48) (As := []) (bc1 := 0) (bs1 := 0) (bc2 := 0) (bs2 := 0) rfl rfl rfl rfl ok48 rfl rfl (by decide) rfl rfl rfl rfl rfl rfl ?_
      refine x_token hA1 hS.1 hi ?_
      refine x_sipushN (q := 312) rfl ?_
      refine x_icmpN_ne rfl (fun c26 => ?_) (fun c26 => ?_)
      · exact absurd c26 (by first | decide | omega)
      refine x_aload_n rfl rfl ?_
      refine x_dup rfl rfl ?_
      refine x_getE (y := 5) rfl rfl rfl hS.1 ?_
      refine x_iconstN (q := 1) rfl ?_
      refine x_iaddN rfl ?_
      refine x_putI rfl rfl rfl rfl ?_
      refine x_aload_n rfl rfl ?_
      refine x_getR (u := .ref _) rfl rfl rfl rfl ?_
      refine x_iconstN (q := 4) rfl ?_
      refine x_iconstN (q := 0) rfl ?_
      refine x_callV (M' := mi86) (As := [_, _]) (bc1 := 0) (bs1 := 0) (bc2 := 0) (bs2 := 0) rfl rfl rfl rfl ok86 rfl rfl (by decide) rfl rfl rfl rfl rfl rfl ?_
      refine x_putC hS.tok.2.2.2 (by omega) ?_
      refine x_istore_n (ls' := [_, _, _, _]) rfl rfl rfl ?_
      refine x_aload_n rfl rfl ?_
      refine x_iload_n rfl rfl ?_
      refine x_callV (M' := mi58) (As := [_]) (bc1 := 0) (bs1 := 0) (bc2 := 0) (bs2 := 0) rfl rfl rfl rfl ok58 rfl rfl (by decide) rfl rfl rfl rfl rfl rfl ?_
      refine h2 dp (i + 1) p x _ (d + 5) (l + 2) hd (by omega) hin hp (hF.up (by omega)).put hS.tok.put (by omega) (by rw [c1]; omega) _ (fun _ V1 l1 hF1 hk1 g1 b1 sg1 => ?_) (fun z => absurd z (by rw [c1]; omega))
      refine x_ifN_ne rfl (fun c54 => ?_) (fun c54 => ?_)
      rotate_left
      · exact absurd c54 (by first | decide | omega)
      refine x_aload_n rfl rfl ?_
      refine x_getR (u := .ref _) rfl rfl rfl rfl ?_
      refine x_iload_n rfl rfl ?_
      refine x_callV (M' := mi87) (As := [_]) (bc1 := 0) (bs1 := 0) (bc2 := 0) (bs2 := 0) rfl rfl rfl rfl ok87 rfl rfl (by decide) rfl rfl rfl rfl rfl rfl ?_
      refine x_land g1.2.2.2 (by have := sg1.1; omega) (by omega) ?_
      refine x_iincN (q := 1) (ls' := [_, _, _, _]) rfl rfl rfl rfl ?_
      refine x_goto rfl ?_
      skip
      have hs1 := sg1.1
      have hlo : ∀ k, k < l → V1 40 k = V 40 k := fun k hk => by rw [hk1 k (by omega), put_lt hk, up_ne2 (by omega)]
      refine h1 dp _ _ _ _ (d + 6) l1 l0 i0 (q + 1) _ hd hD o2 op hF1.cd g1.land hl0 (by omega) (by omega) (by omega) ?_ hr P (fun z V2 l2 q1 q2 => hP z V2 l2 q1 (fun k hk => ?_)) hP0
      · refine SegC.and (l1 := l) (hx.same (fun k a b => ?_)) ?_ up_at (sg1.same (fun k a b => up_ne2 (by omega))) (by omega)
        · rw [up_ne2 (by omega), hlo k b]
        · rw [up_ne2 (by omega), hk1 l (by omega), put_0]
      · rw [q2 k hk, up_ne2 (by omega), hlo k (by omega)]
    · rw [pbd_0 c1] at hr hP hP0
      have c0 := ne2_0 hr (prs_c (o := o) (tc := tc) (tv := tv) f 4 dp (i + 1) p x hp) c1
      refine x_iload_n rfl rfl ?_
      refine x_sipushN (q := 400) rfl ?_
      refine x_icmpN_ge rfl (fun c16 => ?_) (fun c16 => ?_)
      · exact absurd c16 (by first | decide | omega)
      refine x_aload_n rfl rfl ?_
      refine x_callV (M' := mi48) (As := []) (bc1 := 0) (bs1 := 0) (bc2 := 0) (bs2 := 0) rfl rfl rfl rfl ok48 rfl rfl (by decide) rfl rfl rfl rfl rfl rfl ?_
      refine x_token hA1 hS.1 hi ?_
      refine x_sipushN (q := 312) rfl ?_
      refine x_icmpN_ne rfl (fun c26 => ?_) (fun c26 => ?_)
      · exact absurd c26 (by first | decide | omega)
      refine x_aload_n rfl rfl ?_
      refine x_dup rfl rfl ?_
      refine x_getE (y := 5) rfl rfl rfl hS.1 ?_
      refine x_iconstN (q := 1) rfl ?_
      refine x_iaddN rfl ?_
      refine x_putI rfl rfl rfl rfl ?_
      refine x_aload_n rfl rfl ?_
      refine x_getR (u := .ref _) rfl rfl rfl rfl ?_
      refine x_iconstN (q := 4) rfl ?_
      refine x_iconstN (q := 0) rfl ?_
      refine x_callV (M' := mi86) (As := [_, _]) (bc1 := 0) (bs1 := 0) (bc2 := 0) (bs2 := 0) rfl rfl rfl rfl ok86 rfl rfl (by decide) rfl rfl rfl rfl rfl rfl ?_
      refine x_putC hS.tok.2.2.2 (by omega) ?_
      refine x_istore_n (ls' := [_, _, _, _]) rfl rfl rfl ?_
      refine x_aload_n rfl rfl ?_
      refine x_iload_n rfl rfl ?_
      refine x_callV (M' := mi58) (As := [_]) (bc1 := 0) (bs1 := 0) (bc2 := 0) (bs2 := 0) rfl rfl rfl rfl ok58 rfl rfl (by decide) rfl rfl rfl rfl rfl rfl ?_
      refine h2 dp (i + 1) p x _ (d + 5) (l + 2) hd (by omega) hin hp (hF.up (by omega)).put hS.tok.put (by omega) hr _ (fun z => absurd z c1) (fun _ V1 hF1 g1 => ?_)
      refine x_ifN_ne rfl (fun c54 => ?_) (fun c54 => ?_)
      · exact absurd c54 (by first | decide | omega)
      refine x_iconstN (q := 0) rfl ?_
      refine x_zret rfl rfl (by first | exact Or.inl rfl | exact Or.inr rfl) ?_
      exact hP0 c0 V1 hF1 g1
  · have e6 : prs o tc tv (f + 1) 3 dp i p x = (1, i, p, x) := by
      show (if tc i = 6 then pbd (prs o tc tv f 4 dp (i + 1) p x) (fun i' p' y => prs o tc tv f 3 dp i' p' (dAnd x y)) else (1, i, p, x)) = _
      rw [if_neg c]
    rw [e6] at hr ⊢
    intro P hP hP0
    have hend := hP rfl V l hF (fun _ _ => rfl) hS hll hx
    by_cases cq : q < 400
    · refine x_iload_n rfl rfl ?_
      refine x_sipushN (q := 400) rfl ?_
      refine x_icmpN_ge rfl (fun c16 => ?_) (fun c16 => ?_)
      · exact absurd c16 (by first | decide | omega)
      refine x_aload_n rfl rfl ?_
      refine x_callV (M' := mi48) (As := []) (bc1 := 0) (bs1 := 0) (bc2 := 0) (bs2 := 0) rfl rfl rfl rfl ok48 rfl rfl (by decide) rfl rfl rfl rfl rfl rfl ?_
      refine x_token hA1 hS.1 hi ?_
      refine x_sipushN (q := 312) rfl ?_
      refine x_icmpN_ne rfl (fun c26 => ?_) (fun c26 => ?_)
      rotate_left
      · exact absurd c26 (by first | decide | omega)
      refine x_iconstN (q := 1) rfl ?_
      refine x_zret rfl rfl (by first | exact Or.inl rfl | exact Or.inr rfl) ?_
      exact hend
    · refine x_iload_n rfl rfl ?_
      refine x_sipushN (q := 400) rfl ?_
      refine x_icmpN_ge rfl (fun c16 => ?_) (fun c16 => ?_)
      rotate_left
      · exact absurd c16 (by first | decide | omega)
      refine x_iconstN (q := 1) rfl ?_
      refine x_zret rfl rfl (by first | exact Or.inl rfl | exact Or.inr rfl) ?_
      exact hend
set_option maxRecDepth 20000 in
theorem rcn_loop {dp p l : Nat} {D : Nat} (hA : CkA o N ct tc tv pl V0) (hD : 1 ≤ D) : ∀ (m i q : Nat) (V : VIT), nrun tc 7 i m < m → i ≤ N → q ≤ i → FrRC V0 V → CS i p l V → (∀ (V' : VIT) (q' : Nat), FrRC V0 V' → (∀ k, V' 40 k = V 40 k) → CS (i + nrun tc 7 i m) p l V' → i + nrun tc 7 i m ≤ N → Ex D mi58 47 [.ref 37, .int (nI dp), .int (nI ((q + nrun tc 7 i m) % 2)), .int (nI q')] [] (LY ++ ext) V' VL (vr G) 0 0 P) → Ex D mi58 4 [.ref 37, .int (nI dp), .int (nI (q % 2)), .int (nI q)] [] (LY ++ ext) V VL (vr G) 0 0 P := by
  have hN := hA.2.2.2.1
  obtain ⟨d, rfl⟩ : ∃ d, D = d + 1 := ⟨D - 1, by omega⟩
  intro m
  induction m with
  | zero => exact fun i q V h => absurd h (Nat.not_lt_zero _)
  | succ m ih =>
    intro i q V h hi hq hF hS hP
    have hA1 := hA.fr hF
    have hTR := (hA.1 i hi).2.2.1
    have hct := (hA.1 i hi).2.2.2
    have w : ct i = 311 ↔ tc i = 7 := hTR.word (w := 11) (by omega)
    unfold nrun at h hP
    by_cases c : tc i = 7
    · rw [if_pos c] at h hP
      have hin : i < N := Nat.lt_of_not_le (fun z => by have := hA.2.2.2.2.1 i z; omega)
      have hk := ih (i + 1) (q + 1) (up V 37 5 (nI (i + 1))) (by omega) hin (by omega) (hF.up (by omega)) hS.tok (fun V' q' a1 a2 a3 a4 => by
        rw [show i + 1 + nrun tc 7 (i + 1) m = i + (nrun tc 7 (i + 1) m + 1) by omega] at a3 a4
        rw [show q + 1 + nrun tc 7 (i + 1) m = q + (nrun tc 7 (i + 1) m + 1) by omega]
        exact hP V' q' a1 (fun k => (a2 k).trans (up_ne2 (by omega))) a3 a4)
      by_cases cm : q % 2 = 0
      · rw [show (q + 1) % 2 = 1 by omega] at hk
        refine x_iload_n rfl rfl ?_
        refine x_sipushN (q := 400) rfl ?_
        refine x_icmpN_ge rfl (fun c8 => ?_) (fun c8 => ?_)
        · exact absurd c8 (by first | decide | omega)
        refine x_aload_n rfl rfl ?_
        refine x_callV (M' := mi48) (As := []) (bc1 := 0) (bs1 := 0) (bc2 := 0) (bs2 := 0) rfl rfl rfl rfl ok48 rfl rfl (by decide) rfl rfl rfl rfl rfl rfl ?_
        refine x_token hA1 hS.1 hi ?_
        refine x_sipushN (q := 311) rfl ?_
        refine x_icmpN_ne rfl (fun c18 => ?_) (fun c18 => ?_)
        · exact absurd c18 (by first | decide | omega)
        refine x_iload_n rfl rfl ?_
        refine x_ifN_ne rfl (fun c22 => ?_) (fun c22 => ?_)
        · exact absurd c22 (by first | decide | omega)
        refine x_iconstN (q := 1) rfl ?_
        refine x_goto rfl ?_
        refine x_istore_n (ls' := [_, _, _, _]) rfl rfl rfl ?_
        refine x_aload_n rfl rfl ?_
        refine x_dup rfl rfl ?_
        refine x_getE (y := 5) rfl rfl rfl hS.1 ?_
        refine x_iconstN (q := 1) rfl ?_
        refine x_iaddN rfl ?_
        refine x_putI rfl rfl rfl rfl ?_
        refine x_iincN (q := 1) (ls' := [_, _, _, _]) rfl rfl rfl rfl ?_
        refine x_goto rfl ?_
        exact hk
      · rw [show (q + 1) % 2 = 0 by omega] at hk
        refine x_iload_n rfl rfl ?_
        refine x_sipushN (q := 400) rfl ?_
        refine x_icmpN_ge rfl (fun c8 => ?_) (fun c8 => ?_)
        · exact absurd c8 (by first | decide | omega)
        refine x_aload_n rfl rfl ?_
        refine x_callV (M' := mi48) (As := []) (bc1 := 0) (bs1 := 0) (bc2 := 0) (bs2 := 0) rfl rfl rfl rfl ok48 rfl rfl (by decide) rfl rfl rfl rfl rfl rfl ?_
        refine x_token hA1 hS.1 hi ?_
        refine x_sipushN (q := 311) rfl ?_
        refine x_icmpN_ne rfl (fun c18 => ?_) (fun c18 => ?_)
        · exact absurd c18 (by first | decide | omega)
        refine x_iload_n rfl rfl ?_
        refine x_ifN_ne rfl (fun c22 => ?_) (fun c22 => ?_)
        rotate_left
        · exact absurd c22 (by first | decide | omega)
        refine x_iconstN (q := 0) rfl ?_
        refine x_istore_n (ls' := [_, _, _, _]) rfl rfl rfl ?_
        refine x_aload_n rfl rfl ?_
        refine x_dup rfl rfl ?_
        refine x_getE (y := 5) rfl rfl rfl hS.1 ?_
        refine x_iconstN (q := 1) rfl ?_
        refine x_iaddN rfl ?_
        refine x_putI rfl rfl rfl rfl ?_
        refine x_iincN (q := 1) (ls' := [_, _, _, _]) rfl rfl rfl rfl ?_
        refine x_goto rfl ?_
        exact hk
    · rw [if_neg c] at hP
      have hk := hP V q hF (fun _ => rfl) hS hi
      rw [Nat.add_zero] at hk
      by_cases cq : q < 400
      · refine x_iload_n rfl rfl ?_
        refine x_sipushN (q := 400) rfl ?_
        refine x_icmpN_ge rfl (fun c8 => ?_) (fun c8 => ?_)
        · exact absurd c8 (by first | decide | omega)
        refine x_aload_n rfl rfl ?_
        refine x_callV (M' := mi48) (As := []) (bc1 := 0) (bs1 := 0) (bc2 := 0) (bs2 := 0) rfl rfl rfl rfl ok48 rfl rfl (by decide) rfl rfl rfl rfl rfl rfl ?_
        refine x_token hA1 hS.1 hi ?_
        refine x_sipushN (q := 311) rfl ?_
        refine x_icmpN_ne rfl (fun c18 => ?_) (fun c18 => ?_)
        rotate_left
        · exact absurd c18 (by first | decide | omega)
        exact hk
      · refine x_iload_n rfl rfl ?_
        refine x_sipushN (q := 400) rfl ?_
        refine x_icmpN_ge rfl (fun c8 => ?_) (fun c8 => ?_)
        rotate_left
        · exact absurd c8 (by first | decide | omega)
        exact hk
set_option maxRecDepth 20000 in
theorem rc4 (hA : CkA o N ct tc tv pl V0) (h10 : Rc10 V0 VL G ext o N tc tv pl nw wm f) : Rc4 V0 VL G ext o N tc tv pl nw wm (f + 1) := by
  intro dp i p x V D l hd hD hi hp hF hS hl hr
  have hN := hA.2.2.2.1
  have e4 : prs o tc tv (f + 1) 4 dp i p x = pbd (prs o tc tv f 10 dp (i + nrun tc 7 i 401) p x) (fun i' p' y => (1, i', p', if nrun tc 7 i 401 % 2 = 1 then dNot y else y)) := rfl
  obtain ⟨n1, n2⟩ := nrun_ok (c := 7) hA.2.2.2.2.1 (by omega) (by omega) 401 i hi
  rw [e4] at hr ⊢
  have hr2 : (prs o tc tv f 10 dp (i + nrun tc 7 i 401) p x).1 ≠ 2 := fun z => hr (by rw [pbd_0 (by omega)]; exact z)
  obtain ⟨d, rfl⟩ : ∃ d, D = d + 5 := ⟨D - 5, by omega⟩
  intro P hP hP0
  refine x_iconstN (q := 0) rfl ?_
  refine x_istore_n (ls' := [_, _, _, _]) rfl rfl rfl ?_
  refine x_iconstN (q := 0) rfl ?_
  refine x_istore_n (ls' := [_, _, _, _]) rfl rfl rfl ?_
  refine rcn_loop hA (by omega) 401 i 0 V (by omega) hi (Nat.zero_le _) hF hS (fun V1 q1 hF1 hk1 g1 hi1 => ?_)
  rw [Nat.zero_add]
  generalize hn : nrun tc 7 i 401 = n at *
  refine h10 dp (i + n) p x V1 (d + 5) l (n % 2) _ hd hD hi1 hp (by omega) hF1 g1 (by omega) hr2 P (fun c V2 l2 z hF2 hk2 g2 b2 sg2 => ?_) (fun c V2 hF2 g2 => ?_)
  · obtain ⟨o1, o2, o3⟩ := prs_ok (o := o) (tv := tv) hA.2.2.2.2.1 f 10 dp (i + n) p x hi1 c
    rw [show pbd (prs o tc tv f 10 dp (i + n) p x) (fun i' p' y => ((1, i', p', if n % 2 = 1 then dNot y else y) : PRd)) = (1, (prs o tc tv f 10 dp (i + n) p x).2.1, (prs o tc tv f 10 dp (i + n) p x).2.2.1, if n % 2 = 1 then dNot (prs o tc tv f 10 dp (i + n) p x).2.2.2 else (prs o tc tv f 10 dp (i + n) p x).2.2.2) from if_pos c] at hP
    have hk3 : ∀ k, k < l → V2 40 k = V 40 k := fun k hk => (hk2 k hk).trans (hk1 k)
    generalize (prs o tc tv f 10 dp (i + n) p x).2.1 = i' at *
    by_cases cm : n % 2 = 1
    · rw [if_pos cm] at hP
      have hs1 := sg2.1
      refine x_iload_n rfl rfl ?_
      refine x_ifN_eq rfl (fun c167 => ?_) (fun c167 => ?_)
      · exact absurd c167 (by first | decide | omega)
      refine x_aload_n rfl rfl ?_
      refine x_getR (u := .ref _) rfl rfl rfl rfl ?_
      refine x_iconstN (q := 3) rfl ?_
      refine x_iconstN (q := 0) rfl ?_
      refine x_callV (M' := mi86) (As := [_, _]) (bc1 := 0) (bs1 := 0) (bc2 := 0) (bs2 := 0) rfl rfl rfl rfl ok86 rfl rfl (by decide) rfl rfl rfl rfl rfl rfl ?_
      refine x_putC g2.2.2.2 (by omega) ?_
      refine x_pop rfl rfl ?_
      refine x_iconstN (q := 1) rfl ?_
      refine x_zret rfl rfl (by first | exact Or.inl rfl | exact Or.inr rfl) ?_
      exact hP rfl _ (l2 + 2) hF2.put (fun k hk => (put_lt (by omega)).trans (hk3 k hk)) g2.put (by show l2 + 2 + 2 * i ≤ l + 2 * i'; omega) (SegC.not (sg2.put (Nat.le_refl _)) put_0 put_1)
    · rw [if_neg cm] at hP
      refine x_iload_n rfl rfl ?_
      refine x_ifN_eq rfl (fun c167 => ?_) (fun c167 => ?_)
      rotate_left
      · exact absurd c167 (by first | decide | omega)
      refine x_iconstN (q := 1) rfl ?_
      refine x_zret rfl rfl (by first | exact Or.inl rfl | exact Or.inr rfl) ?_
      exact hP rfl V2 l2 hF2 hk3 g2 (by show l2 + 2 * i ≤ l + 2 * i'; omega) sg2
  · rw [pbd_0 (by omega)] at hP0
    exact hP0 c V2 hF2 g2
set_option maxRecDepth 20000 in
theorem rc10 (hA : CkA o N ct tc tv pl V0) (h5 : ∀ g, Rc5 V0 VL G ext o N tc tv pl nw wm g) (h0 : Rc0 V0 VL G ext o N tc tv pl nw wm f) : Rc10 V0 VL G ext o N tc tv pl nw wm (f + 1) := by
  intro dp i p x V D l tu z3 hd hD hi hp htu hF hS hl hr
  have hA1 := hA.fr hF
  have hN := hA.2.2.2.1
  obtain ⟨-, -, hTR, hct⟩ := hA.1 i hi
  have s40 : ct i = 40 ↔ tc i = 140 := hTR.sign (by omega)
  obtain ⟨d, rfl⟩ : ∃ d, D = d + 5 := ⟨D - 5, by omega⟩
  by_cases c : tc i = 140
  · have hin : i < N := Nat.lt_of_not_le (fun z => by have := hA.2.2.2.2.1 i z; omega)
    have e9 : prs o tc tv (f + 1) 10 dp i p x = if 8 ≤ dp then (0, i, p, x) else pbd (prs o tc tv f 0 (dp + 1) (i + 1) p x) (fun i' p' y => if tc i' = 141 then (1, i' + 1, p', y) else (0, i', p', y)) := by
      show (if tc i = 140 then _ else _) = _
      rw [if_pos c]
    rw [e9] at hr ⊢
    intro P hP hP0
    by_cases c8 : 8 ≤ dp
    · rw [if_pos c8] at hP0
      refine x_aload_n rfl rfl ?_
      refine x_callV (M' := mi48) (As := []) (bc1 := 0) (bs1 := 0) (bc2 := 0) (bs2 := 0) rfl rfl rfl rfl ok48 rfl rfl (by decide) rfl rfl rfl rfl rfl rfl ?_
      refine x_token hA1 hS.1 hi ?_
      refine x_bipushN (q := 40) rfl ?_
      refine x_icmpN_ne rfl (fun c53 => ?_) (fun c53 => ?_)
      · exact absurd c53 (by first | decide | omega)
      refine x_iload_n rfl rfl ?_
      refine x_bipushN (q := 8) rfl ?_
      refine x_icmpN_lt rfl (fun c59 => ?_) (fun c59 => ?_)
      · exact absurd c59 (by first | decide | omega)
      refine x_aload_n rfl rfl ?_
      refine x_callV (M' := mi49) (As := []) (bc1 := 0) (bs1 := 0) (bc2 := 0) (bs2 := 0) rfl rfl rfl rfl ok49 rfl rfl (by decide) rfl rfl rfl rfl rfl rfl ?_
      refine x_wrong hA1 hS.1 hi ?_
      refine x_zret rfl rfl (by first | exact Or.inl rfl | exact Or.inr rfl) ?_
      exact hP0 rfl _ (hF.up (by omega)) up_at
    · rw [if_neg c8] at hP hP0 hr
      obtain ⟨d', rfl⟩ : ∃ d', d = d' + 3 := ⟨d - 3, by omega⟩
      by_cases c1 : (prs o tc tv f 0 (dp + 1) (i + 1) p x).1 = 1
      · rw [show pbd (prs o tc tv f 0 (dp + 1) (i + 1) p x) (fun i' p' y => if tc i' = 141 then (1, i' + 1, p', y) else (0, i', p', y)) = (if tc (prs o tc tv f 0 (dp + 1) (i + 1) p x).2.1 = 141 then (1, (prs o tc tv f 0 (dp + 1) (i + 1) p x).2.1 + 1, (prs o tc tv f 0 (dp + 1) (i + 1) p x).2.2.1, (prs o tc tv f 0 (dp + 1) (i + 1) p x).2.2.2) else (0, (prs o tc tv f 0 (dp + 1) (i + 1) p x).2.1, (prs o tc tv f 0 (dp + 1) (i + 1) p x).2.2.1, (prs o tc tv f 0 (dp + 1) (i + 1) p x).2.2.2)) from if_pos c1] at hP hP0
        obtain ⟨o1, o2, o3⟩ := prs_ok (o := o) (tv := tv) hA.2.2.2.2.1 f 0 (dp + 1) (i + 1) p x hin c1
        refine x_aload_n rfl rfl ?_
        refine x_callV (M' := mi48) (As := []) (bc1 := 0) (bs1 := 0) (bc2 := 0) (bs2 := 0) rfl rfl rfl rfl ok48 rfl rfl (by decide) rfl rfl rfl rfl rfl rfl ?_
        refine x_token hA1 hS.1 hi ?_
        refine x_bipushN (q := 40) rfl ?_
        refine x_icmpN_ne rfl (fun c53 => ?_) (fun c53 => ?_)
        · exact absurd c53 (by first | decide | omega)
        refine x_iload_n rfl rfl ?_
        refine x_bipushN (q := 8) rfl ?_
        refine x_icmpN_lt rfl (fun c59 => ?_) (fun c59 => ?_)
        rotate_left
        · exact absurd c59 (by first | decide | omega)
        refine x_aload_n rfl rfl ?_
        refine x_dup rfl rfl ?_
        refine x_getE (y := 5) rfl rfl rfl hS.1 ?_
        refine x_iconstN (q := 1) rfl ?_
        refine x_iaddN rfl ?_
        refine x_putI rfl rfl rfl rfl ?_
        refine x_aload_n rfl rfl ?_
        refine x_iload_n rfl rfl ?_
        refine x_iconstN (q := 1) rfl ?_
        refine x_iaddN rfl ?_
        refine x_callV (M' := mi56) (As := [_]) (bc1 := 0) (bs1 := 0) (bc2 := 0) (bs2 := 0) rfl rfl rfl rfl ok56 rfl rfl (by decide) rfl rfl rfl rfl rfl rfl ?_
        refine h0 (dp + 1) (i + 1) p x _ (d' + 7) l (by omega) (by omega) hin hp (hF.up (by omega)) hS.tok (by omega) (by rw [c1]; omega) _ (fun _ V1 l1 hF1 hk1 g1 b1 sg1 => ?_) (fun z => absurd z (by rw [c1]; omega))
        refine x_ifN_eq rfl (fun c84 => ?_) (fun c84 => ?_)
        · exact absurd c84 (by first | decide | omega)
        skip
        have sg2 : SegC nw (2 * (8 - dp) + 4) wm V1 l l1 (prs o tc tv f 0 (dp + 1) (i + 1) p x).2.2.2 := sg1.mono (by omega)
        have hk2 : ∀ k, k < l → V1 40 k = V 40 k := fun k hk => (hk1 k hk).trans (up_ne2 (by omega))
        have hT2 : ct (prs o tc tv f 0 (dp + 1) (i + 1) p x).2.1 = 41 ↔ tc (prs o tc tv f 0 (dp + 1) (i + 1) p x).2.1 = 141 := (hA.1 _ o2).2.2.1.sign (by omega)
        by_cases c9 : tc (prs o tc tv f 0 (dp + 1) (i + 1) p x).2.1 = 141
        · rw [if_pos c9] at hP
          refine x_aload_n rfl rfl ?_
          refine x_bipushN (q := 41) rfl ?_
          refine x_callV (M' := mi50) (As := [_]) (bc1 := 0) (bs1 := 0) (bc2 := 0) (bs2 := 0) rfl rfl rfl rfl ok50 rfl rfl (by decide) rfl rfl rfl rfl rfl rfl ?_
          refine x_passed1 (hA.fr hF1) g1.1 o2 (hT2.mpr c9) ?_
          refine x_ifN_ne rfl (fun c93 => ?_) (fun c93 => ?_)
          rotate_left
          · exact absurd c93 (by first | decide | omega)
          exact hP rfl _ l1 _ (hF1.up (by omega)) (fun k hk => (up_ne2 (by omega)).trans (hk2 k hk)) g1.tok (by show l1 + 2 * i ≤ l + 2 * (_ + 1); omega) (sg2.same (fun k _ _ => up_ne2 (by omega)))
        · rw [if_neg c9] at hP0
          refine x_aload_n rfl rfl ?_
          refine x_bipushN (q := 41) rfl ?_
          refine x_callV (M' := mi50) (As := [_]) (bc1 := 0) (bs1 := 0) (bc2 := 0) (bs2 := 0) rfl rfl rfl rfl ok50 rfl rfl (by decide) rfl rfl rfl rfl rfl rfl ?_
          refine x_passedN (hA.fr hF1) g1.1 o2 (by omega) (fun z => c9 (hT2.mp z)) ?_
          refine x_ifN_ne rfl (fun c93 => ?_) (fun c93 => ?_)
          · exact absurd c93 (by first | decide | omega)
          refine x_iconstN (q := 0) rfl ?_
          refine x_zret rfl rfl (by first | exact Or.inl rfl | exact Or.inr rfl) ?_
          exact hP0 rfl _ (hF1.up (by omega)) up_at
      · rw [pbd_0 c1] at hr hP hP0
        have c0 := ne2_0 hr (prs_c (o := o) (tc := tc) (tv := tv) f 0 (dp + 1) (i + 1) p x hp) c1
        refine x_aload_n rfl rfl ?_
        refine x_callV (M' := mi48) (As := []) (bc1 := 0) (bs1 := 0) (bc2 := 0) (bs2 := 0) rfl rfl rfl rfl ok48 rfl rfl (by decide) rfl rfl rfl rfl rfl rfl ?_
        refine x_token hA1 hS.1 hi ?_
        refine x_bipushN (q := 40) rfl ?_
        refine x_icmpN_ne rfl (fun c53 => ?_) (fun c53 => ?_)
        · exact absurd c53 (by first | decide | omega)
        refine x_iload_n rfl rfl ?_
        refine x_bipushN (q := 8) rfl ?_
        refine x_icmpN_lt rfl (fun c59 => ?_) (fun c59 => ?_)
        rotate_left
        · exact absurd c59 (by first | decide | omega)
        refine x_aload_n rfl rfl ?_
        refine x_dup rfl rfl ?_
        refine x_getE (y := 5) rfl rfl rfl hS.1 ?_
        refine x_iconstN (q := 1) rfl ?_
        refine x_iaddN rfl ?_
        refine x_putI rfl rfl rfl rfl ?_
        refine x_aload_n rfl rfl ?_
        refine x_iload_n rfl rfl ?_
        refine x_iconstN (q := 1) rfl ?_
        refine x_iaddN rfl ?_
        refine x_callV (M' := mi56) (As := [_]) (bc1 := 0) (bs1 := 0) (bc2 := 0) (bs2 := 0) rfl rfl rfl rfl ok56 rfl rfl (by decide) rfl rfl rfl rfl rfl rfl ?_
        refine h0 (dp + 1) (i + 1) p x _ (d' + 7) l (by omega) (by omega) hin hp (hF.up (by omega)) hS.tok (by omega) hr _ (fun z => absurd z c1) (fun _ V1 hF1 g1 => ?_)
        refine x_ifN_eq rfl (fun c84 => ?_) (fun c84 => ?_)
        rotate_left
        · exact absurd c84 (by first | decide | omega)
        refine x_iconstN (q := 0) rfl ?_
        refine x_zret rfl rfl (by first | exact Or.inl rfl | exact Or.inr rfl) ?_
        exact hP0 c0 V1 hF1 g1
  · have e9 : prs o tc tv (f + 1) 10 dp i p x = pbd (prs o tc tv f 5 dp i p x) (fun i' p' y => if tc i' = 160 ∨ tc i' = 162 ∨ tc i' = 161 then pbd (prs o tc tv f 5 dp (i' + 1) p' x) (fun i2 p2 z => (1, i2, p2, dBin (tc i' - 100) y z)) else (0, i', p', y)) := by
      show (if tc i = 140 then _ else _) = _
      rw [if_neg c]
    rw [e9] at hr ⊢
    intro P hP hP0
    by_cases c1 : (prs o tc tv f 5 dp i p x).1 = 1
    · rw [show pbd (prs o tc tv f 5 dp i p x) (fun i' p' y => if tc i' = 160 ∨ tc i' = 162 ∨ tc i' = 161 then pbd (prs o tc tv f 5 dp (i' + 1) p' x) (fun i2 p2 z => ((1, i2, p2, dBin (tc i' - 100) y z) : PRd)) else (0, i', p', y)) = (if tc (prs o tc tv f 5 dp i p x).2.1 = 160 ∨ tc (prs o tc tv f 5 dp i p x).2.1 = 162 ∨ tc (prs o tc tv f 5 dp i p x).2.1 = 161 then pbd (prs o tc tv f 5 dp ((prs o tc tv f 5 dp i p x).2.1 + 1) (prs o tc tv f 5 dp i p x).2.2.1 x) (fun i2 p2 z => ((1, i2, p2, dBin (tc (prs o tc tv f 5 dp i p x).2.1 - 100) (prs o tc tv f 5 dp i p x).2.2.2 z) : PRd)) else (0, (prs o tc tv f 5 dp i p x).2.1, (prs o tc tv f 5 dp i p x).2.2.1, (prs o tc tv f 5 dp i p x).2.2.2)) from if_pos c1] at hr hP hP0
      obtain ⟨o1, o2, o3⟩ := prs_ok (o := o) (tv := tv) hA.2.2.2.2.1 f 5 dp i p x hi c1
      have op := (prs_c (o := o) (tc := tc) (tv := tv) f 5 dp i p x hp).1 c1
      refine x_aload_n rfl rfl ?_
      refine x_callV (M' := mi48) (As := []) (bc1 := 0) (bs1 := 0) (bc2 := 0) (bs2 := 0) rfl rfl rfl rfl ok48 rfl rfl (by decide) rfl rfl rfl rfl rfl rfl ?_
      refine x_token hA1 hS.1 hi ?_
      refine x_bipushN (q := 40) rfl ?_
      refine x_icmpN_ne rfl (fun c53 => ?_) (fun c53 => ?_)
      rotate_left
      · exact absurd c53 (by first | decide | omega)
      refine x_aload_n rfl rfl ?_
      refine x_iload_n rfl rfl ?_
      refine x_callV (M' := mi59) (As := [_]) (bc1 := 0) (bs1 := 0) (bc2 := 0) (bs2 := 0) rfl rfl rfl rfl ok59 rfl rfl (by decide) rfl rfl rfl rfl rfl rfl ?_
      refine h5 f dp i p x V (d + 4) l hd (by omega) hi hp hF hS hl (by rw [c1]; omega) _ (fun _ V1 l1 hF1 hk1 g1 b1 sg1 => ?_) (fun z => absurd z (by rw [c1]; omega))
      refine x_ifN_ne rfl (fun c103 => ?_) (fun c103 => ?_)
      rotate_left
      · exact absurd c103 (by first | decide | omega)
      skip
      generalize (prs o tc tv f 5 dp i p x).2.1 = i' at *
      generalize (prs o tc tv f 5 dp i p x).2.2.1 = p' at *
      generalize (prs o tc tv f 5 dp i p x).2.2.2 = y' at *
      have hA' := hA.fr hF1
      obtain ⟨-, -, hTR2, hct2⟩ := hA.1 i' o2
      have s60 : ct i' = 60 ↔ tc i' = 160 := hTR2.sign (by omega)
      have s62 : ct i' = 62 ↔ tc i' = 162 := hTR2.sign (by omega)
      have s61 : ct i' = 61 ↔ tc i' = 161 := hTR2.sign (by omega)
      by_cases cc : tc i' = 160 ∨ tc i' = 162 ∨ tc i' = 161
      · rw [if_pos cc] at hr hP hP0
        have hin : i' < N := Nat.lt_of_not_le (fun z => by have := hA.2.2.2.2.1 i' z; omega)
        have hr2 : (prs o tc tv f 5 dp (i' + 1) p' x).1 ≠ 2 := fun z => hr (by rw [pbd_0 (by omega)]; exact z)
        have hgo : Ex (d + 5) mi58 136 [.ref 37, .int (nI dp), .int (nI tu), .int (nI (ct i'))] [] (LY ++ ext) V1 VL (vr G) 0 0 P := by
          by_cases c5 : (prs o tc tv f 5 dp (i' + 1) p' x).1 = 1
          · rw [show pbd (prs o tc tv f 5 dp (i' + 1) p' x) (fun i2 p2 z => ((1, i2, p2, dBin (tc i' - 100) y' z) : PRd)) = (1, (prs o tc tv f 5 dp (i' + 1) p' x).2.1, (prs o tc tv f 5 dp (i' + 1) p' x).2.2.1, dBin (tc i' - 100) y' (prs o tc tv f 5 dp (i' + 1) p' x).2.2.2) from if_pos c5] at hP
            obtain ⟨k1, k2, k3⟩ := prs_ok (o := o) (tv := tv) hA.2.2.2.2.1 f 5 dp (i' + 1) p' x hin c5
            refine x_aload_n rfl rfl ?_
            refine x_dup rfl rfl ?_
            refine x_getE (y := 5) rfl rfl rfl g1.1 ?_
            refine x_iconstN (q := 1) rfl ?_
            refine x_iaddN rfl ?_
            refine x_putI rfl rfl rfl rfl ?_
            refine x_aload_n rfl rfl ?_
            refine x_iload_n rfl rfl ?_
            refine x_callV (M' := mi59) (As := [_]) (bc1 := 0) (bs1 := 0) (bc2 := 0) (bs2 := 0) rfl rfl rfl rfl ok59 rfl rfl (by decide) rfl rfl rfl rfl rfl rfl ?_
            refine h5 f dp (i' + 1) p' x _ (d + 4) l1 hd (by omega) hin op (hF1.up (by omega)) g1.tok (by omega) hr2 _ (fun _ V2 l2 hF2 hk2 g2 b2 sg2 => ?_) (fun z => absurd z (by rw [c5]; omega))
            refine x_ifN_ne rfl (fun c151 => ?_) (fun c151 => ?_)
            rotate_left
            · exact absurd c151 (by first | decide | omega)
            refine x_aload_n rfl rfl ?_
            refine x_getR (u := .ref _) rfl rfl rfl rfl ?_
            refine x_iload_n rfl rfl ?_
            refine x_iconstN (q := 0) rfl ?_
            refine x_callV (M' := mi86) (As := [_, _]) (bc1 := 0) (bs1 := 0) (bc2 := 0) (bs2 := 0) rfl rfl rfl rfl ok86 rfl rfl (by decide) rfl rfl rfl rfl rfl rfl ?_
            refine x_putC g2.2.2.2 (by omega) ?_
            refine x_pop rfl rfl ?_
            skip
            generalize (prs o tc tv f 5 dp (i' + 1) p' x).2.1 = i2 at *
            have hs1 := sg1.1
            have hs2 := sg2.1
            refine hP rfl _ (l2 + 2) _ hF2.put (fun k hk => ?_) g2.put (by show l2 + 2 + 2 * i ≤ l + 2 * i2; omega) ?_
            · rw [put_lt (by omega), hk2 k (by omega), up_ne2 (by omega), hk1 k hk]
            · rw [show tc i' - 100 = ct i' by omega]
              refine SegC.bin ((SegC.mono (sg1.same (fun k a b => ?_)) (by omega)).put (by omega)) (sg2.put (Nat.le_refl _)) (by omega) put_0 put_1 (by omega) (by omega)
              rw [hk2 k b, up_ne2 (by omega)]
          · rw [pbd_0 c5] at hP0
            have c0 := ne2_0 hr2 (prs_c (o := o) (tc := tc) (tv := tv) f 5 dp (i' + 1) p' x op) c5
            refine x_aload_n rfl rfl ?_
            refine x_dup rfl rfl ?_
            refine x_getE (y := 5) rfl rfl rfl g1.1 ?_
            refine x_iconstN (q := 1) rfl ?_
            refine x_iaddN rfl ?_
            refine x_putI rfl rfl rfl rfl ?_
            refine x_aload_n rfl rfl ?_
            refine x_iload_n rfl rfl ?_
            refine x_callV (M' := mi59) (As := [_]) (bc1 := 0) (bs1 := 0) (bc2 := 0) (bs2 := 0) rfl rfl rfl rfl ok59 rfl rfl (by decide) rfl rfl rfl rfl rfl rfl ?_
            refine h5 f dp (i' + 1) p' x _ (d + 4) l1 hd (by omega) hin op (hF1.up (by omega)) g1.tok (by omega) hr2 _ (fun z => absurd z c5) (fun _ V2 hF2 g2 => ?_)
            refine x_ifN_ne rfl (fun c151 => ?_) (fun c151 => ?_)
            · exact absurd c151 (by first | decide | omega)
            refine x_iconstN (q := 0) rfl ?_
            refine x_zret rfl rfl (by first | exact Or.inl rfl | exact Or.inr rfl) ?_
            exact hP0 c0 V2 hF2 g2
        by_cases d1 : tc i' = 160
        · refine x_aload_n rfl rfl ?_
          refine x_callV (M' := mi48) (As := []) (bc1 := 0) (bs1 := 0) (bc2 := 0) (bs2 := 0) rfl rfl rfl rfl ok48 rfl rfl (by decide) rfl rfl rfl rfl rfl rfl ?_
          refine x_token hA' g1.1 o2 ?_
          refine x_istore_n (ls' := [_, _, _, _]) rfl rfl rfl ?_
          refine x_iload_n rfl rfl ?_
          refine x_bipushN (q := 60) rfl ?_
          refine x_icmpN_eq rfl (fun c116 => ?_) (fun c116 => ?_)
          rotate_left
          · exact absurd c116 (by first | decide | omega)
          exact hgo
        · by_cases d2 : tc i' = 162
          · refine x_aload_n rfl rfl ?_
            refine x_callV (M' := mi48) (As := []) (bc1 := 0) (bs1 := 0) (bc2 := 0) (bs2 := 0) rfl rfl rfl rfl ok48 rfl rfl (by decide) rfl rfl rfl rfl rfl rfl ?_
            refine x_token hA' g1.1 o2 ?_
            refine x_istore_n (ls' := [_, _, _, _]) rfl rfl rfl ?_
            refine x_iload_n rfl rfl ?_
            refine x_bipushN (q := 60) rfl ?_
            refine x_icmpN_eq rfl (fun c116 => ?_) (fun c116 => ?_)
            · exact absurd c116 (by first | decide | omega)
            refine x_iload_n rfl rfl ?_
            refine x_bipushN (q := 62) rfl ?_
            refine x_icmpN_eq rfl (fun c122 => ?_) (fun c122 => ?_)
            rotate_left
            · exact absurd c122 (by first | decide | omega)
            exact hgo
          · refine x_aload_n rfl rfl ?_
            refine x_callV (M' := mi48) (As := []) (bc1 := 0) (bs1 := 0) (bc2 := 0) (bs2 := 0) rfl rfl rfl rfl ok48 rfl rfl (by decide) rfl rfl rfl rfl rfl rfl ?_
            refine x_token hA' g1.1 o2 ?_
            refine x_istore_n (ls' := [_, _, _, _]) rfl rfl rfl ?_
            refine x_iload_n rfl rfl ?_
            refine x_bipushN (q := 60) rfl ?_
            refine x_icmpN_eq rfl (fun c116 => ?_) (fun c116 => ?_)
            · exact absurd c116 (by first | decide | omega)
            refine x_iload_n rfl rfl ?_
            refine x_bipushN (q := 62) rfl ?_
            refine x_icmpN_eq rfl (fun c122 => ?_) (fun c122 => ?_)
            · exact absurd c122 (by first | decide | omega)
            refine x_iload_n rfl rfl ?_
            refine x_bipushN (q := 61) rfl ?_
            refine x_icmpN_eq rfl (fun c128 => ?_) (fun c128 => ?_)
            rotate_left
            · exact absurd c128 (by first | decide | omega)
            exact hgo
      · rw [if_neg cc] at hr hP0
        refine x_aload_n rfl rfl ?_
        refine x_callV (M' := mi48) (As := []) (bc1 := 0) (bs1 := 0) (bc2 := 0) (bs2 := 0) rfl rfl rfl rfl ok48 rfl rfl (by decide) rfl rfl rfl rfl rfl rfl ?_
        refine x_token hA' g1.1 o2 ?_
        refine x_istore_n (ls' := [_, _, _, _]) rfl rfl rfl ?_
        refine x_iload_n rfl rfl ?_
        refine x_bipushN (q := 60) rfl ?_
        refine x_icmpN_eq rfl (fun c116 => ?_) (fun c116 => ?_)
        · exact absurd c116 (by first | decide | omega)
        refine x_iload_n rfl rfl ?_
        refine x_bipushN (q := 62) rfl ?_
        refine x_icmpN_eq rfl (fun c122 => ?_) (fun c122 => ?_)
        · exact absurd c122 (by first | decide | omega)
        refine x_iload_n rfl rfl ?_
        refine x_bipushN (q := 61) rfl ?_
        refine x_icmpN_eq rfl (fun c128 => ?_) (fun c128 => ?_)
        · exact absurd c128 (by first | decide | omega)
        refine x_aload_n rfl rfl ?_
        refine x_callV (M' := mi49) (As := []) (bc1 := 0) (bs1 := 0) (bc2 := 0) (bs2 := 0) rfl rfl rfl rfl ok49 rfl rfl (by decide) rfl rfl rfl rfl rfl rfl ?_
        refine x_wrong hA' g1.1 o2 ?_
        refine x_zret rfl rfl (by first | exact Or.inl rfl | exact Or.inr rfl) ?_
        exact hP0 rfl _ (hF1.up (by omega)) up_at
    · rw [pbd_0 c1] at hr hP hP0
      have c0 := ne2_0 hr (prs_c (o := o) (tc := tc) (tv := tv) f 5 dp i p x hp) c1
      refine x_aload_n rfl rfl ?_
      refine x_callV (M' := mi48) (As := []) (bc1 := 0) (bs1 := 0) (bc2 := 0) (bs2 := 0) rfl rfl rfl rfl ok48 rfl rfl (by decide) rfl rfl rfl rfl rfl rfl ?_
      refine x_token hA1 hS.1 hi ?_
      refine x_bipushN (q := 40) rfl ?_
      refine x_icmpN_ne rfl (fun c53 => ?_) (fun c53 => ?_)
      rotate_left
      · exact absurd c53 (by first | decide | omega)
      refine x_aload_n rfl rfl ?_
      refine x_iload_n rfl rfl ?_
      refine x_callV (M' := mi59) (As := [_]) (bc1 := 0) (bs1 := 0) (bc2 := 0) (bs2 := 0) rfl rfl rfl rfl ok59 rfl rfl (by decide) rfl rfl rfl rfl rfl rfl ?_
      refine h5 f dp i p x V (d + 4) l hd (by omega) hi hp hF hS hl hr _ (fun z => absurd z c1) (fun _ V1 hF1 g1 => ?_)
      refine x_ifN_ne rfl (fun c103 => ?_) (fun c103 => ?_)
      · exact absurd c103 (by first | decide | omega)
      refine x_iconstN (q := 0) rfl ?_
      refine x_zret rfl rfl (by first | exact Or.inl rfl | exact Or.inr rfl) ?_
      exact hP0 c0 V1 hF1 g1
set_option maxRecDepth 20000 in
theorem rc_tests (hA : CkA o N ct tc tv pl V0) (hnw : nw = if o = true then 36 else 9) (hwm : wm = if o = true then owm else lwm) : ∀ f, Rc0 V0 VL G ext o N tc tv pl nw wm f ∧ Rc1 V0 VL G ext o N tc tv pl nw wm f ∧ Rc2 V0 VL G ext o N tc tv pl nw wm f ∧ Rc3 V0 VL G ext o N tc tv pl nw wm f ∧ Rc4 V0 VL G ext o N tc tv pl nw wm f ∧ Rc10 V0 VL G ext o N tc tv pl nw wm f
  | 0 => by
    refine ⟨?_, ?_, ?_, ?_, ?_, ?_⟩
    · intro dp i p x V D l a1 a2 a3 a4 a5 a6 a7 hr; exact absurd rfl hr
    · intro dp i p x V D l l0 i0 q z3 a1 a2 a3 a4 a5 a6 a7 a8 a9 b1 b2 hr; exact absurd rfl hr
    · intro dp i p x V D l a1 a2 a3 a4 a5 a6 a7 hr; exact absurd rfl hr
    · intro dp i p x V D l l0 i0 q z3 a1 a2 a3 a4 a5 a6 a7 a8 a9 b1 b2 hr; exact absurd rfl hr
    · intro dp i p x V D l a1 a2 a3 a4 a5 a6 a7 hr; exact absurd rfl hr
    · intro dp i p x V D l tu z3 a1 a2 a3 a4 a5 a6 a7 a8 hr; exact absurd rfl hr
  | f + 1 => by
    obtain ⟨h0, h1, h2, h3, h4, h10⟩ := rc_tests hA hnw hwm f
    exact ⟨rc0 hA h2 h1, rc1 hA h2 h1, rc2 hA h4 h3, rc3 hA h4 h3, rc4 hA h10, rc10 hA (fun g => (rc_sums hA hnw hwm g).1) h0⟩
end ReadE
