/-! ===== the class reads sums ===== -/
def RcP (V0 : VIT) (VL : VLT) (G : VRT) (ext : HL) (pl : Nat → Nat) (nw : Nat) (wm : Nat → Nat) (h i0 l0 : Nat) (D : Nat) (M : MI) (pc : Nat) (ls : List Value) (V : VIT) (r : PRd) : Prop :=
  ∀ P : Post, (r.1 = 1 → ∀ (V' : VIT) (l' : Nat), FrRC V0 V' → (∀ k, k < l0 → V' 40 k = V 40 k) → CS r.2.1 r.2.2.1 l' V' → l' + 2 * i0 ≤ l0 + 2 * r.2.1 → SegC nw h wm V' l0 l' r.2.2.2 → P (some (.int (nI 1))) (LY ++ ext) V' VL (vr G)) → (r.1 = 0 → ∀ V' : VIT, FrRC V0 V' → V' 37 1 = nI (pl r.2.1) → P (some (.int (nI 0))) (LY ++ ext) V' VL (vr G)) → Ex D M pc ls [] (LY ++ ext) V VL (vr G) 0 0 P
section ReadC
variable {d : Nat} {V0 V : VIT} {VL : VLT} {G : VRT} {P : Post} {ext : HL} {o : Bool} {N f nw : Nat} {ct tc tv pl wm : Nat → Nat}
def Rc5 (V0 : VIT) (VL : VLT) (G : VRT) (ext : HL) (o : Bool) (N : Nat) (tc tv pl : Nat → Nat) (nw : Nat) (wm : Nat → Nat) (f : Nat) : Prop := ∀ dp i p x V D l, dp ≤ 8 → 3 * (8 - dp) + 4 ≤ D → i ≤ N → p ≤ 50 → FrRC V0 V → CS i p l V → l ≤ 2 * i → (prs o tc tv f 5 dp i p x).1 ≠ 2 → RcP V0 VL G ext pl nw wm (2 * (8 - dp) + 3) i l D mi59 0 (entL [.ref 37, .int (nI dp)] 4) V (prs o tc tv f 5 dp i p x)
def Rc6 (V0 : VIT) (VL : VLT) (G : VRT) (ext : HL) (o : Bool) (N : Nat) (tc tv pl : Nat → Nat) (nw : Nat) (wm : Nat → Nat) (f : Nat) : Prop := ∀ dp i p x V D l l0 i0 q z3, dp ≤ 8 → 3 * (8 - dp) + 4 ≤ D → i ≤ N → p ≤ 50 → FrRC V0 V → CS i p l V → l0 ≤ 2 * i0 → i0 ≤ i → l + 2 * i0 ≤ l0 + 2 * i → q ≤ i → SegC nw (2 * (8 - dp) + 3) wm V l0 l x → (prs o tc tv f 6 dp i p x).1 ≠ 2 → RcP V0 VL G ext pl nw wm (2 * (8 - dp) + 3) i0 l0 D mi59 12 [.ref 37, .int (nI dp), .int (nI q), z3] V (prs o tc tv f 6 dp i p x)
def Rc7 (V0 : VIT) (VL : VLT) (G : VRT) (ext : HL) (o : Bool) (N : Nat) (tc tv pl : Nat → Nat) (nw : Nat) (wm : Nat → Nat) (f : Nat) : Prop := ∀ dp i p x V D l, dp ≤ 8 → 3 * (8 - dp) + 3 ≤ D → i ≤ N → p ≤ 50 → FrRC V0 V → CS i p l V → l ≤ 2 * i → (prs o tc tv f 7 dp i p x).1 ≠ 2 → RcP V0 VL G ext pl nw wm (2 * (8 - dp) + 2) i l D mi60 0 (entL [.ref 37, .int (nI dp)] 4) V (prs o tc tv f 7 dp i p x)
def Rc8 (V0 : VIT) (VL : VLT) (G : VRT) (ext : HL) (o : Bool) (N : Nat) (tc tv pl : Nat → Nat) (nw : Nat) (wm : Nat → Nat) (f : Nat) : Prop := ∀ dp i p x V D l l0 i0 q z3, dp ≤ 8 → 3 * (8 - dp) + 3 ≤ D → i ≤ N → p ≤ 50 → FrRC V0 V → CS i p l V → l0 ≤ 2 * i0 → i0 ≤ i → l + 2 * i0 ≤ l0 + 2 * i → q ≤ i → SegC nw (2 * (8 - dp) + 2) wm V l0 l x → (prs o tc tv f 8 dp i p x).1 ≠ 2 → RcP V0 VL G ext pl nw wm (2 * (8 - dp) + 2) i0 l0 D mi60 12 [.ref 37, .int (nI dp), .int (nI q), z3] V (prs o tc tv f 8 dp i p x)
def Rc9 (V0 : VIT) (VL : VLT) (G : VRT) (ext : HL) (o : Bool) (N : Nat) (tc tv pl : Nat → Nat) (nw : Nat) (wm : Nat → Nat) (f : Nat) : Prop := ∀ dp i p x V D l, dp ≤ 8 → 3 * (8 - dp) + 2 ≤ D → i ≤ N → p ≤ 50 → FrRC V0 V → CS i p l V → l ≤ 2 * i → (prs o tc tv f 9 dp i p x).1 ≠ 2 → RcP V0 VL G ext pl nw wm (2 * (8 - dp) + 1) i l D mi61 0 (entL [.ref 37, .int (nI dp)] 3) V (prs o tc tv f 9 dp i p x)
set_option maxRecDepth 20000 in
theorem ne2_0 {r : PRd} (hr : r.1 ≠ 2) (hc : OKc r) (c : ¬ r.1 = 1) : r.1 = 0 := by
  have := hc.2
  omega
set_option maxRecDepth 20000 in
theorem rc5 (hA : CkA o N ct tc tv pl V0) (h7 : Rc7 V0 VL G ext o N tc tv pl nw wm f) (h6 : Rc6 V0 VL G ext o N tc tv pl nw wm f) : Rc5 V0 VL G ext o N tc tv pl nw wm (f + 1) := by
  intro dp i p x V D l hd hD hi hp hF hS hl hr
  have e5 : prs o tc tv (f + 1) 5 dp i p x = pbd (prs o tc tv f 7 dp i p x) (fun i' p' y => prs o tc tv f 6 dp i' p' y) := rfl
  rw [e5] at hr ⊢
  obtain ⟨d, rfl⟩ : ∃ d, D = d + 4 := ⟨D - 4, by omega⟩
  intro P hP hP0
  by_cases c : (prs o tc tv f 7 dp i p x).1 = 1
  · rw [show pbd (prs o tc tv f 7 dp i p x) (fun i' p' y => prs o tc tv f 6 dp i' p' y) = prs o tc tv f 6 dp (prs o tc tv f 7 dp i p x).2.1 (prs o tc tv f 7 dp i p x).2.2.1 (prs o tc tv f 7 dp i p x).2.2.2 from if_pos c] at hr hP hP0
    obtain ⟨o1, o2, o3⟩ := prs_ok (o := o) (tv := tv) hA.2.2.2.2.1 f 7 dp i p x hi c
    have op := (prs_c (o := o) (tc := tc) (tv := tv) f 7 dp i p x hp).1 c
    refine x_aload_n rfl rfl ?_
    refine x_iload_n rfl rfl ?_
    refine x_callV (M' := mi60) (As := [_]) (bc1 := 0) (bs1 := 0) (bc2 := 0) (bs2 := 0) rfl rfl rfl rfl ok60 rfl rfl (by decide) rfl rfl rfl rfl rfl rfl ?_
    refine h7 dp i p x V (d + 3) l hd (by omega) hi hp hF hS hl (by rw [c]; omega) _ (fun _ V1 l1 hF1 hk1 g1 b1 sg1 => ?_) (fun z => absurd z (by rw [c]; omega))
    refine x_ifN_ne rfl (fun c5 => ?_) (fun c5 => ?_)
    rotate_left
    · exact absurd c5 (by first | decide | omega)
    refine x_iconstN (q := 0) rfl ?_
    refine x_istore_n (ls' := [_, _, _, _]) rfl rfl rfl ?_
    skip
    exact h6 dp _ _ _ V1 (d + 4) l1 l i 0 _ hd hD o2 op hF1 g1 hl o1 b1 (Nat.zero_le _) (sg1.mono (by omega)) hr P (fun z V2 l2 q1 q2 => hP z V2 l2 q1 (fun k hk => (q2 k hk).trans (hk1 k hk))) hP0
  · rw [pbd_0 c] at hr hP hP0
    have c0 := ne2_0 hr (prs_c (o := o) (tc := tc) (tv := tv) f 7 dp i p x hp) c
    refine x_aload_n rfl rfl ?_
    refine x_iload_n rfl rfl ?_
    refine x_callV (M' := mi60) (As := [_]) (bc1 := 0) (bs1 := 0) (bc2 := 0) (bs2 := 0) rfl rfl rfl rfl ok60 rfl rfl (by decide) rfl rfl rfl rfl rfl rfl ?_
    refine h7 dp i p x V (d + 3) l hd (by omega) hi hp hF hS hl hr _ (fun z => absurd z c) (fun _ V1 hF1 g1 => ?_)
    refine x_ifN_ne rfl (fun c5 => ?_) (fun c5 => ?_)
    · exact absurd c5 (by first | decide | omega)
    refine x_iconstN (q := 0) rfl ?_
    refine x_zret rfl rfl (by first | exact Or.inl rfl | exact Or.inr rfl) ?_
    exact hP0 c0 V1 hF1 g1
set_option maxRecDepth 20000 in
theorem rc7 (hA : CkA o N ct tc tv pl V0) (h7 : Rc9 V0 VL G ext o N tc tv pl nw wm f) (h6 : Rc8 V0 VL G ext o N tc tv pl nw wm f) : Rc7 V0 VL G ext o N tc tv pl nw wm (f + 1) := by
  intro dp i p x V D l hd hD hi hp hF hS hl hr
  have e5 : prs o tc tv (f + 1) 7 dp i p x = pbd (prs o tc tv f 9 dp i p x) (fun i' p' y => prs o tc tv f 8 dp i' p' y) := rfl
  rw [e5] at hr ⊢
  obtain ⟨d, rfl⟩ : ∃ d, D = d + 3 := ⟨D - 3, by omega⟩
  intro P hP hP0
  by_cases c : (prs o tc tv f 9 dp i p x).1 = 1
  · rw [show pbd (prs o tc tv f 9 dp i p x) (fun i' p' y => prs o tc tv f 8 dp i' p' y) = prs o tc tv f 8 dp (prs o tc tv f 9 dp i p x).2.1 (prs o tc tv f 9 dp i p x).2.2.1 (prs o tc tv f 9 dp i p x).2.2.2 from if_pos c] at hr hP hP0
    obtain ⟨o1, o2, o3⟩ := prs_ok (o := o) (tv := tv) hA.2.2.2.2.1 f 9 dp i p x hi c
    have op := (prs_c (o := o) (tc := tc) (tv := tv) f 9 dp i p x hp).1 c
    refine x_aload_n rfl rfl ?_
    refine x_iload_n rfl rfl ?_
    refine x_callV (M' := mi61) (As := [_]) (bc1 := 0) (bs1 := 0) (bc2 := 0) (bs2 := 0) rfl rfl rfl rfl ok61 rfl rfl (by decide) rfl rfl rfl rfl rfl rfl ?_
    refine h7 dp i p x V (d + 2) l hd (by omega) hi hp hF hS hl (by rw [c]; omega) _ (fun _ V1 l1 hF1 hk1 g1 b1 sg1 => ?_) (fun z => absurd z (by rw [c]; omega))
    refine x_ifN_ne rfl (fun c5 => ?_) (fun c5 => ?_)
    rotate_left
    · exact absurd c5 (by first | decide | omega)
    refine x_iconstN (q := 0) rfl ?_
    refine x_istore_n (ls' := [_, _, _, _]) rfl rfl rfl ?_
    skip
    exact h6 dp _ _ _ V1 (d + 3) l1 l i 0 _ hd hD o2 op hF1 g1 hl o1 b1 (Nat.zero_le _) (sg1.mono (by omega)) hr P (fun z V2 l2 q1 q2 => hP z V2 l2 q1 (fun k hk => (q2 k hk).trans (hk1 k hk))) hP0
  · rw [pbd_0 c] at hr hP hP0
    have c0 := ne2_0 hr (prs_c (o := o) (tc := tc) (tv := tv) f 9 dp i p x hp) c
    refine x_aload_n rfl rfl ?_
    refine x_iload_n rfl rfl ?_
    refine x_callV (M' := mi61) (As := [_]) (bc1 := 0) (bs1 := 0) (bc2 := 0) (bs2 := 0) rfl rfl rfl rfl ok61 rfl rfl (by decide) rfl rfl rfl rfl rfl rfl ?_
    refine h7 dp i p x V (d + 2) l hd (by omega) hi hp hF hS hl hr _ (fun z => absurd z c) (fun _ V1 hF1 g1 => ?_)
    refine x_ifN_ne rfl (fun c5 => ?_) (fun c5 => ?_)
    · exact absurd c5 (by first | decide | omega)
    refine x_iconstN (q := 0) rfl ?_
    refine x_zret rfl rfl (by first | exact Or.inl rfl | exact Or.inr rfl) ?_
    exact hP0 c0 V1 hF1 g1
set_option maxRecDepth 20000 in
theorem rc6 (hA : CkA o N ct tc tv pl V0) (h7 : Rc7 V0 VL G ext o N tc tv pl nw wm f) (h6 : Rc6 V0 VL G ext o N tc tv pl nw wm f) : Rc6 V0 VL G ext o N tc tv pl nw wm (f + 1) := by
  intro dp i p x V D l l0 i0 q z3 hd hD hi hp hF hS hl0 hi0 hll hq hx hr
  have hA1 := hA.fr hF
  have hN := hA.2.2.2.1
  have hTR := (hA.1 i hi).2.2.1
  have hct := (hA.1 i hi).2.2.2
  have s43 : ct i = 43 ↔ tc i = 143 := hTR.sign (by omega)
  have s45 : ct i = 45 ↔ tc i = 145 := hTR.sign (by omega)
  obtain ⟨d, rfl⟩ : ∃ d, D = d + 4 := ⟨D - 4, by omega⟩
  by_cases c : tc i = 143 ∨ tc i = 145
  · have hin : i < N := Nat.lt_of_not_le (fun z => by have := hA.2.2.2.2.1 i z; omega)
    have e6 : prs o tc tv (f + 1) 6 dp i p x = pbd (prs o tc tv f 7 dp (i + 1) p x) (fun i' p' y => prs o tc tv f 6 dp i' p' (dBin (tc i - 100) x y)) := by
      show (if tc i = 143 ∨ tc i = 145 then pbd (prs o tc tv f 7 dp (i + 1) p x) (fun i' p' y => prs o tc tv f 6 dp i' p' (dBin (tc i - 100) x y)) else (1, i, p, x)) = _
      rw [if_pos c]
    rw [e6] at hr ⊢
    have hgo : RcP V0 VL G ext pl nw wm (2 * (8 - dp) + 3) i0 l0 (d + 4) mi59 37 [.ref 37, .int (nI dp), .int (nI q), z3] V (pbd (prs o tc tv f 7 dp (i + 1) p x) (fun i' p' y => prs o tc tv f 6 dp i' p' (dBin (tc i - 100) x y))) := by
      intro P hP hP0
      by_cases c1 : (prs o tc tv f 7 dp (i + 1) p x).1 = 1
      · rw [show pbd (prs o tc tv f 7 dp (i + 1) p x) (fun i' p' y => prs o tc tv f 6 dp i' p' (dBin (tc i - 100) x y)) = prs o tc tv f 6 dp (prs o tc tv f 7 dp (i + 1) p x).2.1 (prs o tc tv f 7 dp (i + 1) p x).2.2.1 (dBin (tc i - 100) x (prs o tc tv f 7 dp (i + 1) p x).2.2.2) from if_pos c1] at hr hP hP0
        obtain ⟨o1, o2, o3⟩ := prs_ok (o := o) (tv := tv) hA.2.2.2.2.1 f 7 dp (i + 1) p x hin c1
        have op := (prs_c (o := o) (tc := tc) (tv := tv) f 7 dp (i + 1) p x hp).1 c1
        refine x_aload_n rfl rfl ?_
        refine x_callV (M' := mi48) (As := []) (bc1 := 0) (bs1 := 0) (bc2 := 0) (bs2 := 0) rfl rfl rfl rfl ok48 rfl rfl (by decide) rfl rfl rfl rfl rfl rfl ?_
        refine x_token hA1 hS.1 hi ?_
        refine x_istore_n (ls' := [_, _, _, _]) rfl rfl rfl ?_
        refine x_aload_n rfl rfl ?_
        refine x_dup rfl rfl ?_
        refine x_getE (y := 5) rfl rfl rfl hS.1 ?_
        refine x_iconstN (q := 1) rfl ?_
        refine x_iaddN rfl ?_
        refine x_putI rfl rfl rfl rfl ?_
        refine x_aload_n rfl rfl ?_
        refine x_iload_n rfl rfl ?_
        refine x_callV (M' := mi60) (As := [_]) (bc1 := 0) (bs1 := 0) (bc2 := 0) (bs2 := 0) rfl rfl rfl rfl ok60 rfl rfl (by decide) rfl rfl rfl rfl rfl rfl ?_
        refine h7 dp (i + 1) p x _ (d + 3) l hd (by omega) hin hp (hF.up (by omega)) hS.tok (by omega) (by rw [c1]; omega) _ (fun _ V1 l1 hF1 hk1 g1 b1 sg1 => ?_) (fun z => absurd z (by rw [c1]; omega))
        refine x_ifN_ne rfl (fun c57 => ?_) (fun c57 => ?_)
        rotate_left
        · exact absurd c57 (by first | decide | omega)
        refine x_aload_n rfl rfl ?_
        refine x_getR (u := .ref _) rfl rfl rfl rfl ?_
        refine x_iload_n rfl rfl ?_
        refine x_iconstN (q := 0) rfl ?_
        refine x_callV (M' := mi86) (As := [_, _]) (bc1 := 0) (bs1 := 0) (bc2 := 0) (bs2 := 0) rfl rfl rfl rfl ok86 rfl rfl (by decide) rfl rfl rfl rfl rfl rfl ?_
        refine x_putC g1.2.2.2 (by omega) ?_
        refine x_pop rfl rfl ?_
        refine x_iincN (q := 1) (ls' := [_, _, _, _]) rfl rfl rfl rfl ?_
        refine x_goto rfl ?_
        skip
        have hx1 : SegC nw (2 * (8 - dp) + 3) wm V1 l0 l x := hx.same (fun k a b => by rw [hk1 k b, up_ne2 (by omega)])
        have hs1 := sg1.1
        refine h6 dp _ _ _ _ (d + 4) (l1 + 2) l0 i0 (q + 1) _ hd hD o2 op hF1.put g1.put hl0 (by omega) (by omega) (by omega) ?_ hr P (fun z V2 l2 q1 q2 => hP z V2 l2 q1 (fun k hk => ?_)) hP0
        · rw [show tc i - 100 = ct i by omega]
          exact SegC.bin (hx1.put (by omega)) (sg1.put (Nat.le_refl _)) (by omega) put_0 put_1 (by omega) (by omega)
        · rw [q2 k hk, put_lt (by have := hx.1; omega), hk1 k (by have := hx.1; omega), up_ne2 (by omega)]
      · rw [pbd_0 c1] at hr hP hP0
        have c0 := ne2_0 hr (prs_c (o := o) (tc := tc) (tv := tv) f 7 dp (i + 1) p x hp) c1
        refine x_aload_n rfl rfl ?_
        refine x_callV (M' := mi48) (As := []) (bc1 := 0) (bs1 := 0) (bc2 := 0) (bs2 := 0) rfl rfl rfl rfl ok48 rfl rfl (by decide) rfl rfl rfl rfl rfl rfl ?_
        refine x_token hA1 hS.1 hi ?_
        refine x_istore_n (ls' := [_, _, _, _]) rfl rfl rfl ?_
        refine x_aload_n rfl rfl ?_
        refine x_dup rfl rfl ?_
        refine x_getE (y := 5) rfl rfl rfl hS.1 ?_
        refine x_iconstN (q := 1) rfl ?_
        refine x_iaddN rfl ?_
        refine x_putI rfl rfl rfl rfl ?_
        refine x_aload_n rfl rfl ?_
        refine x_iload_n rfl rfl ?_
        refine x_callV (M' := mi60) (As := [_]) (bc1 := 0) (bs1 := 0) (bc2 := 0) (bs2 := 0) rfl rfl rfl rfl ok60 rfl rfl (by decide) rfl rfl rfl rfl rfl rfl ?_
        refine h7 dp (i + 1) p x _ (d + 3) l hd (by omega) hin hp (hF.up (by omega)) hS.tok (by omega) hr _ (fun z => absurd z c1) (fun _ V1 hF1 g1 => ?_)
        refine x_ifN_ne rfl (fun c57 => ?_) (fun c57 => ?_)
        · exact absurd c57 (by first | decide | omega)
        refine x_iconstN (q := 0) rfl ?_
        refine x_zret rfl rfl (by first | exact Or.inl rfl | exact Or.inr rfl) ?_
        exact hP0 c0 V1 hF1 g1
    intro P hP hP0
    by_cases c3 : tc i = 143
    · refine x_iload_n rfl rfl ?_
      refine x_sipushN (q := 400) rfl ?_
      refine x_icmpN_ge rfl (fun c16 => ?_) (fun c16 => ?_)
      · exact absurd c16 (by first | decide | omega)
      refine x_aload_n rfl rfl ?_
      refine x_callV (M' := mi48) (As := []) (bc1 := 0) (bs1 := 0) (bc2 := 0) (bs2 := 0) rfl rfl rfl rfl ok48 rfl rfl (by decide) rfl rfl rfl rfl rfl rfl ?_
      refine x_token hA1 hS.1 hi ?_
      refine x_bipushN (q := 43) rfl ?_
      refine x_icmpN_eq rfl (fun c25 => ?_) (fun c25 => ?_)
      rotate_left
      · exact absurd c25 (by first | decide | omega)
      exact hgo P hP hP0
    · refine x_iload_n rfl rfl ?_
      refine x_sipushN (q := 400) rfl ?_
      refine x_icmpN_ge rfl (fun c16 => ?_) (fun c16 => ?_)
      · exact absurd c16 (by first | decide | omega)
      refine x_aload_n rfl rfl ?_
      refine x_callV (M' := mi48) (As := []) (bc1 := 0) (bs1 := 0) (bc2 := 0) (bs2 := 0) rfl rfl rfl rfl ok48 rfl rfl (by decide) rfl rfl rfl rfl rfl rfl ?_
      refine x_token hA1 hS.1 hi ?_
      refine x_bipushN (q := 43) rfl ?_
      refine x_icmpN_eq rfl (fun c25 => ?_) (fun c25 => ?_)
      · exact absurd c25 (by first | decide | omega)
      refine x_aload_n rfl rfl ?_
      refine x_callV (M' := mi48) (As := []) (bc1 := 0) (bs1 := 0) (bc2 := 0) (bs2 := 0) rfl rfl rfl rfl ok48 rfl rfl (by decide) rfl rfl rfl rfl rfl rfl ?_
      refine x_token hA1 hS.1 hi ?_
      refine x_bipushN (q := 45) rfl ?_
      refine x_icmpN_ne rfl (fun c34 => ?_) (fun c34 => ?_)
      · exact absurd c34 (by first | decide | omega)
      exact hgo P hP hP0
  · have e6 : prs o tc tv (f + 1) 6 dp i p x = (1, i, p, x) := by
      show (if tc i = 143 ∨ tc i = 145 then pbd (prs o tc tv f 7 dp (i + 1) p x) (fun i' p' y => prs o tc tv f 6 dp i' p' (dBin (tc i - 100) x y)) else (1, i, p, x)) = _
      rw [if_neg c]
    rw [e6] at hr ⊢
    intro P hP hP0
    have hend := hP rfl V l hF (fun _ _ => rfl) hS hll hx
    by_cases cq : q < 400
    · refine x_iload_n rfl rfl ?_
      refine x_sipushN (q := 400) rfl ?_
      refine x_icmpN_ge rfl (fun c16 => ?_) (fun c16 => ?_)
      · exact absurd c16 (by first | decide | omega)
      refine x_aload_n rfl rfl ?_
      refine x_callV (M' := mi48) (As := []) (bc1 := 0) (bs1 := 0) (bc2 := 0) (bs2 := 0) rfl rfl rfl rfl ok48 rfl rfl (by decide) rfl rfl rfl rfl rfl rfl ?_
      refine x_token hA1 hS.1 hi ?_
      refine x_bipushN (q := 43) rfl ?_
      refine x_icmpN_eq rfl (fun c25 => ?_) (fun c25 => ?_)
      · exact absurd c25 (by first | decide | omega)
      refine x_aload_n rfl rfl ?_
      refine x_callV (M' := mi48) (As := []) (bc1 := 0) (bs1 := 0) (bc2 := 0) (bs2 := 0) rfl rfl rfl rfl ok48 rfl rfl (by decide) rfl rfl rfl rfl rfl rfl ?_
      refine x_token hA1 hS.1 hi ?_
      refine x_bipushN (q := 45) rfl ?_
      refine x_icmpN_ne rfl (fun c34 => ?_) (fun c34 => ?_)
      rotate_left
      · exact absurd c34 (by first | decide | omega)
      refine x_iconstN (q := 1) rfl ?_
      refine x_zret rfl rfl (by first | exact Or.inl rfl | exact Or.inr rfl) ?_
      exact hend
    · refine x_iload_n rfl rfl ?_
      refine x_sipushN (q := 400) rfl ?_
      refine x_icmpN_ge rfl (fun c16 => ?_) (fun c16 => ?_)
      rotate_left
      · exact absurd c16 (by first | decide | omega)
      refine x_iconstN (q := 1) rfl ?_
      refine x_zret rfl rfl (by first | exact Or.inl rfl | exact Or.inr rfl) ?_
      exact hend
set_option maxRecDepth 20000 in
theorem rc8 (hA : CkA o N ct tc tv pl V0) (h7 : Rc9 V0 VL G ext o N tc tv pl nw wm f) (h6 : Rc8 V0 VL G ext o N tc tv pl nw wm f) : Rc8 V0 VL G ext o N tc tv pl nw wm (f + 1) := by
  intro dp i p x V D l l0 i0 q z3 hd hD hi hp hF hS hl0 hi0 hll hq hx hr
  have hA1 := hA.fr hF
  have hN := hA.2.2.2.1
  have hTR := (hA.1 i hi).2.2.1
  have hct := (hA.1 i hi).2.2.2
  have s42 : ct i = 42 ↔ tc i = 142 := hTR.sign (by omega)
  have s47 : ct i = 47 ↔ tc i = 147 := hTR.sign (by omega)
  have s37 : ct i = 37 ↔ tc i = 137 := hTR.sign (by omega)
  obtain ⟨d, rfl⟩ : ∃ d, D = d + 3 := ⟨D - 3, by omega⟩
  by_cases c : tc i = 142 ∨ tc i = 147 ∨ tc i = 137
  · have hin : i < N := Nat.lt_of_not_le (fun z => by have := hA.2.2.2.2.1 i z; omega)
    have e6 : prs o tc tv (f + 1) 8 dp i p x = pbd (prs o tc tv f 9 dp (i + 1) p x) (fun i' p' y => prs o tc tv f 8 dp i' p' (dBin (tc i - 100) x y)) := by
      show (if tc i = 142 ∨ tc i = 147 ∨ tc i = 137 then pbd (prs o tc tv f 9 dp (i + 1) p x) (fun i' p' y => prs o tc tv f 8 dp i' p' (dBin (tc i - 100) x y)) else (1, i, p, x)) = _
      rw [if_pos c]
    rw [e6] at hr ⊢
    have hgo : RcP V0 VL G ext pl nw wm (2 * (8 - dp) + 2) i0 l0 (d + 3) mi60 46 [.ref 37, .int (nI dp), .int (nI q), z3] V (pbd (prs o tc tv f 9 dp (i + 1) p x) (fun i' p' y => prs o tc tv f 8 dp i' p' (dBin (tc i - 100) x y))) := by
      intro P hP hP0
      by_cases c1 : (prs o tc tv f 9 dp (i + 1) p x).1 = 1
      · rw [show pbd (prs o tc tv f 9 dp (i + 1) p x) (fun i' p' y => prs o tc tv f 8 dp i' p' (dBin (tc i - 100) x y)) = prs o tc tv f 8 dp (prs o tc tv f 9 dp (i + 1) p x).2.1 (prs o tc tv f 9 dp (i + 1) p x).2.2.1 (dBin (tc i - 100) x (prs o tc tv f 9 dp (i + 1) p x).2.2.2) from if_pos c1] at hr hP hP0
        obtain ⟨o1, o2, o3⟩ := prs_ok (o := o) (tv := tv) hA.2.2.2.2.1 f 9 dp (i + 1) p x hin c1
        have op := (prs_c (o := o) (tc := tc) (tv := tv) f 9 dp (i + 1) p x hp).1 c1
        refine x_aload_n rfl rfl ?_
        refine x_callV (M' := mi48) (As := []) (bc1 := 0) (bs1 := 0) (bc2 := 0) (bs2 := 0) rfl rfl rfl rfl ok48 rfl rfl (by decide) rfl rfl rfl rfl rfl rfl ?_
        refine x_token hA1 hS.1 hi ?_
        refine x_istore_n (ls' := [_, _, _, _]) rfl rfl rfl ?_
        refine x_aload_n rfl rfl ?_
        refine x_dup rfl rfl ?_
        refine x_getE (y := 5) rfl rfl rfl hS.1 ?_
        refine x_iconstN (q := 1) rfl ?_
        refine x_iaddN rfl ?_
        refine x_putI rfl rfl rfl rfl ?_
        refine x_aload_n rfl rfl ?_
        refine x_iload_n rfl rfl ?_
        refine x_callV (M' := mi61) (As := [_]) (bc1 := 0) (bs1 := 0) (bc2 := 0) (bs2 := 0) rfl rfl rfl rfl ok61 rfl rfl (by decide) rfl rfl rfl rfl rfl rfl ?_
        refine h7 dp (i + 1) p x _ (d + 2) l hd (by omega) hin hp (hF.up (by omega)) hS.tok (by omega) (by rw [c1]; omega) _ (fun _ V1 l1 hF1 hk1 g1 b1 sg1 => ?_) (fun z => absurd z (by rw [c1]; omega))
        refine x_ifN_ne rfl (fun c66 => ?_) (fun c66 => ?_)
        rotate_left
        · exact absurd c66 (by first | decide | omega)
        refine x_aload_n rfl rfl ?_
        refine x_getR (u := .ref _) rfl rfl rfl rfl ?_
        refine x_iload_n rfl rfl ?_
        refine x_iconstN (q := 0) rfl ?_
        refine x_callV (M' := mi86) (As := [_, _]) (bc1 := 0) (bs1 := 0) (bc2 := 0) (bs2 := 0) rfl rfl rfl rfl ok86 rfl rfl (by decide) rfl rfl rfl rfl rfl rfl ?_
        refine x_putC g1.2.2.2 (by omega) ?_
        refine x_pop rfl rfl ?_
        refine x_iincN (q := 1) (ls' := [_, _, _, _]) rfl rfl rfl rfl ?_
        refine x_goto rfl ?_
        skip
        have hx1 : SegC nw (2 * (8 - dp) + 2) wm V1 l0 l x := hx.same (fun k a b => by rw [hk1 k b, up_ne2 (by omega)])
        have hs1 := sg1.1
        refine h6 dp _ _ _ _ (d + 3) (l1 + 2) l0 i0 (q + 1) _ hd hD o2 op hF1.put g1.put hl0 (by omega) (by omega) (by omega) ?_ hr P (fun z V2 l2 q1 q2 => hP z V2 l2 q1 (fun k hk => ?_)) hP0
        · rw [show tc i - 100 = ct i by omega]
          exact SegC.bin (hx1.put (by omega)) (sg1.put (Nat.le_refl _)) (by omega) put_0 put_1 (by omega) (by omega)
        · rw [q2 k hk, put_lt (by have := hx.1; omega), hk1 k (by have := hx.1; omega), up_ne2 (by omega)]
      · rw [pbd_0 c1] at hr hP hP0
        have c0 := ne2_0 hr (prs_c (o := o) (tc := tc) (tv := tv) f 9 dp (i + 1) p x hp) c1
        refine x_aload_n rfl rfl ?_
        refine x_callV (M' := mi48) (As := []) (bc1 := 0) (bs1 := 0) (bc2 := 0) (bs2 := 0) rfl rfl rfl rfl ok48 rfl rfl (by decide) rfl rfl rfl rfl rfl rfl ?_
        refine x_token hA1 hS.1 hi ?_
        refine x_istore_n (ls' := [_, _, _, _]) rfl rfl rfl ?_
        refine x_aload_n rfl rfl ?_
        refine x_dup rfl rfl ?_
        refine x_getE (y := 5) rfl rfl rfl hS.1 ?_
        refine x_iconstN (q := 1) rfl ?_
        refine x_iaddN rfl ?_
        refine x_putI rfl rfl rfl rfl ?_
        refine x_aload_n rfl rfl ?_
        refine x_iload_n rfl rfl ?_
        refine x_callV (M' := mi61) (As := [_]) (bc1 := 0) (bs1 := 0) (bc2 := 0) (bs2 := 0) rfl rfl rfl rfl ok61 rfl rfl (by decide) rfl rfl rfl rfl rfl rfl ?_
        refine h7 dp (i + 1) p x _ (d + 2) l hd (by omega) hin hp (hF.up (by omega)) hS.tok (by omega) hr _ (fun z => absurd z c1) (fun _ V1 hF1 g1 => ?_)
        refine x_ifN_ne rfl (fun c66 => ?_) (fun c66 => ?_)
        · exact absurd c66 (by first | decide | omega)
        refine x_iconstN (q := 0) rfl ?_
        refine x_zret rfl rfl (by first | exact Or.inl rfl | exact Or.inr rfl) ?_
        exact hP0 c0 V1 hF1 g1
    intro P hP hP0
    by_cases c3 : tc i = 142
    · refine x_iload_n rfl rfl ?_
      refine x_sipushN (q := 400) rfl ?_
      refine x_icmpN_ge rfl (fun c16 => ?_) (fun c16 => ?_)
      · exact absurd c16 (by first | decide | omega)
      refine x_aload_n rfl rfl ?_
      refine x_callV (M' := mi48) (As := []) (bc1 := 0) (bs1 := 0) (bc2 := 0) (bs2 := 0) rfl rfl rfl rfl ok48 rfl rfl (by decide) rfl rfl rfl rfl rfl rfl ?_
      refine x_token hA1 hS.1 hi ?_
      refine x_bipushN (q := 42) rfl ?_
      refine x_icmpN_eq rfl (fun c25 => ?_) (fun c25 => ?_)
      rotate_left
      · exact absurd c25 (by first | decide | omega)
      exact hgo P hP hP0
    · by_cases c4 : tc i = 147
      · refine x_iload_n rfl rfl ?_
        refine x_sipushN (q := 400) rfl ?_
        refine x_icmpN_ge rfl (fun c16 => ?_) (fun c16 => ?_)
        · exact absurd c16 (by first | decide | omega)
        refine x_aload_n rfl rfl ?_
        refine x_callV (M' := mi48) (As := []) (bc1 := 0) (bs1 := 0) (bc2 := 0) (bs2 := 0) rfl rfl rfl rfl ok48 rfl rfl (by decide) rfl rfl rfl rfl rfl rfl ?_
        refine x_token hA1 hS.1 hi ?_
        refine x_bipushN (q := 42) rfl ?_
        refine x_icmpN_eq rfl (fun c25 => ?_) (fun c25 => ?_)
        · exact absurd c25 (by first | decide | omega)
        refine x_aload_n rfl rfl ?_
        refine x_callV (M' := mi48) (As := []) (bc1 := 0) (bs1 := 0) (bc2 := 0) (bs2 := 0) rfl rfl rfl rfl ok48 rfl rfl (by decide) rfl rfl rfl rfl rfl rfl ?_
        refine x_token hA1 hS.1 hi ?_
        refine x_bipushN (q := 47) rfl ?_
        refine x_icmpN_eq rfl (fun c34 => ?_) (fun c34 => ?_)
        rotate_left
        · exact absurd c34 (by first | decide | omega)
        exact hgo P hP hP0
      · refine x_iload_n rfl rfl ?_
        refine x_sipushN (q := 400) rfl ?_
        refine x_icmpN_ge rfl (fun c16 => ?_) (fun c16 => ?_)
        · exact absurd c16 (by first | decide | omega)
        refine x_aload_n rfl rfl ?_
        refine x_callV (M' := mi48) (As := []) (bc1 := 0) (bs1 := 0) (bc2 := 0) (bs2 := 0) rfl rfl rfl rfl ok48 rfl rfl (by decide) rfl rfl rfl rfl rfl rfl ?_
        refine x_token hA1 hS.1 hi ?_
        refine x_bipushN (q := 42) rfl ?_
        refine x_icmpN_eq rfl (fun c25 => ?_) (fun c25 => ?_)
        · exact absurd c25 (by first | decide | omega)
        refine x_aload_n rfl rfl ?_
        refine x_callV (M' := mi48) (As := []) (bc1 := 0) (bs1 := 0) (bc2 := 0) (bs2 := 0) rfl rfl rfl rfl ok48 rfl rfl (by decide) rfl rfl rfl rfl rfl rfl ?_
        refine x_token hA1 hS.1 hi ?_
        refine x_bipushN (q := 47) rfl ?_
        refine x_icmpN_eq rfl (fun c34 => ?_) (fun c34 => ?_)
        · exact absurd c34 (by first | decide | omega)
        refine x_aload_n rfl rfl ?_
        refine x_callV (M' := mi48) (As := []) (bc1 := 0) (bs1 := 0) (bc2 := 0) (bs2 := 0) rfl rfl rfl rfl ok48 rfl rfl (by decide) rfl rfl rfl rfl rfl rfl ?_
        refine x_token hA1 hS.1 hi ?_
        refine x_bipushN (q := 37) rfl ?_
        refine x_icmpN_ne rfl (fun c43 => ?_) (fun c43 => ?_)
        · exact absurd c43 (by first | decide | omega)
        exact hgo P hP hP0
  · have e6 : prs o tc tv (f + 1) 8 dp i p x = (1, i, p, x) := by
      show (if tc i = 142 ∨ tc i = 147 ∨ tc i = 137 then pbd (prs o tc tv f 9 dp (i + 1) p x) (fun i' p' y => prs o tc tv f 8 dp i' p' (dBin (tc i - 100) x y)) else (1, i, p, x)) = _
      rw [if_neg c]
    rw [e6] at hr ⊢
    intro P hP hP0
    have hend := hP rfl V l hF (fun _ _ => rfl) hS hll hx
    by_cases cq : q < 400
    · refine x_iload_n rfl rfl ?_
      refine x_sipushN (q := 400) rfl ?_
      refine x_icmpN_ge rfl (fun c16 => ?_) (fun c16 => ?_)
      · exact absurd c16 (by first | decide | omega)
      refine x_aload_n rfl rfl ?_
      refine x_callV (M' := mi48) (As := []) (bc1 := 0) (bs1 := 0) (bc2 := 0) (bs2 := 0) rfl rfl rfl rfl ok48 rfl rfl (by decide) rfl rfl rfl rfl rfl rfl ?_
      refine x_token hA1 hS.1 hi ?_
      refine x_bipushN (q := 42) rfl ?_
      refine x_icmpN_eq rfl (fun c25 => ?_) (fun c25 => ?_)
      · exact absurd c25 (by first | decide | omega)
      refine x_aload_n rfl rfl ?_
      refine x_callV (M' := mi48) (As := []) (bc1 := 0) (bs1 := 0) (bc2 := 0) (bs2 := 0) rfl rfl rfl rfl ok48 rfl rfl (by decide) rfl rfl rfl rfl rfl rfl ?_
      refine x_token hA1 hS.1 hi ?_
      refine x_bipushN (q := 47) rfl ?_
      refine x_icmpN_eq rfl (fun c34 => ?_) (fun c34 => ?_)
      · exact absurd c34 (by first | decide | omega)
      refine x_aload_n rfl rfl ?_
      refine x_callV (M' := mi48) (As := []) (bc1 := 0) (bs1 := 0) (bc2 := 0) (bs2 := 0) rfl rfl rfl rfl ok48 rfl rfl (by decide) rfl rfl rfl rfl rfl rfl ?_
      refine x_token hA1 hS.1 hi ?_
      refine x_bipushN (q := 37) rfl ?_
      refine x_icmpN_ne rfl (fun c43 => ?_) (fun c43 => ?_)
      rotate_left
      · exact absurd c43 (by first | decide | omega)
      refine x_iconstN (q := 1) rfl ?_
      refine x_zret rfl rfl (by first | exact Or.inl rfl | exact Or.inr rfl) ?_
      exact hend
    · refine x_iload_n rfl rfl ?_
      refine x_sipushN (q := 400) rfl ?_
      refine x_icmpN_ge rfl (fun c16 => ?_) (fun c16 => ?_)
      rotate_left
      · exact absurd c16 (by first | decide | omega)
      refine x_iconstN (q := 1) rfl ?_
      refine x_zret rfl rfl (by first | exact Or.inl rfl | exact Or.inr rfl) ?_
      exact hend
end ReadC
