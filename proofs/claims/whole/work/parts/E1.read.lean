/-! ===== the model reads: its tools ===== -/
def TkA (o : Bool) (N : Nat) (tc tv pl : Nat → Nat) (V : VIT) : Prop := (∀ i, i ≤ N → V 83 i = nI (tc i) ∧ V 84 i = nI (tv i) ∧ V 85 i = nI (pl i)) ∧ V 74 8 = nI (if o = true then 15 else 8) ∧ V 74 9 = nI (if o = true then 20 else 16) ∧ V 74 10 = nI (if o = true then 1 else 0) ∧ N ≤ 400 ∧ (∀ i, N ≤ i → tc i = 0) ∧ ∀ i, tc i < 1000 ∧ tv i < 100000000 ∧ pl i ≤ 400
def FrRM (V0 V : VIT) : Prop := ∀ a k, ¬ (a = 74 ∧ (k = 19 ∨ k = 20 ∨ k = 21)) → V a k = V0 a k
set_option maxRecDepth 20000 in
theorem FrRM.refl {V : VIT} : FrRM V V := fun _ _ _ => rfl
set_option maxRecDepth 20000 in
theorem FrRM.up {V0 V : VIT} {k : Nat} {x : Int32} (h : FrRM V0 V) (hk : k = 19 ∨ k = 20 ∨ k = 21) : FrRM V0 (up V 74 k x) := fun a j q => by rw [up_ne2 (by omega)]; exact h a j q
set_option maxRecDepth 20000 in
theorem TkA.fr {o : Bool} {N : Nat} {tc tv pl : Nat → Nat} {V V' : VIT} (h : TkA o N tc tv pl V) (hF : FrRM V V') : TkA o N tc tv pl V' := by
  obtain ⟨h1, h2, h3, h4, h5⟩ := h
  refine ⟨fun i hi => ?_, by rw [hF 74 8 (by omega)]; exact h2, by rw [hF 74 9 (by omega)]; exact h3, by rw [hF 74 10 (by omega)]; exact h4, h5⟩
  rw [hF 83 i (by omega), hF 84 i (by omega), hF 85 i (by omega)]
  exact h1 i hi
def MS (i p : Nat) (V : VIT) : Prop := V 74 19 = nI i ∧ V 74 20 = nI p ∧ V 74 21 = -1
section Read1
variable {d : Nat} {V0 V : VIT} {VL : VLT} {G : VRT} {P : Post} {ext : HL} {o : Bool} {N i p b c : Nat} {tc tv pl : Nat → Nat}
set_option maxRecDepth 20000 in
theorem m_fine1 (h : V 74 21 = -1) (hP : P (some (.int (nI 1))) (LY ++ ext) V VL (vr G)) : Ex d mi194 0 (entL [.ref 74] 1) [] (LY ++ ext) V VL (vr G) 0 0 P := by
  refine x_aload_n rfl rfl ?_
  refine x_getE (y := 21) rfl rfl rfl h ?_
  refine x_iconst rfl ?_
  refine x_icmp_ne rfl (fun c5 => ?_) (fun c5 => ?_)
  · exact absurd rfl c5
  refine x_iconstN (q := 1) rfl ?_
  refine x_goto rfl ?_
  refine x_zret rfl rfl (by first | exact Or.inl rfl | exact Or.inr rfl) ?_
  exact hP
set_option maxRecDepth 20000 in
theorem m_fine0 (h : V 74 21 = nI b) (hb : b ≤ 400) (hP : P (some (.int (nI 0))) (LY ++ ext) V VL (vr G)) : Ex d mi194 0 (entL [.ref 74] 1) [] (LY ++ ext) V VL (vr G) 0 0 P := by
  refine x_aload_n rfl rfl ?_
  refine x_getE (y := 21) rfl rfl rfl h ?_
  refine x_iconst rfl ?_
  refine x_icmp_ne rfl (fun c5 => ?_) (fun c5 => ?_)
  rotate_left
  · exact absurd c5 (nI_m1 (by omega))
  refine x_iconstN (q := 0) rfl ?_
  refine x_zret rfl rfl (by first | exact Or.inl rfl | exact Or.inr rfl) ?_
  exact hP
set_option maxRecDepth 20000 in
theorem m_faults1 (hA : TkA o N tc tv pl V) (hS : MS i p V) (hi : i ≤ N) (hP : P none (LY ++ ext) (up V 74 21 (nI (pl i))) VL (vr G)) : Ex (d + 1) mi195 0 (entL [.ref 74] 1) [] (LY ++ ext) V VL (vr G) 0 0 P := by
  have hN := hA.2.2.2.2.1
  refine x_aload_n rfl rfl ?_
  refine x_callV (M' := mi194) (As := []) (bc1 := 0) (bs1 := 0) (bc2 := 0) (bs2 := 0) rfl rfl rfl rfl ok194 rfl rfl (by decide) rfl rfl rfl rfl rfl rfl ?_
  refine m_fine1 hS.2.2 ?_
  refine x_ifN_eq rfl (fun c4 => ?_) (fun c4 => ?_)
  · exact absurd c4 (by first | decide | omega)
  refine x_aload_n rfl rfl ?_
  refine x_aload_n rfl rfl ?_
  refine x_getR (u := .ref _) rfl rfl rfl rfl ?_
  refine x_aload_n rfl rfl ?_
  refine x_getE (y := 19) rfl rfl rfl hS.1 ?_
  refine x_ialE (j := i) rfl rfl (rfl) (by omega) ((hA.1 i hi).2.2) ?_
  refine x_putI rfl rfl rfl rfl ?_
  refine x_vret rfl rfl ?_
  exact hP
set_option maxRecDepth 20000 in
theorem m_faults0 (h : V 74 21 = nI b) (hb : b ≤ 400) (hP : P none (LY ++ ext) V VL (vr G)) : Ex (d + 1) mi195 0 (entL [.ref 74] 1) [] (LY ++ ext) V VL (vr G) 0 0 P := by
  refine x_aload_n rfl rfl ?_
  refine x_callV (M' := mi194) (As := []) (bc1 := 0) (bs1 := 0) (bc2 := 0) (bs2 := 0) rfl rfl rfl rfl ok194 rfl rfl (by decide) rfl rfl rfl rfl rfl rfl ?_
  refine m_fine0 h hb ?_
  refine x_ifN_eq rfl (fun c4 => ?_) (fun c4 => ?_)
  rotate_left
  · exact absurd c4 (by first | decide | omega)
  refine x_vret rfl rfl ?_
  exact hP
set_option maxRecDepth 20000 in
theorem m_takes1 (hA : TkA o N tc tv pl V) (hS : MS i p V) (hi : i ≤ N) (h : tc i = c) (hP : P (some (.int (nI 1))) (LY ++ ext) (up V 74 19 (nI (i + 1))) VL (vr G)) : Ex (d + 1) mi196 0 (entL [.ref 74, .int (nI c)] 3) [] (LY ++ ext) V VL (vr G) 0 0 P := by
  have hN := hA.2.2.2.2.1
  have hc := (hA.2.2.2.2.2.2 i).1
  refine x_aload_n rfl rfl ?_
  refine x_callV (M' := mi194) (As := []) (bc1 := 0) (bs1 := 0) (bc2 := 0) (bs2 := 0) rfl rfl rfl rfl ok194 rfl rfl (by decide) rfl rfl rfl rfl rfl rfl ?_
  refine m_fine1 hS.2.2 ?_
  refine x_ifN_eq rfl (fun c4 => ?_) (fun c4 => ?_)
  · exact absurd c4 (by first | decide | omega)
  refine x_aload_n rfl rfl ?_
  refine x_getR (u := .ref _) rfl rfl rfl rfl ?_
  refine x_aload_n rfl rfl ?_
  refine x_getE (y := 19) rfl rfl rfl hS.1 ?_
  refine x_ialE (j := i) rfl rfl (rfl) (by omega) ((hA.1 i hi).1) ?_
  refine x_iload_n rfl rfl ?_
  refine x_icmpN_ne rfl (fun c17 => ?_) (fun c17 => ?_)
  · exact absurd c17 (by first | decide | omega)
  refine x_iconstN (q := 1) rfl ?_
  refine x_goto rfl ?_
  refine x_istore_n (ls' := [_, _, _]) rfl rfl rfl ?_
  refine x_iload_n rfl rfl ?_
  refine x_ifN_eq rfl (fun c27 => ?_) (fun c27 => ?_)
  · exact absurd c27 (by first | decide | omega)
  refine x_aload_n rfl rfl ?_
  refine x_dup rfl rfl ?_
  refine x_getE (y := 19) rfl rfl rfl hS.1 ?_
  refine x_iconstN (q := 1) rfl ?_
  refine x_iaddN rfl ?_
  refine x_putI rfl rfl rfl rfl ?_
  refine x_iload_n rfl rfl ?_
  refine x_zret rfl rfl (by first | exact Or.inl rfl | exact Or.inr rfl) ?_
  exact hP
set_option maxRecDepth 20000 in
theorem m_takesN (hA : TkA o N tc tv pl V) (hS : MS i p V) (hi : i ≤ N) (hc9 : c < 1000) (h : tc i ≠ c) (hP : P (some (.int (nI 0))) (LY ++ ext) V VL (vr G)) : Ex (d + 1) mi196 0 (entL [.ref 74, .int (nI c)] 3) [] (LY ++ ext) V VL (vr G) 0 0 P := by
  have hN := hA.2.2.2.2.1
  have hc := (hA.2.2.2.2.2.2 i).1
  refine x_aload_n rfl rfl ?_
  refine x_callV (M' := mi194) (As := []) (bc1 := 0) (bs1 := 0) (bc2 := 0) (bs2 := 0) rfl rfl rfl rfl ok194 rfl rfl (by decide) rfl rfl rfl rfl rfl rfl ?_
  refine m_fine1 hS.2.2 ?_
  refine x_ifN_eq rfl (fun c4 => ?_) (fun c4 => ?_)
  · exact absurd c4 (by first | decide | omega)
  refine x_aload_n rfl rfl ?_
  refine x_getR (u := .ref _) rfl rfl rfl rfl ?_
  refine x_aload_n rfl rfl ?_
  refine x_getE (y := 19) rfl rfl rfl hS.1 ?_
  refine x_ialE (j := i) rfl rfl (rfl) (by omega) ((hA.1 i hi).1) ?_
  refine x_iload_n rfl rfl ?_
  refine x_icmpN_ne rfl (fun c17 => ?_) (fun c17 => ?_)
  rotate_left
  · exact absurd c17 (by first | decide | omega)
  refine x_iconstN (q := 0) rfl ?_
  refine x_istore_n (ls' := [_, _, _]) rfl rfl rfl ?_
  refine x_iload_n rfl rfl ?_
  refine x_ifN_eq rfl (fun c27 => ?_) (fun c27 => ?_)
  rotate_left
  · exact absurd c27 (by first | decide | omega)
  refine x_iload_n rfl rfl ?_
  refine x_zret rfl rfl (by first | exact Or.inl rfl | exact Or.inr rfl) ?_
  exact hP
set_option maxRecDepth 20000 in
theorem m_takesB {cv : Int32} (h : V 74 21 = nI b) (hb : b ≤ 400) (hP : P (some (.int (nI 0))) (LY ++ ext) V VL (vr G)) : Ex (d + 1) mi196 0 (entL [.ref 74, .int cv] 3) [] (LY ++ ext) V VL (vr G) 0 0 P := by
  refine x_aload_n rfl rfl ?_
  refine x_callV (M' := mi194) (As := []) (bc1 := 0) (bs1 := 0) (bc2 := 0) (bs2 := 0) rfl rfl rfl rfl ok194 rfl rfl (by decide) rfl rfl rfl rfl rfl rfl ?_
  refine m_fine0 h hb ?_
  refine x_ifN_eq rfl (fun c4 => ?_) (fun c4 => ?_)
  rotate_left
  · exact absurd c4 (by first | decide | omega)
  refine x_iconstN (q := 0) rfl ?_
  refine x_istore_n (ls' := [_, _, _]) rfl rfl rfl ?_
  refine x_iload_n rfl rfl ?_
  refine x_ifN_eq rfl (fun c27 => ?_) (fun c27 => ?_)
  rotate_left
  · exact absurd c27 (by first | decide | omega)
  refine x_iload_n rfl rfl ?_
  refine x_zret rfl rfl (by first | exact Or.inl rfl | exact Or.inr rfl) ?_
  exact hP
set_option maxRecDepth 20000 in
theorem m_must1 (hA : TkA o N tc tv pl V) (hS : MS i p V) (hi : i ≤ N) (h : tc i = c) (hP : P none (LY ++ ext) (up V 74 19 (nI (i + 1))) VL (vr G)) : Ex (d + 2) mi197 0 (entL [.ref 74, .int (nI c)] 2) [] (LY ++ ext) V VL (vr G) 0 0 P := by
  refine x_aload_n rfl rfl ?_
  refine x_iload_n rfl rfl ?_
  refine x_callV (M' := mi196) (As := [_]) (bc1 := 0) (bs1 := 0) (bc2 := 0) (bs2 := 0) rfl rfl rfl rfl ok196 rfl rfl (by decide) rfl rfl rfl rfl rfl rfl ?_
  refine m_takes1 hA hS hi h ?_
  refine x_ifN_ne rfl (fun c5 => ?_) (fun c5 => ?_)
  rotate_left
  · exact absurd c5 (by first | decide | omega)
  refine x_vret rfl rfl ?_
  exact hP
set_option maxRecDepth 20000 in
theorem m_mustN (hA : TkA o N tc tv pl V) (hS : MS i p V) (hi : i ≤ N) (hc9 : c < 1000) (h : tc i ≠ c) (hP : P none (LY ++ ext) (up V 74 21 (nI (pl i))) VL (vr G)) : Ex (d + 2) mi197 0 (entL [.ref 74, .int (nI c)] 2) [] (LY ++ ext) V VL (vr G) 0 0 P := by
  refine x_aload_n rfl rfl ?_
  refine x_iload_n rfl rfl ?_
  refine x_callV (M' := mi196) (As := [_]) (bc1 := 0) (bs1 := 0) (bc2 := 0) (bs2 := 0) rfl rfl rfl rfl ok196 rfl rfl (by decide) rfl rfl rfl rfl rfl rfl ?_
  refine m_takesN hA hS hi hc9 h ?_
  refine x_ifN_ne rfl (fun c5 => ?_) (fun c5 => ?_)
  · exact absurd c5 (by first | decide | omega)
  refine x_aload_n rfl rfl ?_
  refine x_callV (M' := mi195) (As := []) (bc1 := 0) (bs1 := 0) (bc2 := 0) (bs2 := 0) rfl rfl rfl rfl ok195 rfl rfl (by decide) rfl rfl rfl rfl rfl rfl ?_
  refine m_faults1 hA hS hi ?_
  refine x_vret rfl rfl ?_
  exact hP
set_option maxRecDepth 20000 in
theorem m_mustB {cv : Int32} (h : V 74 21 = nI b) (hb : b ≤ 400) (hP : P none (LY ++ ext) V VL (vr G)) : Ex (d + 2) mi197 0 (entL [.ref 74, .int cv] 2) [] (LY ++ ext) V VL (vr G) 0 0 P := by
  refine x_aload_n rfl rfl ?_
  refine x_iload_n rfl rfl ?_
  refine x_callV (M' := mi196) (As := [_]) (bc1 := 0) (bs1 := 0) (bc2 := 0) (bs2 := 0) rfl rfl rfl rfl ok196 rfl rfl (by decide) rfl rfl rfl rfl rfl rfl ?_
  refine m_takesB h hb ?_
  refine x_ifN_ne rfl (fun c5 => ?_) (fun c5 => ?_)
  · exact absurd c5 (by first | decide | omega)
  refine x_aload_n rfl rfl ?_
  refine x_callV (M' := mi195) (As := []) (bc1 := 0) (bs1 := 0) (bc2 := 0) (bs2 := 0) rfl rfl rfl rfl ok195 rfl rfl (by decide) rfl rfl rfl rfl rfl rfl ?_
  refine m_faults0 h hb ?_
  refine x_vret rfl rfl ?_
  exact hP
set_option maxRecDepth 20000 in
theorem m_leaf1 (hS : MS i p V) (hp : p < 50) (hi : i ≤ 400) (hP : P none (LY ++ ext) (up (up V 74 20 (nI (p + 1))) 74 19 (nI (i + 1))) VL (vr G)) : Ex (d + 2) mi198 0 (entL [.ref 74] 1) [] (LY ++ ext) V VL (vr G) 0 0 P := by
  have e21 : up V 74 20 (nI (p + 1)) 74 21 = -1 := (up_at' (by omega)).trans hS.2.2
  have e19 : up V 74 20 (nI (p + 1)) 74 19 = nI i := (up_at' (by omega)).trans hS.1
  refine x_aload_n rfl rfl ?_
  refine x_getE (y := 20) rfl rfl rfl hS.2.1 ?_
  refine x_bipushN (q := 50) rfl ?_
  refine x_icmpN_ne rfl (fun c6 => ?_) (fun c6 => ?_)
  rotate_left
  · exact absurd c6 (by first | decide | omega)
  refine x_aload_n rfl rfl ?_
  refine x_dup rfl rfl ?_
  refine x_getE (y := 20) rfl rfl rfl hS.2.1 ?_
  refine x_iconstN (q := 1) rfl ?_
  refine x_iaddN rfl ?_
  refine x_putI rfl rfl rfl rfl ?_
  refine x_aload_n rfl rfl ?_
  refine x_callV (M' := mi194) (As := []) (bc1 := 0) (bs1 := 0) (bc2 := 0) (bs2 := 0) rfl rfl rfl rfl ok194 rfl rfl (by decide) rfl rfl rfl rfl rfl rfl ?_
  refine m_fine1 e21 ?_
  refine x_ifN_eq rfl (fun c27 => ?_) (fun c27 => ?_)
  · exact absurd c27 (by first | decide | omega)
  refine x_aload_n rfl rfl ?_
  refine x_dup rfl rfl ?_
  refine x_getE (y := 19) rfl rfl rfl e19 ?_
  refine x_iconstN (q := 1) rfl ?_
  refine x_iaddN rfl ?_
  refine x_putI rfl rfl rfl rfl ?_
  refine x_vret rfl rfl ?_
  exact hP
set_option maxRecDepth 20000 in
theorem m_leafN (hA : TkA o N tc tv pl V) (hS : MS i 50 V) (hi : i ≤ N) (hP : P none (LY ++ ext) (up (up V 74 21 (nI (pl i))) 74 20 (nI 51)) VL (vr G)) : Ex (d + 2) mi198 0 (entL [.ref 74] 1) [] (LY ++ ext) V VL (vr G) 0 0 P := by
  have hpl := (hA.2.2.2.2.2.2 i).2.2
  have e20 : up V 74 21 (nI (pl i)) 74 20 = nI 50 := (up_at' (by omega)).trans hS.2.1
  have e21 : up (up V 74 21 (nI (pl i))) 74 20 (nI (50 + 1)) 74 21 = nI (pl i) := (up_at' (by omega)).trans up_at
  refine x_aload_n rfl rfl ?_
  refine x_getE (y := 20) rfl rfl rfl hS.2.1 ?_
  refine x_bipushN (q := 50) rfl ?_
  refine x_icmpN_ne rfl (fun c6 => ?_) (fun c6 => ?_)
  · exact absurd c6 (by first | decide | omega)
  refine x_aload_n rfl rfl ?_
  refine x_callV (M' := mi195) (As := []) (bc1 := 0) (bs1 := 0) (bc2 := 0) (bs2 := 0) rfl rfl rfl rfl ok195 rfl rfl (by decide) rfl rfl rfl rfl rfl rfl ?_
  refine m_faults1 hA hS hi ?_
  refine x_aload_n rfl rfl ?_
  refine x_dup rfl rfl ?_
  refine x_getE (y := 20) rfl rfl rfl e20 ?_
  refine x_iconstN (q := 1) rfl ?_
  refine x_iaddN rfl ?_
  refine x_putI rfl rfl rfl rfl ?_
  refine x_aload_n rfl rfl ?_
  refine x_callV (M' := mi194) (As := []) (bc1 := 0) (bs1 := 0) (bc2 := 0) (bs2 := 0) rfl rfl rfl rfl ok194 rfl rfl (by decide) rfl rfl rfl rfl rfl rfl ?_
  refine m_fine0 e21 hpl ?_
  refine x_ifN_eq rfl (fun c27 => ?_) (fun c27 => ?_)
  rotate_left
  · exact absurd c27 (by first | decide | omega)
  refine x_vret rfl rfl ?_
  exact hP
set_option maxRecDepth 20000 in
theorem m_mn1 {lo hi : Nat} (hA : TkA o N tc tv pl V) (hS : MS i p V) (hi4 : i ≤ N) (hhi : hi < 1000) (h1 : tc i = 50) (h2 : lo ≤ tv i ∧ tv i ≤ hi) (hP : P none (LY ++ ext) (up V 74 19 (nI (i + 1))) VL (vr G)) : Ex (d + 2) mi200 0 (entL [.ref 74, .int (nI lo), .int (nI hi)] 3) [] (LY ++ ext) V VL (vr G) 0 0 P := by
  have hN := hA.2.2.2.2.1
  have hl : liesF (nI (tv i)) (nI lo) (nI hi) = true := by
    simp only [liesF, decide_eq_true_eq, Int32.lt_iff_toInt_lt]
    rw [nI_toInt (by omega), nI_toInt (by omega), nI_toInt (by omega)]
    omega
  refine x_aload_n rfl rfl ?_
  refine x_callV (M' := mi194) (As := []) (bc1 := 0) (bs1 := 0) (bc2 := 0) (bs2 := 0) rfl rfl rfl rfl ok194 rfl rfl (by decide) rfl rfl rfl rfl rfl rfl ?_
  refine m_fine1 hS.2.2 ?_
  refine x_ifN_eq rfl (fun c4 => ?_) (fun c4 => ?_)
  · exact absurd c4 (by first | decide | omega)
  refine x_aload_n rfl rfl ?_
  refine x_getR (u := .ref _) rfl rfl rfl rfl ?_
  refine x_aload_n rfl rfl ?_
  refine x_getE (y := 19) rfl rfl rfl hS.1 ?_
  refine x_ialE (j := i) rfl rfl (rfl) (by omega) ((hA.1 i hi4).1) ?_
  rw [h1]
  refine x_bipushN (q := 50) rfl ?_
  refine x_icmpN_ne rfl (fun c18 => ?_) (fun c18 => ?_)
  · exact absurd c18 (by first | decide | omega)
  refine x_aload_n rfl rfl ?_
  refine x_getR (u := .ref _) rfl rfl rfl rfl ?_
  refine x_aload_n rfl rfl ?_
  refine x_getE (y := 19) rfl rfl rfl hS.1 ?_
  refine x_ialE (j := i) rfl rfl (rfl) (by omega) ((hA.1 i hi4).2.1) ?_
  refine x_iload_n rfl rfl ?_
  refine x_iload_n rfl rfl ?_
  refine x_callS (M' := mi152) (As := [_, _, _]) (bc1 := 0) (bs1 := 0) (bc2 := 0) (bs2 := 0) rfl rfl rfl rfl ok152 rfl rfl rfl rfl rfl rfl ?_
  refine m_lies ?_
  rw [hl]
  refine x_if_ne rfl (fun c35 => ?_) (fun c35 => ?_)
  rotate_left
  · exact absurd c35 (by decide)
  refine x_aload_n rfl rfl ?_
  refine x_callV (M' := mi194) (As := []) (bc1 := 0) (bs1 := 0) (bc2 := 0) (bs2 := 0) rfl rfl rfl rfl ok194 rfl rfl (by decide) rfl rfl rfl rfl rfl rfl ?_
  refine m_fine1 hS.2.2 ?_
  refine x_ifN_eq rfl (fun c46 => ?_) (fun c46 => ?_)
  · exact absurd c46 (by first | decide | omega)
  refine x_aload_n rfl rfl ?_
  refine x_dup rfl rfl ?_
  refine x_getE (y := 19) rfl rfl rfl hS.1 ?_
  refine x_iconstN (q := 1) rfl ?_
  refine x_iaddN rfl ?_
  refine x_putI rfl rfl rfl rfl ?_
  refine x_vret rfl rfl ?_
  exact hP
set_option maxRecDepth 20000 in
theorem m_mnN {lo hi : Nat} (hA : TkA o N tc tv pl V) (hS : MS i p V) (hi4 : i ≤ N) (hhi : hi < 1000) (hlo : lo < 1000) (h : ¬ (tc i = 50 ∧ lo ≤ tv i ∧ tv i ≤ hi)) (hP : P none (LY ++ ext) (up V 74 21 (nI (pl i))) VL (vr G)) : Ex (d + 2) mi200 0 (entL [.ref 74, .int (nI lo), .int (nI hi)] 3) [] (LY ++ ext) V VL (vr G) 0 0 P := by
  have hN := hA.2.2.2.2.1
  have hc := hA.2.2.2.2.2.2 i
  have hk : Ex (d + 2) mi200 38 [.ref 74, .int (nI lo), .int (nI hi)] [] (LY ++ ext) V VL (vr G) 0 0 P := by
    refine x_aload_n rfl rfl ?_
    refine x_callV (M' := mi195) (As := []) (bc1 := 0) (bs1 := 0) (bc2 := 0) (bs2 := 0) rfl rfl rfl rfl ok195 rfl rfl (by decide) rfl rfl rfl rfl rfl rfl ?_
    refine m_faults1 hA hS hi4 ?_
    refine x_aload_n rfl rfl ?_
    refine x_callV (M' := mi194) (As := []) (bc1 := 0) (bs1 := 0) (bc2 := 0) (bs2 := 0) rfl rfl rfl rfl ok194 rfl rfl (by decide) rfl rfl rfl rfl rfl rfl ?_
    refine m_fine0 up_at hc.2.2 ?_
    refine x_ifN_eq rfl (fun c46 => ?_) (fun c46 => ?_)
    rotate_left
    · exact absurd c46 (by first | decide | omega)
    refine x_vret rfl rfl ?_
    exact hP
  by_cases c5 : tc i = 50
  · have hl : liesF (nI (tv i)) (nI lo) (nI hi) = false := by
      simp only [liesF, decide_eq_false_iff_not, Int32.lt_iff_toInt_lt]
      rw [nI_toInt (by omega), nI_toInt (by omega), nI_toInt (by omega)]
      omega
    refine x_aload_n rfl rfl ?_
    refine x_callV (M' := mi194) (As := []) (bc1 := 0) (bs1 := 0) (bc2 := 0) (bs2 := 0) rfl rfl rfl rfl ok194 rfl rfl (by decide) rfl rfl rfl rfl rfl rfl ?_
    refine m_fine1 hS.2.2 ?_
    refine x_ifN_eq rfl (fun c4 => ?_) (fun c4 => ?_)
    · exact absurd c4 (by first | decide | omega)
    refine x_aload_n rfl rfl ?_
    refine x_getR (u := .ref _) rfl rfl rfl rfl ?_
    refine x_aload_n rfl rfl ?_
    refine x_getE (y := 19) rfl rfl rfl hS.1 ?_
    refine x_ialE (j := i) rfl rfl (rfl) (by omega) ((hA.1 i hi4).1) ?_
    refine x_bipushN (q := 50) rfl ?_
    refine x_icmpN_ne rfl (fun c18 => ?_) (fun c18 => ?_)
    · exact absurd c18 (by first | decide | omega)
    refine x_aload_n rfl rfl ?_
    refine x_getR (u := .ref _) rfl rfl rfl rfl ?_
    refine x_aload_n rfl rfl ?_
    refine x_getE (y := 19) rfl rfl rfl hS.1 ?_
    refine x_ialE (j := i) rfl rfl (rfl) (by omega) ((hA.1 i hi4).2.1) ?_
    refine x_iload_n rfl rfl ?_
    refine x_iload_n rfl rfl ?_
    refine x_callS (M' := mi152) (As := [_, _, _]) (bc1 := 0) (bs1 := 0) (bc2 := 0) (bs2 := 0) rfl rfl rfl rfl ok152 rfl rfl rfl rfl rfl rfl ?_
    refine m_lies ?_
    rw [hl]
    refine x_if_ne rfl (fun c35 => ?_) (fun c35 => ?_)
    · exact absurd rfl c35
    exact hk
  · refine x_aload_n rfl rfl ?_
    refine x_callV (M' := mi194) (As := []) (bc1 := 0) (bs1 := 0) (bc2 := 0) (bs2 := 0) rfl rfl rfl rfl ok194 rfl rfl (by decide) rfl rfl rfl rfl rfl rfl ?_
    refine m_fine1 hS.2.2 ?_
    refine x_ifN_eq rfl (fun c4 => ?_) (fun c4 => ?_)
    · exact absurd c4 (by first | decide | omega)
    refine x_aload_n rfl rfl ?_
    refine x_getR (u := .ref _) rfl rfl rfl rfl ?_
    refine x_aload_n rfl rfl ?_
    refine x_getE (y := 19) rfl rfl rfl hS.1 ?_
    refine x_ialE (j := i) rfl rfl (rfl) (by omega) ((hA.1 i hi4).1) ?_
    refine x_bipushN (q := 50) rfl ?_
    refine x_icmpN_ne rfl (fun c18 => ?_) (fun c18 => ?_)
    rotate_left
    · exact absurd c18 (by first | decide | omega)
    exact hk
set_option maxRecDepth 20000 in
theorem m_mnB {lo hi : Int32} (h : V 74 21 = nI b) (hb : b ≤ 400) (hP : P none (LY ++ ext) V VL (vr G)) : Ex (d + 2) mi200 0 (entL [.ref 74, .int lo, .int hi] 3) [] (LY ++ ext) V VL (vr G) 0 0 P := by
  refine x_aload_n rfl rfl ?_
  refine x_callV (M' := mi194) (As := []) (bc1 := 0) (bs1 := 0) (bc2 := 0) (bs2 := 0) rfl rfl rfl rfl ok194 rfl rfl (by decide) rfl rfl rfl rfl rfl rfl ?_
  refine m_fine0 h hb ?_
  refine x_ifN_eq rfl (fun c4 => ?_) (fun c4 => ?_)
  rotate_left
  · exact absurd c4 (by first | decide | omega)
  refine x_aload_n rfl rfl ?_
  refine x_callV (M' := mi194) (As := []) (bc1 := 0) (bs1 := 0) (bc2 := 0) (bs2 := 0) rfl rfl rfl rfl ok194 rfl rfl (by decide) rfl rfl rfl rfl rfl rfl ?_
  refine m_fine0 h hb ?_
  refine x_ifN_eq rfl (fun c46 => ?_) (fun c46 => ?_)
  rotate_left
  · exact absurd c46 (by first | decide | omega)
  refine x_vret rfl rfl ?_
  exact hP
end Read1
-- how many parts; a reading's word is 0, 1 or 2
def OKc (r : PRd) : Prop := (r.1 = 1 → r.2.2.1 ≤ 50) ∧ r.1 ≤ 2
set_option maxRecDepth 20000 in
theorem pbd_c {r : PRd} {k : Nat → Nat → Den → PRd} (h : OKc r) (hk : ∀ i' p' y, p' ≤ 50 → OKc (k i' p' y)) : OKc (pbd r k) := by
  unfold pbd
  split
  · rename_i c
    exact hk _ _ _ (h.1 c)
  · exact h
set_option maxRecDepth 20000 in
theorem OKc.bad {i p : Nat} {x : Den} : OKc (0, i, p, x) := ⟨fun z => absurd z (by show ¬ 0 = 1; omega), by show 0 ≤ 2; omega⟩
set_option maxRecDepth 20000 in
theorem OKc.good {i p : Nat} {x : Den} (h : p ≤ 50) : OKc (1, i, p, x) := ⟨fun _ => h, by show 1 ≤ 2; omega⟩
set_option maxRecDepth 20000 in
theorem prs_c {o : Bool} {tc tv : Nat → Nat} : ∀ f m dp i p x, p ≤ 50 → OKc (prs o tc tv f m dp i p x)
  | 0, _, _, _, _, _, _ => ⟨fun z => absurd z (by show ¬ 2 = 1; omega), by show 2 ≤ 2; omega⟩
  | f + 1, m, dp, i, p, x, hp => by
    have ih := prs_c (o := o) (tc := tc) (tv := tv) f
    rw [prs]
    by_cases hm0 : m = 0
    · rw [if_pos hm0]
      exact pbd_c (ih _ _ _ _ _ hp) (fun i' p' y hp' => ih _ _ _ _ _ hp')
    rw [if_neg hm0]
    by_cases hm1 : m = 1
    · rw [if_pos hm1]
      split
      · exact pbd_c (ih _ _ _ _ _ hp) (fun i' p' y hp' => ih _ _ _ _ _ hp')
      · exact OKc.good hp
    rw [if_neg hm1]
    by_cases hm2 : m = 2
    · rw [if_pos hm2]
      exact pbd_c (ih _ _ _ _ _ hp) (fun i' p' y hp' => ih _ _ _ _ _ hp')
    rw [if_neg hm2]
    by_cases hm3 : m = 3
    · rw [if_pos hm3]
      split
      · exact pbd_c (ih _ _ _ _ _ hp) (fun i' p' y hp' => ih _ _ _ _ _ hp')
      · exact OKc.good hp
    rw [if_neg hm3]
    by_cases hm4 : m = 4
    · rw [if_pos hm4]
      exact pbd_c (ih _ _ _ _ _ hp) (fun i' p' y hp' => OKc.good hp')
    rw [if_neg hm4]
    by_cases hm5 : m = 5
    · rw [if_pos hm5]
      exact pbd_c (ih _ _ _ _ _ hp) (fun i' p' y hp' => ih _ _ _ _ _ hp')
    rw [if_neg hm5]
    by_cases hm6 : m = 6
    · rw [if_pos hm6]
      split
      · exact pbd_c (ih _ _ _ _ _ hp) (fun i' p' y hp' => ih _ _ _ _ _ hp')
      · exact OKc.good hp
    rw [if_neg hm6]
    by_cases hm7 : m = 7
    · rw [if_pos hm7]
      exact pbd_c (ih _ _ _ _ _ hp) (fun i' p' y hp' => ih _ _ _ _ _ hp')
    rw [if_neg hm7]
    by_cases hm8 : m = 8
    · rw [if_pos hm8]
      split
      · exact pbd_c (ih _ _ _ _ _ hp) (fun i' p' y hp' => ih _ _ _ _ _ hp')
      · exact OKc.good hp
    rw [if_neg hm8]
    by_cases hm9 : m = 9
    · rw [if_pos hm9]
      split
      · split
        · exact OKc.bad
        · exact pbd_c (ih _ _ _ _ _ hp) (fun i' p' y hp' => by
            split
            · exact OKc.good hp'
            · exact OKc.bad)
      · split
        · exact OKc.bad
        · split
          · exact OKc.good (by omega)
          · split
            · split
              · exact OKc.good (by omega)
              · exact OKc.bad
            · split
              · split
                · exact OKc.good (by omega)
                · exact OKc.bad
              · split
                · split
                  · exact OKc.good (by omega)
                  · exact OKc.bad
                · split
                  · exact OKc.good (by omega)
                  · exact OKc.bad
    rw [if_neg hm9]
    split
    · split
      · exact OKc.bad
      · exact pbd_c (ih _ _ _ _ _ hp) (fun i' p' y hp' => by
            split
            · exact OKc.good hp'
            · exact OKc.bad)
    · exact pbd_c (ih _ _ _ _ _ hp) (fun i' p' y hp' => by
        split
        · exact pbd_c (ih _ _ _ _ _ hp') (fun _ _ _ q => OKc.good q)
        · exact OKc.bad)
