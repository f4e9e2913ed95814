/-! ===== row: the model's loop ===== -/
def FrM (V0 V : VIT) : Prop := ∀ a k, a ≠ 76 → ¬ (a = 74 ∧ k = 6) → V a k = V0 a k
section Row3
variable {d : Nat} {V0 : VIT} {VL : VLT} {G : VRT} {P : Post} {ext : HL} {K : KT} {tn e : Nat} {T : Nat → Nat}
set_option maxRecDepth 20000 in
theorem m_row_loop (hW : WF K) (hT : MTape tn T V0) (he : e ≤ 1) (hP : ∀ (VI : VIT) (z y x : Value), RK (VI 76) (rowA T tn K (tn / 3)).1 → VI 74 6 = nI (e + (rowA T tn K (tn / 3)).2.2) → FrM V0 VI → Ex (d + 2) mi186 165 [.ref 74, .int (nI tn), .int (nI (rowA T tn K (tn / 3)).2.1), z, y, x] [] (LY ++ ext) VI VL (vr G) 0 0 P) : ∀ (m t : Nat) (VI : VIT) (y x : Value), t + m = tn / 3 → RK (VI 76) (rowA T tn K t).1 → VI 74 6 = nI (e + (rowA T tn K t).2.2) → FrM V0 VI → Ex (d + 2) mi186 40 [.ref 74, .int (nI tn), .int (nI (rowA T tn K t).2.1), .int (nI (3 * t)), y, x] [] (LY ++ ext) VI VL (vr G) 0 0 P := by
  intro m
  induction m with
  | zero =>
    intro t VI y x ht hM hg hF
    have h4 := hT.1
    have e1 : t = tn / 3 := by omega
    subst e1
    refine x_iload_n rfl rfl ?_
    refine x_iconstN (q := 3) rfl ?_
    refine x_iaddN rfl ?_
    refine x_iload_n rfl rfl ?_
    refine x_icmpN_gt rfl (fun c44 => ?_) (fun c44 => ?_)
    rotate_left
    · exact absurd c44 (by first | decide | omega)
    exact hP VI _ _ _ hM hg hF | succ m ih =>
    intro t VI y x ht hM hg hF
    have h4 := hT.1
    have hq : ∀ k, k < tn → T k < 256 ∧ VI 81 k = (nI (T k)).toInt8.toInt32 := fun k hk => ⟨(hT.2 k hk).1, (hF 81 k (by omega) (by omega)).trans (hT.2 k hk).2⟩
    have q0 := hq (3 * t) (by omega)
    have q1 := hq (3 * t + 1) (by omega)
    have q2 := hq (3 * t + 2) (by omega)
    obtain ⟨w1, w2, w3, w4⟩ := rowA_WF (T := T) (tn := tn) hW t
    have w6 := w1.n
    by_cases h : isR T tn (rowA T tn K t).1 (3 * t)
    · have e1 := rowA_yes h
      have hM2 := addK_RK (f := T (3 * t)) (a := T (3 * t + 1)) (m := T (3 * t + 2)) hM h.2.1
      have h3 := h.2.2.1
      have h5 := h.2.2.2
      have hk : ∀ y x : Value, _ := fun y x => ih (t + 1) (up (up (up (up (up (up (up (up (up VI 76 (39 + (rowA T tn K t).1 93) (nI (T (3 * t)))) 76 (45 + (rowA T tn K t).1 93) (nI (T (3 * t + 1)))) 76 (24 + (rowA T tn K t).1 93) (nI 1)) 76 (4 * (rowA T tn K t).1 93 + 3) (nI (T (3 * t + 2) % 4))) 76 (4 * (rowA T tn K t).1 93 + 2) (nI (T (3 * t + 2) / 4 % 4))) 76 (4 * (rowA T tn K t).1 93 + 1) (nI (T (3 * t + 2) / 4 / 4 % 4))) 76 (4 * (rowA T tn K t).1 93 + 0) (nI (T (3 * t + 2) / 4 / 4 / 4 % 4))) 76 93 (nI ((rowA T tn K t).1 93 + 1))) 74 6 (nI (e + (rowA T tn K t).2.2))) y x (by omega) (by rw [e1]; exact hM2) (by rw [e1]; exact up_at) (fun a k c1 c2 => by
        rw [up_ne2 c2, up_ne c1, up_ne c1, up_ne c1, up_ne c1, up_ne c1, up_ne c1, up_ne c1, up_ne c1]; exact hF a k c1 c2)
      rw [e1] at hk
      refine x_iload_n rfl rfl ?_
      refine x_iconstN (q := 3) rfl ?_
      refine x_iaddN rfl ?_
      refine x_iload_n rfl rfl ?_
      refine x_icmpN_gt rfl (fun c44 => ?_) (fun c44 => ?_)
      · exact absurd c44 (by first | decide | omega)
      refine x_aload_n rfl rfl ?_
      refine x_getR (u := .ref _) rfl rfl rfl rfl ?_
      refine x_iload_n rfl rfl ?_
      refine x_iconstN (q := 2) rfl ?_
      refine x_iaddN rfl ?_
      refine x_balN (j := 3 * t + 2) rfl rfl (rfl) (by omega) ?_
      rw [q2.2]
      refine x_sipush rfl ?_
      refine x_iand rfl ?_
      rw [sg255 _ q2.1]
      refine x_istore (ls' := [_, _, _, _, _, _]) rfl rfl rfl ?_
      refine x_aload_n rfl rfl ?_
      refine x_getR (u := .ref _) rfl rfl rfl rfl ?_
      refine x_bipushN (q := 93) rfl ?_
      refine x_ialE (j := 93) rfl rfl (rfl) (by omega) (hM.at 93) ?_
      refine x_bipushN (q := 6) rfl ?_
      refine x_icmpN_ge rfl (fun c70 => ?_) (fun c70 => ?_)
      · exact absurd c70 (Nat.not_le.mpr h.2.1)
      refine x_aload_n rfl rfl ?_
      refine x_getR (u := .ref _) rfl rfl rfl rfl ?_
      refine x_iload_n rfl rfl ?_
      refine x_balN (j := 3 * t) rfl rfl (rfl) (by omega) ?_
      rw [q0.2]
      refine x_aload_n rfl rfl ?_
      refine x_getR (u := .ref _) rfl rfl rfl rfl ?_
      refine x_iload_n rfl rfl ?_
      refine x_iconstN (q := 1) rfl ?_
      refine x_iaddN rfl ?_
      refine x_balN (j := 3 * t + 1) rfl rfl (rfl) (by omega) ?_
      rw [q1.2]
      refine x_iload rfl rfl ?_
      refine x_callS (M' := mi171) (As := [_, _, _]) (bc1 := 0) (bs1 := 0) (bc2 := 0) (bs2 := 0) rfl rfl rfl rfl ok171 rfl rfl rfl rfl rfl rfl ?_
      refine m_canBe ?_
      rw [canS q0.1 q1.1 q2.1, decide_eq_true ⟨h3, h5⟩]
      refine x_if_eq rfl (fun c92 => ?_) (fun c92 => ?_)
      · exact absurd c92 (by first | decide | omega)
      refine x_iconstN (q := 1) rfl ?_
      refine x_goto rfl ?_
      refine x_istore (ls' := [_, _, _, _, _, _]) rfl rfl rfl ?_
      refine x_iload rfl rfl ?_
      refine x_ifN_eq rfl (fun c104 => ?_) (fun c104 => ?_)
      · exact absurd c104 (by first | decide | omega)
      refine x_aload_n rfl rfl ?_
      refine x_aload_n rfl rfl ?_
      refine x_getR (u := .ref _) rfl rfl rfl rfl ?_
      refine x_iload_n rfl rfl ?_
      refine x_balN (j := 3 * t) rfl rfl (rfl) (by omega) ?_
      rw [q0.2, sg128 _ (by omega)]
      refine x_aload_n rfl rfl ?_
      refine x_getR (u := .ref _) rfl rfl rfl rfl ?_
      refine x_iload_n rfl rfl ?_
      refine x_iconstN (q := 1) rfl ?_
      refine x_iaddN rfl ?_
      refine x_balN (j := 3 * t + 1) rfl rfl (rfl) (by omega) ?_
      rw [q1.2, sg128 _ (by omega)]
      refine x_iload rfl rfl ?_
      refine x_callV (M' := mi172) (As := [_, _, _]) (bc1 := 0) (bs1 := 0) (bc2 := 0) (bs2 := 0) rfl rfl rfl rfl ok172 rfl rfl (by decide) rfl rfl rfl rfl rfl rfl ?_
      refine m_adds (hM.at 93) h.2.1 q2.1 ?_
      refine x_iload_n rfl rfl ?_
      refine x_iload rfl rfl ?_
      refine x_ifN_eq rfl (fun c130 => ?_) (fun c130 => ?_)
      · exact absurd c130 (by first | decide | omega)
      refine x_iconstN (q := 1) rfl ?_
      refine x_goto rfl ?_
      refine x_iaddN rfl ?_
      refine x_istore_n (ls' := [_, _, _, _, _, _]) rfl rfl rfl ?_
      refine x_aload_n rfl rfl ?_
      refine x_dup rfl rfl ?_
      refine x_getE (y := 6) rfl rfl rfl (hg) ?_
      refine x_iload rfl rfl ?_
      refine x_ifN_eq rfl (fun c147 => ?_) (fun c147 => ?_)
      · exact absurd c147 (by first | decide | omega)
      refine x_iconstN (q := 0) rfl ?_
      refine x_goto rfl ?_
      refine x_iaddN rfl ?_
      rw [Nat.add_zero]
      refine x_putI rfl rfl rfl rfl ?_
      refine x_iincN (q := 3) (ls' := [_, _, _, _, _, _]) rfl rfl rfl rfl ?_
      refine x_goto rfl ?_
      exact hk _ _
    · have e1 := rowA_no h
      have hk : ∀ y x : Value, _ := fun y x => ih (t + 1) (up VI 74 6 (nI (e + (rowA T tn K t).2.2 + 1))) y x (by omega) (by rw [e1]; exact hM) (by rw [e1]; exact up_at) (fun a k c1 c2 => by rw [up_ne2 c2]; exact hF a k c1 c2)
      rw [e1] at hk
      refine x_iload_n rfl rfl ?_
      refine x_iconstN (q := 3) rfl ?_
      refine x_iaddN rfl ?_
      refine x_iload_n rfl rfl ?_
      refine x_icmpN_gt rfl (fun c44 => ?_) (fun c44 => ?_)
      · exact absurd c44 (by first | decide | omega)
      refine x_aload_n rfl rfl ?_
      refine x_getR (u := .ref _) rfl rfl rfl rfl ?_
      refine x_iload_n rfl rfl ?_
      refine x_iconstN (q := 2) rfl ?_
      refine x_iaddN rfl ?_
      refine x_balN (j := 3 * t + 2) rfl rfl (rfl) (by omega) ?_
      rw [q2.2]
      refine x_sipush rfl ?_
      refine x_iand rfl ?_
      rw [sg255 _ q2.1]
      refine x_istore (ls' := [_, _, _, _, _, _]) rfl rfl rfl ?_
      refine x_aload_n rfl rfl ?_
      refine x_getR (u := .ref _) rfl rfl rfl rfl ?_
      refine x_bipushN (q := 93) rfl ?_
      refine x_ialE (j := 93) rfl rfl (rfl) (by omega) (hM.at 93) ?_
      refine x_bipushN (q := 6) rfl ?_
      refine x_icmpN_ge rfl (fun c70 => ?_) (fun c70 => ?_)
      · refine x_iconstN (q := 0) rfl ?_
        refine x_istore (ls' := [_, _, _, _, _, _]) rfl rfl rfl ?_
        refine x_iload rfl rfl ?_
        refine x_ifN_eq rfl (fun c104 => ?_) (fun c104 => ?_)
        rotate_left
        · exact absurd c104 (by first | decide | omega)
        refine x_iload_n rfl rfl ?_
        refine x_iload rfl rfl ?_
        refine x_ifN_eq rfl (fun c130 => ?_) (fun c130 => ?_)
        rotate_left
        · exact absurd c130 (by first | decide | omega)
        refine x_iconstN (q := 0) rfl ?_
        refine x_iaddN rfl ?_
        rw [Nat.add_zero]
        refine x_istore_n (ls' := [_, _, _, _, _, _]) rfl rfl rfl ?_
        refine x_aload_n rfl rfl ?_
        refine x_dup rfl rfl ?_
        refine x_getE (y := 6) rfl rfl rfl (hg) ?_
        refine x_iload rfl rfl ?_
        refine x_ifN_eq rfl (fun c147 => ?_) (fun c147 => ?_)
        rotate_left
        · exact absurd c147 (by first | decide | omega)
        refine x_iconstN (q := 1) rfl ?_
        refine x_iaddN rfl ?_
        refine x_putI rfl rfl rfl rfl ?_
        refine x_iincN (q := 3) (ls' := [_, _, _, _, _, _]) rfl rfl rfl rfl ?_
        refine x_goto rfl ?_
        exact hk _ _
      · refine x_aload_n rfl rfl ?_
        refine x_getR (u := .ref _) rfl rfl rfl rfl ?_
        refine x_iload_n rfl rfl ?_
        refine x_balN (j := 3 * t) rfl rfl (rfl) (by omega) ?_
        rw [q0.2]
        refine x_aload_n rfl rfl ?_
        refine x_getR (u := .ref _) rfl rfl rfl rfl ?_
        refine x_iload_n rfl rfl ?_
        refine x_iconstN (q := 1) rfl ?_
        refine x_iaddN rfl ?_
        refine x_balN (j := 3 * t + 1) rfl rfl (rfl) (by omega) ?_
        rw [q1.2]
        refine x_iload rfl rfl ?_
        refine x_callS (M' := mi171) (As := [_, _, _]) (bc1 := 0) (bs1 := 0) (bc2 := 0) (bs2 := 0) rfl rfl rfl rfl ok171 rfl rfl rfl rfl rfl rfl ?_
        refine m_canBe ?_
        rw [canS q0.1 q1.1 q2.1]
        refine x_if_eq rfl (fun c92 => ?_) (fun c92 => ?_)
        · refine x_iconstN (q := 0) rfl ?_
          refine x_istore (ls' := [_, _, _, _, _, _]) rfl rfl rfl ?_
          refine x_iload rfl rfl ?_
          refine x_ifN_eq rfl (fun c104 => ?_) (fun c104 => ?_)
          rotate_left
          · exact absurd c104 (by first | decide | omega)
          refine x_iload_n rfl rfl ?_
          refine x_iload rfl rfl ?_
          refine x_ifN_eq rfl (fun c130 => ?_) (fun c130 => ?_)
          rotate_left
          · exact absurd c130 (by first | decide | omega)
          refine x_iconstN (q := 0) rfl ?_
          refine x_iaddN rfl ?_
          rw [Nat.add_zero]
          refine x_istore_n (ls' := [_, _, _, _, _, _]) rfl rfl rfl ?_
          refine x_aload_n rfl rfl ?_
          refine x_dup rfl rfl ?_
          refine x_getE (y := 6) rfl rfl rfl (hg) ?_
          refine x_iload rfl rfl ?_
          refine x_ifN_eq rfl (fun c147 => ?_) (fun c147 => ?_)
          rotate_left
          · exact absurd c147 (by first | decide | omega)
          refine x_iconstN (q := 1) rfl ?_
          refine x_iaddN rfl ?_
          refine x_putI rfl rfl rfl rfl ?_
          refine x_iincN (q := 3) (ls' := [_, _, _, _, _, _]) rfl rfl rfl rfl ?_
          refine x_goto rfl ?_
          exact hk _ _
        · (have z := b1_ne c92; rw [decide_eq_true_eq] at z; exact absurd ⟨by omega, c70, z.1, z.2⟩ h)
end Row3
