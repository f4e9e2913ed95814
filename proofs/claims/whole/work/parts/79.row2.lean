/-! ===== row: the class's loop ===== -/
-- what the class's loop may change: people and grain
def FrR (V0 V : VIT) : Prop := ∀ a k, (a < 3 ∨ 6 < a) → ¬ (a = 0 ∧ k = 15) → V a k = V0 a k
section Row2
variable {d : Nat} {V0 : VIT} {VL : VLT} {G : VRT} {P : Post} {ext : HL} {K : KT} {tn : Nat} {T : Nat → Nat}
set_option maxRecDepth 20000 in
theorem x_row_loop (hW : WF K) (hT : XTape tn T V0) (hP : ∀ (VI : VIT) (z : Value), RW 3 (rowA T tn K ((tn + 2) / 3)).1 VI → VI 0 15 = nI (rowA T tn K ((tn + 2) / 3)).2.2 → FrR V0 VI → Ex (d + 2) mi116 61 [.ref 0, .int (nI (rowA T tn K ((tn + 2) / 3)).2.1), z] [] (LY ++ ext) VI VL (vr G) 0 0 P) : ∀ (m t : Nat) (VI : VIT), t + m = (tn + 2) / 3 → RW 3 (rowA T tn K t).1 VI → VI 0 15 = nI (rowA T tn K t).2.2 → FrR V0 VI → Ex (d + 2) mi116 23 [.ref 0, .int (nI (rowA T tn K t).2.1), .int (nI (3 * t))] [] (LY ++ ext) VI VL (vr G) 0 0 P := by
  intro m
  induction m with
  | zero =>
    intro t VI ht hX hg hF
    have h4 := hT.1
    have e : t = (tn + 2) / 3 := by omega
    have hl : VI 0 13 = nI tn := (hF 0 13 (by omega) (by omega)).trans hT.2.1
    subst e
    refine x_iload_n rfl rfl ?_
    refine x_aload_n rfl rfl ?_
    refine x_getE (y := 13) rfl rfl rfl (hl) ?_
    refine x_icmpN_ge rfl (fun c28 => ?_) (fun c28 => ?_)
    rotate_left
    · exact absurd c28 (by first | decide | omega)
    exact hP VI _ hX hg hF | succ m ih =>
    intro t VI ht hX hg hF
    have h4 := hT.1
    have hl : VI 0 13 = nI tn := (hF 0 13 (by omega) (by omega)).trans hT.2.1
    have hT1 : XTape tn T VI := ⟨hT.1, hl, fun k hk => ⟨(hT.2.2 k hk).1, (hF 72 k (by omega) (by omega)).trans (hT.2.2 k hk).2⟩⟩
    obtain ⟨w1, w2, w3, w4⟩ := rowA_WF (T := T) (tn := tn) hW t
    by_cases h : isR T tn (rowA T tn K t).1 (3 * t)
    · have e1 := rowA_yes h
      have hq := addK_RW (f := T (3 * t)) (a := T (3 * t + 1)) (m := T (3 * t + 2)) hX w1 h.2.1 (hT.2.2 _ h.1).1
      have hk := ih (t + 1) _ (by omega) (by rw [e1]; exact hq) (by rw [e1]; exact hg) (fun a k c1 c2 => by
        rw [up_ne (by omega), up_ne (by omega), up_ne (by omega), up_ne (by omega), up_ne (by omega), up_ne (by omega), up_ne (by omega), up_ne (by omega)]; exact hF a k c1 c2)
      rw [e1] at hk
      refine x_iload_n rfl rfl ?_
      refine x_aload_n rfl rfl ?_
      refine x_getE (y := 13) rfl rfl rfl (hl) ?_
      refine x_icmpN_ge rfl (fun c28 => ?_) (fun c28 => ?_)
      · exact absurd c28 (by first | decide | omega)
      refine x_aload_n rfl rfl ?_
      refine x_iload_n rfl rfl ?_
      refine x_callV (M' := mi149) (As := [_]) (bc1 := 0) (bs1 := 0) (bc2 := 0) (bs2 := 0) rfl rfl rfl rfl ok149 rfl rfl (by decide) rfl rfl rfl rfl rfl rfl ?_
      refine s_came_yes hX w1 hT1 h ?_
      refine x_if_eq rfl (fun c36 => ?_) (fun c36 => ?_)
      · exact absurd c36 (by first | decide | omega)
      refine x_iincN (q := 1) (ls' := [_, _, _]) rfl rfl rfl rfl ?_
      refine x_goto rfl ?_
      refine x_iincN (q := 3) (ls' := [_, _, _]) rfl rfl rfl rfl ?_
      refine x_goto rfl ?_
      exact hk
    · have e1 := rowA_no h
      have hk := ih (t + 1) (up VI 0 15 (nI ((rowA T tn K t).2.2 + 1))) (by omega) (by rw [e1]; exact hX.same (fun a _ _ => up_ne (by omega))) (by rw [e1]; exact up_at) (fun a k c1 c2 => by rw [up_ne2 c2]; exact hF a k c1 c2)
      rw [e1] at hk
      refine x_iload_n rfl rfl ?_
      refine x_aload_n rfl rfl ?_
      refine x_getE (y := 13) rfl rfl rfl (hl) ?_
      refine x_icmpN_ge rfl (fun c28 => ?_) (fun c28 => ?_)
      · exact absurd c28 (by first | decide | omega)
      refine x_aload_n rfl rfl ?_
      refine x_iload_n rfl rfl ?_
      refine x_callV (M' := mi149) (As := [_]) (bc1 := 0) (bs1 := 0) (bc2 := 0) (bs2 := 0) rfl rfl rfl rfl ok149 rfl rfl (by decide) rfl rfl rfl rfl rfl rfl ?_
      refine s_came_no hX w1 hT1 (by omega) h ?_
      refine x_if_eq rfl (fun c36 => ?_) (fun c36 => ?_)
      rotate_left
      · exact absurd c36 (by first | decide | omega)
      refine x_aload_n rfl rfl ?_
      refine x_dup rfl rfl ?_
      refine x_getE (y := 15) rfl rfl rfl (hg) ?_
      refine x_iconstN (q := 1) rfl ?_
      refine x_iaddN rfl ?_
      refine x_putI rfl rfl rfl rfl ?_
      refine x_iincN (q := 3) (ls' := [_, _, _]) rfl rfl rfl rfl ?_
      refine x_goto rfl ?_
      exact hk
end Row2
