/-! ===== what a text's code tells, whatever stands behind it in the room ===== -/
section Val4
variable {d : Nat} {V0 : VIT} {VL : VLT} {G : VRT} {P : Post} {ext : HL} {b c wa nw L : Nat} {cd : Nat → Nat} {x2 : Int32} {e : Nat → Int}
set_option maxRecDepth 20000 in
theorem val_loop2 {l l1 s0 : Nat} (hll : l1 + 2 ≤ l) (hlL : l ≤ L) (hend : cd l1 = 0) (hpar : s0 ≤ l1 ∧ (l1 - s0) % 2 = 0) (hjmp : ∀ i, s0 ≤ i → i < l1 → (i - s0) % 2 = 0 → (cd i = 4 ∨ cd i = 5) → i + 2 ≤ cd (i + 1) ∧ cd (i + 1) ≤ l1 ∧ (cd (i + 1) - s0) % 2 = 0) (hcl : (LY ++ ext)[c]? = some (.inl (0, L))) (hwl : (LY ++ ext)[wa]? = some (.inl (0, nw))) (hL : L ≤ 896) (hnw : nw ≤ 36) (hc2 : c ≠ 2) (hw2 : wa ≠ 2) (hcode : ∀ k, k < l → cd k < 1000000 ∧ V0 c k = nI (cd k)) (hwd : ∀ k, k < nw → V0 wa k = Int32.ofInt (e k) ∧ -1000000000 ≤ e k ∧ e k ≤ 1000000000) : ∀ (f i : Nat) (s : List Int) (V : VIT) (z7 z8 z9 : Value), (s0 ≤ i ∧ i ≤ l1 ∧ (i - s0) % 2 = 0) → 1 ≤ f → (i + 1 < L → L ≤ i + 2 * (f - 1)) → i ≤ 1000002 → s.length ≤ 64 → (i + 1 < L → Bd i s) → Stk s V → FrS V0 V → (∀ V' : VIT, FrS V0 V' → P (some (.int (obr (vm nw cd L e f i s)))) (LY ++ ext) V' VL (vr G)) → Ex (d + 1) mi77 19 [.ref 1, .ref b, .int x2, .ref wa, .ref c, .int (nI s.length), .int (nI i), z7, z8, z9] [] (LY ++ ext) V VL (vr G) 0 0 P := by
  have hLn : Nat.blt L 2147483648 = true := Nat.ble_eq_true_of_le (by omega)
  have hWn : Nat.blt nw 2147483648 = true := Nat.ble_eq_true_of_le (by omega)
  intro f
  induction f with
  | zero => exact fun i s V z7 z8 z9 _ h => absurd h (by omega)
  | succ f ih =>
    intro i s V z7 z8 z9 hg h1 hfu hi hsl hB hS hF hP
    by_cases cx : i + 1 < L ∧ cd i ≠ 0
    · obtain ⟨cx1, cx2⟩ := id cx
      have hi1 : i < l1 := by
        rcases Nat.lt_or_ge i l1 with z | z
        · exact z
        · exact absurd (show cd i = 0 by rw [show i = l1 by omega]; exact hend) cx2
      have hg2 : s0 ≤ i + 2 ∧ i + 2 ≤ l1 ∧ (i + 2 - s0) % 2 = 0 := by omega
      have hgj : (cd i = 4 ∨ cd i = 5) → s0 ≤ max i (cd (i + 1) - 2) + 2 ∧ max i (cd (i + 1) - 2) + 2 ≤ l1 ∧ (max i (cd (i + 1) - 2) + 2 - s0) % 2 = 0 := fun q => by
        have := hjmp i hg.1 hi1 hg.2.2 q
        omega
      have hcd : ∀ k, k < l → V c k = nI (cd k) := fun k hk => (hF c k hc2).trans (hcode k hk).2
      have b0 := (hcode i (by omega)).1
      have b1' := (hcode (i + 1) (by omega)).1
      have hB := hB cx1
      have hfu := hfu cx1
      have hs0 := hsl
      by_cases c1 : cd i = 1
      · rw [vm_num cx c1] at hP
        by_cases cl : 64 ≤ s.length
        · rw [if_pos cl] at hP
          refine x_iload rfl rfl ?_
          refine x_iconstN (q := 1) rfl ?_
          refine x_iaddN rfl ?_
          refine x_aload rfl rfl ?_
          refine x_alen0 rfl hcl ?_
          refine x_icmpN_ge rfl (fun c26 => ?_) (fun c26 => ?_)
          · exact absurd c26 (by first | decide | omega)
          refine x_aload rfl rfl ?_
          refine x_iload rfl rfl ?_
          refine x_ialE (j := i) rfl (hcl) (hn := hLn) (rfl) (by omega) (hcd i (by omega)) ?_
          refine x_ifN_eq rfl (fun c34 => ?_) (fun c34 => ?_)
          · exact absurd c34 (by first | decide | omega)
          refine x_aload rfl rfl ?_
          refine x_iload rfl rfl ?_
          refine x_ialE (j := i) rfl (hcl) (hn := hLn) (rfl) (by omega) (hcd i (by omega)) ?_
          refine x_istore (ls' := [_, _, _, _, _, _, _, _, _, _]) rfl rfl rfl ?_
          refine x_aload rfl rfl ?_
          refine x_iload rfl rfl ?_
          refine x_iconstN (q := 1) rfl ?_
          refine x_iaddN rfl ?_
          refine x_ialE (j := i + 1) rfl (hcl) (hn := hLn) (rfl) (by omega) (hcd (i + 1) (by omega)) ?_
          refine x_istore (ls' := [_, _, _, _, _, _, _, _, _, _]) rfl rfl rfl ?_
          refine x_iload rfl rfl ?_
          refine x_iconstN (q := 1) rfl ?_
          refine x_icmpN_eq rfl (fun c56 => ?_) (fun c56 => ?_)
          rotate_left
          · exact absurd c56 (by first | decide | omega)
          refine x_iload rfl rfl ?_
          refine x_bipushN (q := 64) rfl ?_
          refine x_icmpN_ge rfl (fun c69 => ?_) (fun c69 => ?_)
          rotate_left
          · exact absurd c69 (by first | decide | omega)
          refine x_ldc rfl ?_
          refine x_iret rfl rfl ?_
          exact hP V hF
        · rw [if_neg cl] at hP
          refine x_iload rfl rfl ?_
          refine x_iconstN (q := 1) rfl ?_
          refine x_iaddN rfl ?_
          refine x_aload rfl rfl ?_
          refine x_alen0 rfl hcl ?_
          refine x_icmpN_ge rfl (fun c26 => ?_) (fun c26 => ?_)
          · exact absurd c26 (by first | decide | omega)
          refine x_aload rfl rfl ?_
          refine x_iload rfl rfl ?_
          refine x_ialE (j := i) rfl (hcl) (hn := hLn) (rfl) (by omega) (hcd i (by omega)) ?_
          refine x_ifN_eq rfl (fun c34 => ?_) (fun c34 => ?_)
          · exact absurd c34 (by first | decide | omega)
          refine x_aload rfl rfl ?_
          refine x_iload rfl rfl ?_
          refine x_ialE (j := i) rfl (hcl) (hn := hLn) (rfl) (by omega) (hcd i (by omega)) ?_
          refine x_istore (ls' := [_, _, _, _, _, _, _, _, _, _]) rfl rfl rfl ?_
          refine x_aload rfl rfl ?_
          refine x_iload rfl rfl ?_
          refine x_iconstN (q := 1) rfl ?_
          refine x_iaddN rfl ?_
          refine x_ialE (j := i + 1) rfl (hcl) (hn := hLn) (rfl) (by omega) (hcd (i + 1) (by omega)) ?_
          refine x_istore (ls' := [_, _, _, _, _, _, _, _, _, _]) rfl rfl rfl ?_
          refine x_iload rfl rfl ?_
          refine x_iconstN (q := 1) rfl ?_
          refine x_icmpN_eq rfl (fun c56 => ?_) (fun c56 => ?_)
          rotate_left
          · exact absurd c56 (by first | decide | omega)
          refine x_iload rfl rfl ?_
          refine x_bipushN (q := 64) rfl ?_
          refine x_icmpN_ge rfl (fun c69 => ?_) (fun c69 => ?_)
          · exact absurd c69 (by first | decide | omega)
          refine x_iload rfl rfl ?_
          refine x_ifN_lt rfl ?_
          refine x_iload rfl rfl ?_
          refine x_iconstN (q := 2) rfl ?_
          refine x_icmpN_ne rfl (fun c80 => ?_) (fun c80 => ?_)
          rotate_left
          · exact absurd c80 (by first | decide | omega)
          refine x_aload_n rfl rfl ?_
          refine x_getR (u := .ref _) rfl rfl rfl rfl ?_
          refine x_iload rfl rfl ?_
          refine x_iload rfl rfl ?_
          refine x_iconstN (q := 1) rfl ?_
          refine x_icmpN_ne rfl (fun c102 => ?_) (fun c102 => ?_)
          · exact absurd c102 (by first | decide | omega)
          refine x_iload rfl rfl ?_
          refine x_goto rfl ?_
          refine x_iasN (j := s.length) rfl rfl (rfl) (by omega) ?_
          refine x_iincN (q := 1) (ls' := [_, _, _, _, _, _, _, _, _, _]) rfl rfl rfl rfl ?_
          refine x_goto rfl ?_
          refine x_iincN (q := 2) (ls' := [_, _, _, _, _, _, _, _, _, _]) rfl rfl rfl rfl ?_
          refine x_goto rfl ?_
          exact ih (i + 2) ((cd (i + 1) : Int) :: s) _ _ _ _ hg2 (by omega) (by omega) (by omega) (by simp only [List.length_cons]; omega) (fun _ => (hB.mono (by omega)).cons (by omega) (by omega)) ⟨up_at.trans oI_nat, hS.up (Nat.le_refl _)⟩ hF.up hP
      by_cases c2 : cd i = 2
      · rw [vm_word cx c2] at hP
        by_cases cl : 64 ≤ s.length
        · rw [if_pos (Or.inl cl)] at hP
          refine x_iload rfl rfl ?_
          refine x_iconstN (q := 1) rfl ?_
          refine x_iaddN rfl ?_
          refine x_aload rfl rfl ?_
          refine x_alen0 rfl hcl ?_
          refine x_icmpN_ge rfl (fun c26 => ?_) (fun c26 => ?_)
          · exact absurd c26 (by first | decide | omega)
          refine x_aload rfl rfl ?_
          refine x_iload rfl rfl ?_
          refine x_ialE (j := i) rfl (hcl) (hn := hLn) (rfl) (by omega) (hcd i (by omega)) ?_
          refine x_ifN_eq rfl (fun c34 => ?_) (fun c34 => ?_)
          · exact absurd c34 (by first | decide | omega)
          refine x_aload rfl rfl ?_
          refine x_iload rfl rfl ?_
          refine x_ialE (j := i) rfl (hcl) (hn := hLn) (rfl) (by omega) (hcd i (by omega)) ?_
          refine x_istore (ls' := [_, _, _, _, _, _, _, _, _, _]) rfl rfl rfl ?_
          refine x_aload rfl rfl ?_
          refine x_iload rfl rfl ?_
          refine x_iconstN (q := 1) rfl ?_
          refine x_iaddN rfl ?_
          refine x_ialE (j := i + 1) rfl (hcl) (hn := hLn) (rfl) (by omega) (hcd (i + 1) (by omega)) ?_
          refine x_istore (ls' := [_, _, _, _, _, _, _, _, _, _]) rfl rfl rfl ?_
          refine x_iload rfl rfl ?_
          refine x_iconstN (q := 1) rfl ?_
          refine x_icmpN_eq rfl (fun c56 => ?_) (fun c56 => ?_)
          · exact absurd c56 (by first | decide | omega)
          refine x_iload rfl rfl ?_
          refine x_iconstN (q := 2) rfl ?_
          refine x_icmpN_ne rfl (fun c62 => ?_) (fun c62 => ?_)
          · exact absurd c62 (by first | decide | omega)
          refine x_iload rfl rfl ?_
          refine x_bipushN (q := 64) rfl ?_
          refine x_icmpN_ge rfl (fun c69 => ?_) (fun c69 => ?_)
          rotate_left
          · exact absurd c69 (by first | decide | omega)
          refine x_ldc rfl ?_
          refine x_iret rfl rfl ?_
          exact hP V hF
        by_cases cw : nw ≤ cd (i + 1)
        · rw [if_pos (Or.inr cw)] at hP
          refine x_iload rfl rfl ?_
          refine x_iconstN (q := 1) rfl ?_
          refine x_iaddN rfl ?_
          refine x_aload rfl rfl ?_
          refine x_alen0 rfl hcl ?_
          refine x_icmpN_ge rfl (fun c26 => ?_) (fun c26 => ?_)
          · exact absurd c26 (by first | decide | omega)
          refine x_aload rfl rfl ?_
          refine x_iload rfl rfl ?_
          refine x_ialE (j := i) rfl (hcl) (hn := hLn) (rfl) (by omega) (hcd i (by omega)) ?_
          refine x_ifN_eq rfl (fun c34 => ?_) (fun c34 => ?_)
          · exact absurd c34 (by first | decide | omega)
          refine x_aload rfl rfl ?_
          refine x_iload rfl rfl ?_
          refine x_ialE (j := i) rfl (hcl) (hn := hLn) (rfl) (by omega) (hcd i (by omega)) ?_
          refine x_istore (ls' := [_, _, _, _, _, _, _, _, _, _]) rfl rfl rfl ?_
          refine x_aload rfl rfl ?_
          refine x_iload rfl rfl ?_
          refine x_iconstN (q := 1) rfl ?_
          refine x_iaddN rfl ?_
          refine x_ialE (j := i + 1) rfl (hcl) (hn := hLn) (rfl) (by omega) (hcd (i + 1) (by omega)) ?_
          refine x_istore (ls' := [_, _, _, _, _, _, _, _, _, _]) rfl rfl rfl ?_
          refine x_iload rfl rfl ?_
          refine x_iconstN (q := 1) rfl ?_
          refine x_icmpN_eq rfl (fun c56 => ?_) (fun c56 => ?_)
          · exact absurd c56 (by first | decide | omega)
          refine x_iload rfl rfl ?_
          refine x_iconstN (q := 2) rfl ?_
          refine x_icmpN_ne rfl (fun c62 => ?_) (fun c62 => ?_)
          · exact absurd c62 (by first | decide | omega)
          refine x_iload rfl rfl ?_
          refine x_bipushN (q := 64) rfl ?_
          refine x_icmpN_ge rfl (fun c69 => ?_) (fun c69 => ?_)
          · exact absurd c69 (by first | decide | omega)
          refine x_iload rfl rfl ?_
          refine x_ifN_lt rfl ?_
          refine x_iload rfl rfl ?_
          refine x_iconstN (q := 2) rfl ?_
          refine x_icmpN_ne rfl (fun c80 => ?_) (fun c80 => ?_)
          · exact absurd c80 (by first | decide | omega)
          refine x_iload rfl rfl ?_
          refine x_aload_n rfl rfl ?_
          refine x_alen0 rfl hwl ?_
          refine x_icmpN_lt rfl (fun c87 => ?_) (fun c87 => ?_)
          · exact absurd c87 (by first | decide | omega)
          refine x_ldc rfl ?_
          refine x_iret rfl rfl ?_
          exact hP V hF
        · rw [if_neg (by omega)] at hP
          have hw := hwd (cd (i + 1)) (by omega)
          have hwv : V wa (cd (i + 1)) = Int32.ofInt (e (cd (i + 1))) := (hF wa _ hw2).trans hw.1
          refine x_iload rfl rfl ?_
          refine x_iconstN (q := 1) rfl ?_
          refine x_iaddN rfl ?_
          refine x_aload rfl rfl ?_
          refine x_alen0 rfl hcl ?_
          refine x_icmpN_ge rfl (fun c26 => ?_) (fun c26 => ?_)
          · exact absurd c26 (by first | decide | omega)
          refine x_aload rfl rfl ?_
          refine x_iload rfl rfl ?_
          refine x_ialE (j := i) rfl (hcl) (hn := hLn) (rfl) (by omega) (hcd i (by omega)) ?_
          refine x_ifN_eq rfl (fun c34 => ?_) (fun c34 => ?_)
          · exact absurd c34 (by first | decide | omega)
          refine x_aload rfl rfl ?_
          refine x_iload rfl rfl ?_
          refine x_ialE (j := i) rfl (hcl) (hn := hLn) (rfl) (by omega) (hcd i (by omega)) ?_
          refine x_istore (ls' := [_, _, _, _, _, _, _, _, _, _]) rfl rfl rfl ?_
          refine x_aload rfl rfl ?_
          refine x_iload rfl rfl ?_
          refine x_iconstN (q := 1) rfl ?_
          refine x_iaddN rfl ?_
          refine x_ialE (j := i + 1) rfl (hcl) (hn := hLn) (rfl) (by omega) (hcd (i + 1) (by omega)) ?_
          refine x_istore (ls' := [_, _, _, _, _, _, _, _, _, _]) rfl rfl rfl ?_
          refine x_iload rfl rfl ?_
          refine x_iconstN (q := 1) rfl ?_
          refine x_icmpN_eq rfl (fun c56 => ?_) (fun c56 => ?_)
          · exact absurd c56 (by first | decide | omega)
          refine x_iload rfl rfl ?_
          refine x_iconstN (q := 2) rfl ?_
          refine x_icmpN_ne rfl (fun c62 => ?_) (fun c62 => ?_)
          · exact absurd c62 (by first | decide | omega)
          refine x_iload rfl rfl ?_
          refine x_bipushN (q := 64) rfl ?_
          refine x_icmpN_ge rfl (fun c69 => ?_) (fun c69 => ?_)
          · exact absurd c69 (by first | decide | omega)
          refine x_iload rfl rfl ?_
          refine x_ifN_lt rfl ?_
          refine x_iload rfl rfl ?_
          refine x_iconstN (q := 2) rfl ?_
          refine x_icmpN_ne rfl (fun c80 => ?_) (fun c80 => ?_)
          · exact absurd c80 (by first | decide | omega)
          refine x_iload rfl rfl ?_
          refine x_aload_n rfl rfl ?_
          refine x_alen0 rfl hwl ?_
          refine x_icmpN_lt rfl (fun c87 => ?_) (fun c87 => ?_)
          rotate_left
          · exact absurd c87 (by first | decide | omega)
          refine x_aload_n rfl rfl ?_
          refine x_getR (u := .ref _) rfl rfl rfl rfl ?_
          refine x_iload rfl rfl ?_
          refine x_iload rfl rfl ?_
          refine x_iconstN (q := 1) rfl ?_
          refine x_icmpN_ne rfl (fun c102 => ?_) (fun c102 => ?_)
          rotate_left
          · exact absurd c102 (by first | decide | omega)
          refine x_aload_n rfl rfl ?_
          refine x_iload rfl rfl ?_
          refine x_ialE (j := cd (i + 1)) rfl hwl (hn := hWn) (rfl) (by omega) (hwv) ?_
          refine x_iasN (j := s.length) rfl rfl (rfl) (by omega) ?_
          refine x_iincN (q := 1) (ls' := [_, _, _, _, _, _, _, _, _, _]) rfl rfl rfl rfl ?_
          refine x_goto rfl ?_
          refine x_iincN (q := 2) (ls' := [_, _, _, _, _, _, _, _, _, _]) rfl rfl rfl rfl ?_
          refine x_goto rfl ?_
          exact ih (i + 2) (e (cd (i + 1)) :: s) _ _ _ _ hg2 (by omega) (by omega) (by omega) (by simp only [List.length_cons]; omega) (fun _ => (hB.mono (by omega)).cons (by omega) (by omega)) ⟨up_at, hS.up (Nat.le_refl _)⟩ hF.up hP
      cases s with
      | nil =>
        rw [vm_nil cx c1 c2] at hP
        simp only [List.length_nil]
        refine x_iload rfl rfl ?_
        refine x_iconstN (q := 1) rfl ?_
        refine x_iaddN rfl ?_
        refine x_aload rfl rfl ?_
        refine x_alen0 rfl hcl ?_
        refine x_icmpN_ge rfl (fun c26 => ?_) (fun c26 => ?_)
        · exact absurd c26 (by first | decide | omega)
        refine x_aload rfl rfl ?_
        refine x_iload rfl rfl ?_
        refine x_ialE (j := i) rfl (hcl) (hn := hLn) (rfl) (by omega) (hcd i (by omega)) ?_
        refine x_ifN_eq rfl (fun c34 => ?_) (fun c34 => ?_)
        · exact absurd c34 (by first | decide | omega)
        refine x_aload rfl rfl ?_
        refine x_iload rfl rfl ?_
        refine x_ialE (j := i) rfl (hcl) (hn := hLn) (rfl) (by omega) (hcd i (by omega)) ?_
        refine x_istore (ls' := [_, _, _, _, _, _, _, _, _, _]) rfl rfl rfl ?_
        refine x_aload rfl rfl ?_
        refine x_iload rfl rfl ?_
        refine x_iconstN (q := 1) rfl ?_
        refine x_iaddN rfl ?_
        refine x_ialE (j := i + 1) rfl (hcl) (hn := hLn) (rfl) (by omega) (hcd (i + 1) (by omega)) ?_
        refine x_istore (ls' := [_, _, _, _, _, _, _, _, _, _]) rfl rfl rfl ?_
        refine x_iload rfl rfl ?_
        refine x_iconstN (q := 1) rfl ?_
        refine x_icmpN_eq rfl (fun c56 => ?_) (fun c56 => ?_)
        · exact absurd c56 (by first | decide | omega)
        refine x_iload rfl rfl ?_
        refine x_iconstN (q := 2) rfl ?_
        refine x_icmpN_ne rfl (fun c62 => ?_) (fun c62 => ?_)
        rotate_left
        · exact absurd c62 (by first | decide | omega)
        refine x_iload rfl rfl ?_
        refine x_iconstN (q := 1) rfl ?_
        refine x_icmpN_ge rfl (fun c124 => ?_) (fun c124 => ?_)
        · exact absurd c124 (by first | decide | omega)
        refine x_ldc rfl ?_
        refine x_iret rfl rfl ?_
        exact hP V hF | cons a s1 =>
        have hsl' : s1.length + 1 ≤ 64 := hsl
        have ha := hB.head
        have hv := hS.1
        simp only [List.length_cons]
        by_cases c3 : cd i = 3
        · rw [vm_not cx c3] at hP
          have e1 : (1 : Int32) - Int32.ofInt a = Int32.ofInt (1 - a) := by
            rw [← Int32.toInt_inj, Int32.toInt_sub, oI_toInt (by omega) (by omega), oI_toInt (by omega) (by omega), show (1 : Int32).toInt = 1 from rfl, Int.bmod_eq_of_le (by omega) (by omega)]
          refine x_iload rfl rfl ?_
          refine x_iconstN (q := 1) rfl ?_
          refine x_iaddN rfl ?_
          refine x_aload rfl rfl ?_
          refine x_alen0 rfl hcl ?_
          refine x_icmpN_ge rfl (fun c26 => ?_) (fun c26 => ?_)
          · exact absurd c26 (by first | decide | omega)
          refine x_aload rfl rfl ?_
          refine x_iload rfl rfl ?_
          refine x_ialE (j := i) rfl (hcl) (hn := hLn) (rfl) (by omega) (hcd i (by omega)) ?_
          refine x_ifN_eq rfl (fun c34 => ?_) (fun c34 => ?_)
          · exact absurd c34 (by first | decide | omega)
          refine x_aload rfl rfl ?_
          refine x_iload rfl rfl ?_
          refine x_ialE (j := i) rfl (hcl) (hn := hLn) (rfl) (by omega) (hcd i (by omega)) ?_
          refine x_istore (ls' := [_, _, _, _, _, _, _, _, _, _]) rfl rfl rfl ?_
          refine x_aload rfl rfl ?_
          refine x_iload rfl rfl ?_
          refine x_iconstN (q := 1) rfl ?_
          refine x_iaddN rfl ?_
          refine x_ialE (j := i + 1) rfl (hcl) (hn := hLn) (rfl) (by omega) (hcd (i + 1) (by omega)) ?_
          refine x_istore (ls' := [_, _, _, _, _, _, _, _, _, _]) rfl rfl rfl ?_
          refine x_iload rfl rfl ?_
          refine x_iconstN (q := 1) rfl ?_
          refine x_icmpN_eq rfl (fun c56 => ?_) (fun c56 => ?_)
          · exact absurd c56 (by first | decide | omega)
          refine x_iload rfl rfl ?_
          refine x_iconstN (q := 2) rfl ?_
          refine x_icmpN_ne rfl (fun c62 => ?_) (fun c62 => ?_)
          rotate_left
          · exact absurd c62 (by first | decide | omega)
          refine x_iload rfl rfl ?_
          refine x_iconstN (q := 1) rfl ?_
          refine x_icmpN_ge rfl (fun c124 => ?_) (fun c124 => ?_)
          rotate_left
          · exact absurd c124 (by first | decide | omega)
          refine x_iload rfl rfl ?_
          refine x_iconstN (q := 3) rfl ?_
          refine x_icmpN_ne rfl (fun c133 => ?_) (fun c133 => ?_)
          · exact absurd c133 (by first | decide | omega)
          refine x_aload_n rfl rfl ?_
          refine x_getR (u := .ref _) rfl rfl rfl rfl ?_
          refine x_iload rfl rfl ?_
          refine x_iconstN (q := 1) rfl ?_
          refine x_isubN rfl ?_
          refine x_iconst rfl ?_
          refine x_aload_n rfl rfl ?_
          refine x_getR (u := .ref _) rfl rfl rfl rfl ?_
          refine x_iload rfl rfl ?_
          refine x_iconstN (q := 1) rfl ?_
          refine x_isubN rfl ?_
          refine x_ialE (j := s1.length) rfl rfl (rfl) (by omega) (hv) ?_
          refine x_isub rfl ?_
          rw [e1]
          refine x_iasN (j := s1.length) rfl rfl (rfl) (by omega) ?_
          refine x_goto rfl ?_
          refine x_iincN (q := 2) (ls' := [_, _, _, _, _, _, _, _, _, _]) rfl rfl rfl rfl ?_
          refine x_goto rfl ?_
          exact ih (i + 2) ((1 - a) :: s1) _ _ _ _ hg2 (by omega) (by omega) (by omega) (by simp only [List.length_cons]; omega) (fun _ => (hB.tail.mono (by omega)).cons (by omega) (by omega)) ⟨up_at, hS.2.up (Nat.le_refl _)⟩ hF.up hP
        by_cases c4 : cd i = 4
        · rw [vm_and cx c4] at hP
          by_cases az : a = 0
          · rw [if_pos az] at hP
            subst az
            refine x_iload rfl rfl ?_
            refine x_iconstN (q := 1) rfl ?_
            refine x_iaddN rfl ?_
            refine x_aload rfl rfl ?_
            refine x_alen0 rfl hcl ?_
            refine x_icmpN_ge rfl (fun c26 => ?_) (fun c26 => ?_)
            · exact absurd c26 (by first | decide | omega)
            refine x_aload rfl rfl ?_
            refine x_iload rfl rfl ?_
            refine x_ialE (j := i) rfl (hcl) (hn := hLn) (rfl) (by omega) (hcd i (by omega)) ?_
            refine x_ifN_eq rfl (fun c34 => ?_) (fun c34 => ?_)
            · exact absurd c34 (by first | decide | omega)
            refine x_aload rfl rfl ?_
            refine x_iload rfl rfl ?_
            refine x_ialE (j := i) rfl (hcl) (hn := hLn) (rfl) (by omega) (hcd i (by omega)) ?_
            refine x_istore (ls' := [_, _, _, _, _, _, _, _, _, _]) rfl rfl rfl ?_
            refine x_aload rfl rfl ?_
            refine x_iload rfl rfl ?_
            refine x_iconstN (q := 1) rfl ?_
            refine x_iaddN rfl ?_
            refine x_ialE (j := i + 1) rfl (hcl) (hn := hLn) (rfl) (by omega) (hcd (i + 1) (by omega)) ?_
            refine x_istore (ls' := [_, _, _, _, _, _, _, _, _, _]) rfl rfl rfl ?_
            refine x_iload rfl rfl ?_
            refine x_iconstN (q := 1) rfl ?_
            refine x_icmpN_eq rfl (fun c56 => ?_) (fun c56 => ?_)
            · exact absurd c56 (by first | decide | omega)
            refine x_iload rfl rfl ?_
            refine x_iconstN (q := 2) rfl ?_
            refine x_icmpN_ne rfl (fun c62 => ?_) (fun c62 => ?_)
            rotate_left
            · exact absurd c62 (by first | decide | omega)
            refine x_iload rfl rfl ?_
            refine x_iconstN (q := 1) rfl ?_
            refine x_icmpN_ge rfl (fun c124 => ?_) (fun c124 => ?_)
            rotate_left
            · exact absurd c124 (by first | decide | omega)
            refine x_iload rfl rfl ?_
            refine x_iconstN (q := 3) rfl ?_
            refine x_icmpN_ne rfl (fun c133 => ?_) (fun c133 => ?_)
            rotate_left
            · exact absurd c133 (by first | decide | omega)
            refine x_iload rfl rfl ?_
            refine x_iconstN (q := 4) rfl ?_
            refine x_icmpN_eq rfl (fun c162 => ?_) (fun c162 => ?_)
            rotate_left
            · exact absurd c162 (by first | decide | omega)
            refine x_aload_n rfl rfl ?_
            refine x_getR (u := .ref _) rfl rfl rfl rfl ?_
            refine x_iload rfl rfl ?_
            refine x_iconstN (q := 1) rfl ?_
            refine x_isubN rfl ?_
            refine x_ialE (j := s1.length) rfl rfl (rfl) (by omega) (hv) ?_
            refine x_if_ne rfl (fun c180 => ?_) (fun c180 => ?_)
            · exact absurd rfl c180
            refine x_iconstN (q := 1) rfl ?_
            refine x_goto rfl ?_
            refine x_iload rfl rfl ?_
            refine x_iconstN (q := 4) rfl ?_
            refine x_icmpN_ne rfl (fun c191 => ?_) (fun c191 => ?_)
            · exact absurd c191 (by first | decide | omega)
            refine x_iconstN (q := 1) rfl ?_
            refine x_goto rfl ?_
            refine x_icmpN_ne rfl (fun c199 => ?_) (fun c199 => ?_)
            · exact absurd c199 (by first | decide | omega)
            refine x_iconstN (q := 1) rfl ?_
            refine x_goto rfl ?_
            refine x_istore (ls' := [_, _, _, _, _, _, _, _, _, _]) rfl rfl rfl ?_
            refine x_iload rfl rfl ?_
            refine x_ifN_eq rfl (fun c211 => ?_) (fun c211 => ?_)
            · exact absurd c211 (by first | decide | omega)
            refine x_iload rfl rfl ?_
            refine x_iload rfl rfl ?_
            refine x_iconst rfl ?_
            refine x_isub rfl ?_
            refine x_max rfl rfl ?_
            rw [max_nI (by omega) (by omega)]
            refine x_istore (ls' := [_, _, _, _, _, _, _, _, _, _]) rfl rfl rfl ?_
            refine x_goto rfl ?_
            refine x_goto rfl ?_
            refine x_iincN (q := 2) (ls' := [_, _, _, _, _, _, _, _, _, _]) rfl rfl rfl rfl ?_
            refine x_goto rfl ?_
            exact ih (max i (cd (i + 1) - 2) + 2) (0 :: s1) V _ _ _ (hgj (by omega)) (by omega) (by omega) (by omega) hsl (fun _ => hB.mono (by omega)) hS hF hP
          · rw [if_neg az] at hP
            have hne : ¬ Int32.ofInt a = 0 := fun z => az ((oI_eq0 (by omega) (by omega)).mp z)
            refine x_iload rfl rfl ?_
            refine x_iconstN (q := 1) rfl ?_
            refine x_iaddN rfl ?_
            refine x_aload rfl rfl ?_
            refine x_alen0 rfl hcl ?_
            refine x_icmpN_ge rfl (fun c26 => ?_) (fun c26 => ?_)
            · exact absurd c26 (by first | decide | omega)
            refine x_aload rfl rfl ?_
            refine x_iload rfl rfl ?_
            refine x_ialE (j := i) rfl (hcl) (hn := hLn) (rfl) (by omega) (hcd i (by omega)) ?_
            refine x_ifN_eq rfl (fun c34 => ?_) (fun c34 => ?_)
            · exact absurd c34 (by first | decide | omega)
            refine x_aload rfl rfl ?_
            refine x_iload rfl rfl ?_
            refine x_ialE (j := i) rfl (hcl) (hn := hLn) (rfl) (by omega) (hcd i (by omega)) ?_
            refine x_istore (ls' := [_, _, _, _, _, _, _, _, _, _]) rfl rfl rfl ?_
            refine x_aload rfl rfl ?_
            refine x_iload rfl rfl ?_
            refine x_iconstN (q := 1) rfl ?_
            refine x_iaddN rfl ?_
            refine x_ialE (j := i + 1) rfl (hcl) (hn := hLn) (rfl) (by omega) (hcd (i + 1) (by omega)) ?_
            refine x_istore (ls' := [_, _, _, _, _, _, _, _, _, _]) rfl rfl rfl ?_
            refine x_iload rfl rfl ?_
            refine x_iconstN (q := 1) rfl ?_
            refine x_icmpN_eq rfl (fun c56 => ?_) (fun c56 => ?_)
            · exact absurd c56 (by first | decide | omega)
            refine x_iload rfl rfl ?_
            refine x_iconstN (q := 2) rfl ?_
            refine x_icmpN_ne rfl (fun c62 => ?_) (fun c62 => ?_)
            rotate_left
            · exact absurd c62 (by first | decide | omega)
            refine x_iload rfl rfl ?_
            refine x_iconstN (q := 1) rfl ?_
            refine x_icmpN_ge rfl (fun c124 => ?_) (fun c124 => ?_)
            rotate_left
            · exact absurd c124 (by first | decide | omega)
            refine x_iload rfl rfl ?_
            refine x_iconstN (q := 3) rfl ?_
            refine x_icmpN_ne rfl (fun c133 => ?_) (fun c133 => ?_)
            rotate_left
            · exact absurd c133 (by first | decide | omega)
            refine x_iload rfl rfl ?_
            refine x_iconstN (q := 4) rfl ?_
            refine x_icmpN_eq rfl (fun c162 => ?_) (fun c162 => ?_)
            rotate_left
            · exact absurd c162 (by first | decide | omega)
            refine x_aload_n rfl rfl ?_
            refine x_getR (u := .ref _) rfl rfl rfl rfl ?_
            refine x_iload rfl rfl ?_
            refine x_iconstN (q := 1) rfl ?_
            refine x_isubN rfl ?_
            refine x_ialE (j := s1.length) rfl rfl (rfl) (by omega) (hv) ?_
            refine x_if_ne rfl (fun c180 => ?_) (fun c180 => ?_)
            rotate_left
            · exact absurd c180 hne
            refine x_iconstN (q := 0) rfl ?_
            refine x_iload rfl rfl ?_
            refine x_iconstN (q := 4) rfl ?_
            refine x_icmpN_ne rfl (fun c191 => ?_) (fun c191 => ?_)
            · exact absurd c191 (by first | decide | omega)
            refine x_iconstN (q := 1) rfl ?_
            refine x_goto rfl ?_
            refine x_icmpN_ne rfl (fun c199 => ?_) (fun c199 => ?_)
            rotate_left
            · exact absurd c199 (by first | decide | omega)
            refine x_iconstN (q := 0) rfl ?_
            refine x_istore (ls' := [_, _, _, _, _, _, _, _, _, _]) rfl rfl rfl ?_
            refine x_iload rfl rfl ?_
            refine x_ifN_eq rfl (fun c211 => ?_) (fun c211 => ?_)
            rotate_left
            · exact absurd c211 (by first | decide | omega)
            skip
            refine x_iincD (q := s1.length) (ls' := [_, _, _, _, _, _, _, _, _, _]) rfl rfl rfl rfl ?_
            refine x_goto rfl ?_
            refine x_iincN (q := 2) (ls' := [_, _, _, _, _, _, _, _, _, _]) rfl rfl rfl rfl ?_
            refine x_goto rfl ?_
            exact ih (i + 2) s1 V _ _ _ hg2 (by omega) (by omega) (by omega) (by omega) (fun _ => hB.tail.mono (by omega)) hS.2 hF hP
        by_cases c5 : cd i = 5
        · rw [vm_or cx c5] at hP
          by_cases az : a = 0
          · rw [if_pos az] at hP
            subst az
            refine x_iload rfl rfl ?_
            refine x_iconstN (q := 1) rfl ?_
            refine x_iaddN rfl ?_
            refine x_aload rfl rfl ?_
            refine x_alen0 rfl hcl ?_
            refine x_icmpN_ge rfl (fun c26 => ?_) (fun c26 => ?_)
            · exact absurd c26 (by first | decide | omega)
            refine x_aload rfl rfl ?_
            refine x_iload rfl rfl ?_
            refine x_ialE (j := i) rfl (hcl) (hn := hLn) (rfl) (by omega) (hcd i (by omega)) ?_
            refine x_ifN_eq rfl (fun c34 => ?_) (fun c34 => ?_)
            · exact absurd c34 (by first | decide | omega)
            refine x_aload rfl rfl ?_
            refine x_iload rfl rfl ?_
            refine x_ialE (j := i) rfl (hcl) (hn := hLn) (rfl) (by omega) (hcd i (by omega)) ?_
            refine x_istore (ls' := [_, _, _, _, _, _, _, _, _, _]) rfl rfl rfl ?_
            refine x_aload rfl rfl ?_
            refine x_iload rfl rfl ?_
            refine x_iconstN (q := 1) rfl ?_
            refine x_iaddN rfl ?_
            refine x_ialE (j := i + 1) rfl (hcl) (hn := hLn) (rfl) (by omega) (hcd (i + 1) (by omega)) ?_
            refine x_istore (ls' := [_, _, _, _, _, _, _, _, _, _]) rfl rfl rfl ?_
            refine x_iload rfl rfl ?_
            refine x_iconstN (q := 1) rfl ?_
            refine x_icmpN_eq rfl (fun c56 => ?_) (fun c56 => ?_)
            · exact absurd c56 (by first | decide | omega)
            refine x_iload rfl rfl ?_
            refine x_iconstN (q := 2) rfl ?_
            refine x_icmpN_ne rfl (fun c62 => ?_) (fun c62 => ?_)
            rotate_left
            · exact absurd c62 (by first | decide | omega)
            refine x_iload rfl rfl ?_
            refine x_iconstN (q := 1) rfl ?_
            refine x_icmpN_ge rfl (fun c124 => ?_) (fun c124 => ?_)
            rotate_left
            · exact absurd c124 (by first | decide | omega)
            refine x_iload rfl rfl ?_
            refine x_iconstN (q := 3) rfl ?_
            refine x_icmpN_ne rfl (fun c133 => ?_) (fun c133 => ?_)
            rotate_left
            · exact absurd c133 (by first | decide | omega)
            refine x_iload rfl rfl ?_
            refine x_iconstN (q := 4) rfl ?_
            refine x_icmpN_eq rfl (fun c162 => ?_) (fun c162 => ?_)
            · exact absurd c162 (by first | decide | omega)
            refine x_iload rfl rfl ?_
            refine x_iconstN (q := 5) rfl ?_
            refine x_icmpN_ne rfl (fun c168 => ?_) (fun c168 => ?_)
            · exact absurd c168 (by first | decide | omega)
            refine x_aload_n rfl rfl ?_
            refine x_getR (u := .ref _) rfl rfl rfl rfl ?_
            refine x_iload rfl rfl ?_
            refine x_iconstN (q := 1) rfl ?_
            refine x_isubN rfl ?_
            refine x_ialE (j := s1.length) rfl rfl (rfl) (by omega) (hv) ?_
            refine x_if_ne rfl (fun c180 => ?_) (fun c180 => ?_)
            · exact absurd rfl c180
            refine x_iconstN (q := 1) rfl ?_
            refine x_goto rfl ?_
            refine x_iload rfl rfl ?_
            refine x_iconstN (q := 4) rfl ?_
            refine x_icmpN_ne rfl (fun c191 => ?_) (fun c191 => ?_)
            rotate_left
            · exact absurd c191 (by first | decide | omega)
            refine x_iconstN (q := 0) rfl ?_
            refine x_icmpN_ne rfl (fun c199 => ?_) (fun c199 => ?_)
            rotate_left
            · exact absurd c199 (by first | decide | omega)
            refine x_iconstN (q := 0) rfl ?_
            refine x_istore (ls' := [_, _, _, _, _, _, _, _, _, _]) rfl rfl rfl ?_
            refine x_iload rfl rfl ?_
            refine x_ifN_eq rfl (fun c211 => ?_) (fun c211 => ?_)
            rotate_left
            · exact absurd c211 (by first | decide | omega)
            skip
            refine x_iincD (q := s1.length) (ls' := [_, _, _, _, _, _, _, _, _, _]) rfl rfl rfl rfl ?_
            refine x_goto rfl ?_
            refine x_iincN (q := 2) (ls' := [_, _, _, _, _, _, _, _, _, _]) rfl rfl rfl rfl ?_
            refine x_goto rfl ?_
            exact ih (i + 2) s1 V _ _ _ hg2 (by omega) (by omega) (by omega) (by omega) (fun _ => hB.tail.mono (by omega)) hS.2 hF hP
          · rw [if_neg az] at hP
            have hne : ¬ Int32.ofInt a = 0 := fun z => az ((oI_eq0 (by omega) (by omega)).mp z)
            refine x_iload rfl rfl ?_
            refine x_iconstN (q := 1) rfl ?_
            refine x_iaddN rfl ?_
            refine x_aload rfl rfl ?_
            refine x_alen0 rfl hcl ?_
            refine x_icmpN_ge rfl (fun c26 => ?_) (fun c26 => ?_)
            · exact absurd c26 (by first | decide | omega)
            refine x_aload rfl rfl ?_
            refine x_iload rfl rfl ?_
            refine x_ialE (j := i) rfl (hcl) (hn := hLn) (rfl) (by omega) (hcd i (by omega)) ?_
            refine x_ifN_eq rfl (fun c34 => ?_) (fun c34 => ?_)
            · exact absurd c34 (by first | decide | omega)
            refine x_aload rfl rfl ?_
            refine x_iload rfl rfl ?_
            refine x_ialE (j := i) rfl (hcl) (hn := hLn) (rfl) (by omega) (hcd i (by omega)) ?_
            refine x_istore (ls' := [_, _, _, _, _, _, _, _, _, _]) rfl rfl rfl ?_
            refine x_aload rfl rfl ?_
            refine x_iload rfl rfl ?_
            refine x_iconstN (q := 1) rfl ?_
            refine x_iaddN rfl ?_
            refine x_ialE (j := i + 1) rfl (hcl) (hn := hLn) (rfl) (by omega) (hcd (i + 1) (by omega)) ?_
            refine x_istore (ls' := [_, _, _, _, _, _, _, _, _, _]) rfl rfl rfl ?_
            refine x_iload rfl rfl ?_
            refine x_iconstN (q := 1) rfl ?_
            refine x_icmpN_eq rfl (fun c56 => ?_) (fun c56 => ?_)
            · exact absurd c56 (by first | decide | omega)
            refine x_iload rfl rfl ?_
            refine x_iconstN (q := 2) rfl ?_
            refine x_icmpN_ne rfl (fun c62 => ?_) (fun c62 => ?_)
            rotate_left
            · exact absurd c62 (by first | decide | omega)
            refine x_iload rfl rfl ?_
            refine x_iconstN (q := 1) rfl ?_
            refine x_icmpN_ge rfl (fun c124 => ?_) (fun c124 => ?_)
            rotate_left
            · exact absurd c124 (by first | decide | omega)
            refine x_iload rfl rfl ?_
            refine x_iconstN (q := 3) rfl ?_
            refine x_icmpN_ne rfl (fun c133 => ?_) (fun c133 => ?_)
            rotate_left
            · exact absurd c133 (by first | decide | omega)
            refine x_iload rfl rfl ?_
            refine x_iconstN (q := 4) rfl ?_
            refine x_icmpN_eq rfl (fun c162 => ?_) (fun c162 => ?_)
            · exact absurd c162 (by first | decide | omega)
            refine x_iload rfl rfl ?_
            refine x_iconstN (q := 5) rfl ?_
            refine x_icmpN_ne rfl (fun c168 => ?_) (fun c168 => ?_)
            · exact absurd c168 (by first | decide | omega)
            refine x_aload_n rfl rfl ?_
            refine x_getR (u := .ref _) rfl rfl rfl rfl ?_
            refine x_iload rfl rfl ?_
            refine x_iconstN (q := 1) rfl ?_
            refine x_isubN rfl ?_
            refine x_ialE (j := s1.length) rfl rfl (rfl) (by omega) (hv) ?_
            refine x_if_ne rfl (fun c180 => ?_) (fun c180 => ?_)
            rotate_left
            · exact absurd c180 hne
            refine x_iconstN (q := 0) rfl ?_
            refine x_iload rfl rfl ?_
            refine x_iconstN (q := 4) rfl ?_
            refine x_icmpN_ne rfl (fun c191 => ?_) (fun c191 => ?_)
            rotate_left
            · exact absurd c191 (by first | decide | omega)
            refine x_iconstN (q := 0) rfl ?_
            refine x_icmpN_ne rfl (fun c199 => ?_) (fun c199 => ?_)
            · exact absurd c199 (by first | decide | omega)
            refine x_iconstN (q := 1) rfl ?_
            refine x_goto rfl ?_
            refine x_istore (ls' := [_, _, _, _, _, _, _, _, _, _]) rfl rfl rfl ?_
            refine x_iload rfl rfl ?_
            refine x_ifN_eq rfl (fun c211 => ?_) (fun c211 => ?_)
            · exact absurd c211 (by first | decide | omega)
            refine x_iload rfl rfl ?_
            refine x_iload rfl rfl ?_
            refine x_iconst rfl ?_
            refine x_isub rfl ?_
            refine x_max rfl rfl ?_
            rw [max_nI (by omega) (by omega)]
            refine x_istore (ls' := [_, _, _, _, _, _, _, _, _, _]) rfl rfl rfl ?_
            refine x_goto rfl ?_
            refine x_goto rfl ?_
            refine x_iincN (q := 2) (ls' := [_, _, _, _, _, _, _, _, _, _]) rfl rfl rfl rfl ?_
            refine x_goto rfl ?_
            exact ih (max i (cd (i + 1) - 2) + 2) (a :: s1) V _ _ _ (hgj (by omega)) (by omega) (by omega) (by omega) hsl (fun _ => hB.mono (by omega)) hS hF hP
        cases s1 with
        | nil =>
          rw [vm_one cx c1 c2 c3 c4 c5] at hP
          simp only [List.length_nil, Nat.zero_add]
          refine x_iload rfl rfl ?_
          refine x_iconstN (q := 1) rfl ?_
          refine x_iaddN rfl ?_
          refine x_aload rfl rfl ?_
          refine x_alen0 rfl hcl ?_
          refine x_icmpN_ge rfl (fun c26 => ?_) (fun c26 => ?_)
          · exact absurd c26 (by first | decide | omega)
          refine x_aload rfl rfl ?_
          refine x_iload rfl rfl ?_
          refine x_ialE (j := i) rfl (hcl) (hn := hLn) (rfl) (by omega) (hcd i (by omega)) ?_
          refine x_ifN_eq rfl (fun c34 => ?_) (fun c34 => ?_)
          · exact absurd c34 (by first | decide | omega)
          refine x_aload rfl rfl ?_
          refine x_iload rfl rfl ?_
          refine x_ialE (j := i) rfl (hcl) (hn := hLn) (rfl) (by omega) (hcd i (by omega)) ?_
          refine x_istore (ls' := [_, _, _, _, _, _, _, _, _, _]) rfl rfl rfl ?_
          refine x_aload rfl rfl ?_
          refine x_iload rfl rfl ?_
          refine x_iconstN (q := 1) rfl ?_
          refine x_iaddN rfl ?_
          refine x_ialE (j := i + 1) rfl (hcl) (hn := hLn) (rfl) (by omega) (hcd (i + 1) (by omega)) ?_
          refine x_istore (ls' := [_, _, _, _, _, _, _, _, _, _]) rfl rfl rfl ?_
          refine x_iload rfl rfl ?_
          refine x_iconstN (q := 1) rfl ?_
          refine x_icmpN_eq rfl (fun c56 => ?_) (fun c56 => ?_)
          · exact absurd c56 (by first | decide | omega)
          refine x_iload rfl rfl ?_
          refine x_iconstN (q := 2) rfl ?_
          refine x_icmpN_ne rfl (fun c62 => ?_) (fun c62 => ?_)
          rotate_left
          · exact absurd c62 (by first | decide | omega)
          refine x_iload rfl rfl ?_
          refine x_iconstN (q := 1) rfl ?_
          refine x_icmpN_ge rfl (fun c124 => ?_) (fun c124 => ?_)
          rotate_left
          · exact absurd c124 (by first | decide | omega)
          refine x_iload rfl rfl ?_
          refine x_iconstN (q := 3) rfl ?_
          refine x_icmpN_ne rfl (fun c133 => ?_) (fun c133 => ?_)
          rotate_left
          · exact absurd c133 (by first | decide | omega)
          refine x_iload rfl rfl ?_
          refine x_iconstN (q := 4) rfl ?_
          refine x_icmpN_eq rfl (fun c162 => ?_) (fun c162 => ?_)
          · exact absurd c162 (by first | decide | omega)
          refine x_iload rfl rfl ?_
          refine x_iconstN (q := 5) rfl ?_
          refine x_icmpN_ne rfl (fun c168 => ?_) (fun c168 => ?_)
          rotate_left
          · exact absurd c168 (by first | decide | omega)
          refine x_iload rfl rfl ?_
          refine x_iconstN (q := 2) rfl ?_
          refine x_icmpN_ge rfl (fun c237 => ?_) (fun c237 => ?_)
          · exact absurd c237 (by first | decide | omega)
          refine x_ldc rfl ?_
          refine x_iret rfl rfl ?_
          exact hP V hF | cons q s2 =>
          rw [vm_jn cx c1 c2 c3 c4 c5] at hP
          have hsl2 : s2.length + 1 + 1 ≤ 64 := hsl'
          have hq := hB.tail.head
          have hv2 := hS.2.1
          have hv1 : V 2 (s2.length + 1) = Int32.ofInt a := hv
          have t1 : ((Int32.ofInt q).toInt64).toInt = q := by rw [Int32.toInt_toInt64, oI_toInt (by omega) (by omega)]
          have t2 : ((Int32.ofInt a).toInt64).toInt = a := by rw [Int32.toInt_toInt64, oI_toInt (by omega) (by omega)]
          simp only [List.length_cons]
          refine x_iload rfl rfl ?_
          refine x_iconstN (q := 1) rfl ?_
          refine x_iaddN rfl ?_
          refine x_aload rfl rfl ?_
          refine x_alen0 rfl hcl ?_
          refine x_icmpN_ge rfl (fun c26 => ?_) (fun c26 => ?_)
          · exact absurd c26 (by first | decide | omega)
          refine x_aload rfl rfl ?_
          refine x_iload rfl rfl ?_
          refine x_ialE (j := i) rfl (hcl) (hn := hLn) (rfl) (by omega) (hcd i (by omega)) ?_
          refine x_ifN_eq rfl (fun c34 => ?_) (fun c34 => ?_)
          · exact absurd c34 (by first | decide | omega)
          refine x_aload rfl rfl ?_
          refine x_iload rfl rfl ?_
          refine x_ialE (j := i) rfl (hcl) (hn := hLn) (rfl) (by omega) (hcd i (by omega)) ?_
          refine x_istore (ls' := [_, _, _, _, _, _, _, _, _, _]) rfl rfl rfl ?_
          refine x_aload rfl rfl ?_
          refine x_iload rfl rfl ?_
          refine x_iconstN (q := 1) rfl ?_
          refine x_iaddN rfl ?_
          refine x_ialE (j := i + 1) rfl (hcl) (hn := hLn) (rfl) (by omega) (hcd (i + 1) (by omega)) ?_
          refine x_istore (ls' := [_, _, _, _, _, _, _, _, _, _]) rfl rfl rfl ?_
          refine x_iload rfl rfl ?_
          refine x_iconstN (q := 1) rfl ?_
          refine x_icmpN_eq rfl (fun c56 => ?_) (fun c56 => ?_)
          · exact absurd c56 (by first | decide | omega)
          refine x_iload rfl rfl ?_
          refine x_iconstN (q := 2) rfl ?_
          refine x_icmpN_ne rfl (fun c62 => ?_) (fun c62 => ?_)
          rotate_left
          · exact absurd c62 (by first | decide | omega)
          refine x_iload rfl rfl ?_
          refine x_iconstN (q := 1) rfl ?_
          refine x_icmpN_ge rfl (fun c124 => ?_) (fun c124 => ?_)
          rotate_left
          · exact absurd c124 (by first | decide | omega)
          refine x_iload rfl rfl ?_
          refine x_iconstN (q := 3) rfl ?_
          refine x_icmpN_ne rfl (fun c133 => ?_) (fun c133 => ?_)
          rotate_left
          · exact absurd c133 (by first | decide | omega)
          refine x_iload rfl rfl ?_
          refine x_iconstN (q := 4) rfl ?_
          refine x_icmpN_eq rfl (fun c162 => ?_) (fun c162 => ?_)
          · exact absurd c162 (by first | decide | omega)
          refine x_iload rfl rfl ?_
          refine x_iconstN (q := 5) rfl ?_
          refine x_icmpN_ne rfl (fun c168 => ?_) (fun c168 => ?_)
          rotate_left
          · exact absurd c168 (by first | decide | omega)
          refine x_iload rfl rfl ?_
          refine x_iconstN (q := 2) rfl ?_
          refine x_icmpN_ge rfl (fun c237 => ?_) (fun c237 => ?_)
          rotate_left
          · exact absurd c237 (by first | decide | omega)
          skip
          refine x_iincD (q := s2.length + 1) (ls' := [_, _, _, _, _, _, _, _, _, _]) rfl rfl rfl rfl ?_
          refine x_aload_n rfl rfl ?_
          refine x_getR (u := .ref _) rfl rfl rfl rfl ?_
          refine x_iload rfl rfl ?_
          refine x_iconstN (q := 1) rfl ?_
          refine x_isubN rfl ?_
          refine x_iload rfl rfl ?_
          refine x_aload_n rfl rfl ?_
          refine x_getR (u := .ref _) rfl rfl rfl rfl ?_
          refine x_iload rfl rfl ?_
          refine x_iconstN (q := 1) rfl ?_
          refine x_isubN rfl ?_
          refine x_ialE (j := s2.length) rfl rfl (rfl) (by omega) (hv2) ?_
          refine x_i2l rfl ?_
          refine x_aload_n rfl rfl ?_
          refine x_getR (u := .ref _) rfl rfl rfl rfl ?_
          refine x_iload rfl rfl ?_
          refine x_ialE (j := s2.length + 1) rfl rfl (rfl) (by omega) (hv1) ?_
          refine x_i2l rfl ?_
          refine x_callS (M' := mi78) (As := [_, _, _]) (bc1 := 0) (bs1 := 0) (bc2 := 0) (bs2 := 0) rfl rfl rfl rfl ok78 rfl rfl rfl rfl rfl rfl ?_
          refine x_joined (by omega) (by rw [t1]; omega) (by rw [t2]; omega) ?_
          rw [t1, t2]
          refine x_iasN (j := s2.length) rfl rfl (rfl) (by omega) ?_
          refine x_aload_n rfl rfl ?_
          refine x_getR (u := .ref _) rfl rfl rfl rfl ?_
          refine x_iload rfl rfl ?_
          refine x_iconstN (q := 1) rfl ?_
          refine x_isubN rfl ?_
          refine x_ialE (j := s2.length) rfl rfl (rfl) (by omega) (up_at) ?_
          skip
          cases hj : jn (cd i) q a with
          | none =>
            rw [hj] at hP
            refine x_ldc rfl ?_
            refine x_icmp_ne rfl (fun c289 => ?_) (fun c289 => ?_)
            · exact absurd rfl c289
            refine x_ldc rfl ?_
            refine x_iret rfl rfl ?_
            exact hP _ hF.up | some v =>
            rw [hj] at hP
            have hvb : -1000000000 ≤ v ∧ v ≤ 1000000000 := jn_bd hj
            have hvn : ¬ obr (some v) = -2000000000 := fun z => by
              have z2 := congrArg Int32.toInt z
              rw [show (obr (some v)) = Int32.ofInt v from rfl, oI_toInt (by omega) (by omega), show ((-2000000000 : Int32)).toInt = -2000000000 from rfl] at z2
              omega
            refine x_ldc rfl ?_
            refine x_icmp_ne rfl (fun c289 => ?_) (fun c289 => ?_)
            rotate_left
            · exact absurd c289 hvn
            refine x_iincN (q := 2) (ls' := [_, _, _, _, _, _, _, _, _, _]) rfl rfl rfl rfl ?_
            refine x_goto rfl ?_
            exact ih (i + 2) (v :: s2) _ _ _ _ hg2 (by omega) (by omega) (by omega) (by simp only [List.length_cons]; omega) (fun _ => (hB.tail.tail.mono (by omega)).cons (by omega) (by omega)) ⟨up_at, hS.2.2.up (Nat.le_refl _)⟩ hF.up hP
    · rw [vm_end cx] at hP
      by_cases cL : i + 1 < L
      · have cz : cd i = 0 := Decidable.not_not.mp (fun z => cx ⟨cL, z⟩)
        have hcd : ∀ k, k < l → V c k = nI (cd k) := fun k hk => (hF c k hc2).trans (hcode k hk).2
        refine x_iload rfl rfl ?_
        refine x_iconstN (q := 1) rfl ?_
        refine x_iaddN rfl ?_
        refine x_aload rfl rfl ?_
        refine x_alen0 rfl hcl ?_
        refine x_icmpN_ge rfl (fun c26 => ?_) (fun c26 => ?_)
        · exact absurd c26 (by first | decide | omega)
        refine x_aload rfl rfl ?_
        refine x_iload rfl rfl ?_
        refine x_ialE (j := i) rfl (hcl) (hn := hLn) (rfl) (by omega) (hcd i (by omega)) ?_
        refine x_ifN_eq rfl (fun c34 => ?_) (fun c34 => ?_)
        rotate_left
        · exact absurd c34 (by first | decide | omega)
        exact val_end hS hsl (hP V hF)
      · refine x_iload rfl rfl ?_
        refine x_iconstN (q := 1) rfl ?_
        refine x_iaddN rfl ?_
        refine x_aload rfl rfl ?_
        refine x_alen0 rfl hcl ?_
        refine x_icmpN_ge rfl (fun c26 => ?_) (fun c26 => ?_)
        rotate_left
        · exact absurd c26 (by first | decide | omega)
        exact val_end hS hsl (hP V hF)
end Val4
section Val5
variable {d : Nat} {V : VIT} {VL : VLT} {G : VRT} {P : Post} {ext : HL} {l s : Nat} {x : Den} {en : Env}
set_option maxRecDepth 20000 in
theorem TelV.value (h : TelV 36 owm V l s x) (hl : l ≤ 896) (hC : CodR V 0 l) (hwd : ∀ k, k < 36 → V 60 k = Int32.ofInt (en (owm k)) ∧ -1000000000 ≤ en (owm k) ∧ en (owm k) ≤ 1000000000) (hP : ∀ V' : VIT, FrS V V' → P (some (.int (obr (x en)))) (LY ++ ext) V' VL (vr G)) : Ex (d + 1) mi77 0 (entL [.ref 1, .ref 38, .int (nI s), .ref 60] 10) [] (LY ++ ext) V VL (vr G) 0 0 P := by
  obtain ⟨l1, h1, h2, h3⟩ := h
  have ht := h1.tells (cd := cdv V) (L := 896) (by omega) (by omega) (by omega) (fun _ _ _ => rfl) (cdv_eq h2 (by omega)) rfl
  have e1 : vm 36 (cdv V) 896 (fun k => en (owm k)) 1000 s [] = x en := ht en
  obtain ⟨g0, -, -, -, g1, g2⟩ := h1
  rw [← e1] at hP
  refine x_aload_n rfl rfl ?_
  refine x_getR (u := .ref 40) rfl rfl rfl rfl ?_
  refine x_astore (ls' := [_, _, _, _, _, _, _, _, _, _]) rfl rfl rfl ?_
  refine x_iconstN (q := 0) rfl ?_
  refine x_istore (ls' := [_, _, _, _, _, _, _, _, _, _]) rfl rfl rfl ?_
  refine x_iload_n rfl rfl ?_
  refine x_ifN_ge rfl ?_
  refine x_iload_n rfl rfl ?_
  refine x_istore (ls' := [_, _, _, _, _, _, _, _, _, _]) rfl rfl rfl ?_
  exact val_loop2 (V0 := V) (L := 896) (nw := 36) (c := 40) (wa := 60) (cd := cdv V) (e := fun k => en (owm k)) (l := l) (l1 := l1) (s0 := s) h3 hl (cdv_eq h2 (by omega)) ⟨g0, g1⟩ g2 rfl rfl (by omega) (by omega) (by omega) (by omega) (fun k hk => ⟨(hC k (by omega) hk).2, (hC k (by omega) hk).1⟩) hwd 1000 s [] V _ _ _ ⟨Nat.le_refl _, g0, by omega⟩ (by omega) (by omega) (by omega) (Nat.zero_le _) (fun _ a ha => (by cases ha)) trivial (fun _ _ _ => rfl) hP
end Val5
