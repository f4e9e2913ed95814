/-! ===== the class's machine ===== -/
def fin1 : List Int → Option Int
  | [v] => some v
  | _ => none
section VmEq
variable {nw L f i : Nat} {cd : Nat → Nat} {e : Nat → Int} {s s1 s2 : List Int} {a q v : Int}
set_option maxRecDepth 20000 in
theorem vm_end (h : ¬ (i + 1 < L ∧ cd i ≠ 0)) : vm nw cd L e (f + 1) i s = fin1 s := by
  rw [vm.eq_def]
  dsimp only
  rw [if_neg h]
  match s with
  | [] => rfl
  | [v] => rfl
  | a :: q :: t => rfl
set_option maxRecDepth 20000 in
theorem vm_num (h : i + 1 < L ∧ cd i ≠ 0) (c : cd i = 1) : vm nw cd L e (f + 1) i s = if 64 ≤ s.length then none else vm nw cd L e f (i + 2) ((cd (i + 1) : Int) :: s) := by
  rw [vm.eq_def]
  dsimp only
  rw [if_pos h, if_pos c]
set_option maxRecDepth 20000 in
theorem vm_word (h : i + 1 < L ∧ cd i ≠ 0) (c : cd i = 2) : vm nw cd L e (f + 1) i s = if 64 ≤ s.length ∨ nw ≤ cd (i + 1) then none else vm nw cd L e f (i + 2) (e (cd (i + 1)) :: s) := by
  rw [vm.eq_def]
  dsimp only
  rw [if_pos h, if_neg (by omega), if_pos c]
set_option maxRecDepth 20000 in
theorem vm_nil (h : i + 1 < L ∧ cd i ≠ 0) (c1 : cd i ≠ 1) (c2 : cd i ≠ 2) : vm nw cd L e (f + 1) i [] = none := by
  rw [vm.eq_def]
  dsimp only
  rw [if_pos h, if_neg c1, if_neg c2]
set_option maxRecDepth 20000 in
theorem vm_not (h : i + 1 < L ∧ cd i ≠ 0) (c : cd i = 3) : vm nw cd L e (f + 1) i (a :: s1) = vm nw cd L e f (i + 2) ((1 - a) :: s1) := by
  rw [vm.eq_def]
  dsimp only
  rw [if_pos h, if_neg (by omega), if_neg (by omega)]
  rw [if_pos c]
set_option maxRecDepth 20000 in
theorem vm_and (h : i + 1 < L ∧ cd i ≠ 0) (c : cd i = 4) : vm nw cd L e (f + 1) i (a :: s1) = if a = 0 then vm nw cd L e f (max i (cd (i + 1) - 2) + 2) (a :: s1) else vm nw cd L e f (i + 2) s1 := by
  rw [vm.eq_def]
  dsimp only
  rw [if_pos h, if_neg (by omega), if_neg (by omega)]
  rw [if_neg (by omega), if_pos c]
set_option maxRecDepth 20000 in
theorem vm_or (h : i + 1 < L ∧ cd i ≠ 0) (c : cd i = 5) : vm nw cd L e (f + 1) i (a :: s1) = if a = 0 then vm nw cd L e f (i + 2) s1 else vm nw cd L e f (max i (cd (i + 1) - 2) + 2) (a :: s1) := by
  rw [vm.eq_def]
  dsimp only
  rw [if_pos h, if_neg (by omega), if_neg (by omega)]
  rw [if_neg (by omega), if_neg (by omega), if_pos c]
set_option maxRecDepth 20000 in
theorem vm_one (h : i + 1 < L ∧ cd i ≠ 0) (c1 : cd i ≠ 1) (c2 : cd i ≠ 2) (c3 : cd i ≠ 3) (c4 : cd i ≠ 4) (c5 : cd i ≠ 5) : vm nw cd L e (f + 1) i [a] = none := by
  rw [vm.eq_def]
  dsimp only
  rw [if_pos h, if_neg c1, if_neg c2]
  rw [if_neg c3, if_neg c4, if_neg c5]
set_option maxRecDepth 20000 in
theorem vm_jn (h : i + 1 < L ∧ cd i ≠ 0) (c1 : cd i ≠ 1) (c2 : cd i ≠ 2) (c3 : cd i ≠ 3) (c4 : cd i ≠ 4) (c5 : cd i ≠ 5) : vm nw cd L e (f + 1) i (a :: q :: s2) = (jn (cd i) q a).bind (fun v => vm nw cd L e f (i + 2) (v :: s2)) := by
  rw [vm.eq_def]
  dsimp only
  rw [if_pos h, if_neg c1, if_neg c2]
  rw [if_neg c3, if_neg c4, if_neg c5]
  cases jn (cd i) q a <;> rfl
end VmEq
set_option maxRecDepth 20000 in
theorem jn_bd {op : Nat} {a c v : Int} (h : jn op a c = some v) : -1000000000 ≤ v ∧ v ≤ 1000000000 := by
  have hb : ∀ {x v : Int}, bndI x = some v → -1000000000 ≤ v ∧ v ≤ 1000000000 := fun {x v} h => by
    unfold bndI at h
    split at h
    · cases h
    · injection h; omega
  unfold jn at h
  split at h
  · exact hb h
  split at h
  · exact hb h
  split at h
  · exact hb h
  split at h
  · split at h
    · cases h
    · exact hb h
  split at h
  · split at h
    · cases h
    · exact hb h
  split at h
  · injection h with h; split at h <;> omega
  split at h
  · injection h with h; split at h <;> omega
  split at h
  · injection h with h; split at h <;> omega
  · cases h
section Val2
variable {d : Nat} {V0 : VIT} {VL : VLT} {G : VRT} {P : Post} {ext : HL} {b c wa nw L : Nat} {cd : Nat → Nat} {x2 : Int32} {e : Nat → Int}
set_option maxRecDepth 20000 in
theorem val_end {s : List Int} {V : VIT} {z6 z7 z8 z9 y1 y2 y3 y4 : Value} (hs : Stk s V) (hl : s.length ≤ 64) (hP : P (some (.int (obr (fin1 s)))) (LY ++ ext) V VL (vr G)) : Ex d mi77 301 [.ref 1, y1, y2, y3, y4, .int (nI s.length), z6, z7, z8, z9] [] (LY ++ ext) V VL (vr G) 0 0 P := by
  cases s with
  | nil =>
    simp only [List.length_nil]
    refine x_iload rfl rfl ?_
    refine x_iconstN (q := 1) rfl ?_
    refine x_icmpN_ne rfl (fun c304 => ?_) (fun c304 => ?_)
    rotate_left
    · exact absurd c304 (by first | decide | omega)
    refine x_ldc rfl ?_
    refine x_iret rfl rfl ?_
    exact hP | cons v t =>
    cases t with
    | nil =>
      simp only [List.length_cons, List.length_nil, Nat.zero_add]
      refine x_iload rfl rfl ?_
      refine x_iconstN (q := 1) rfl ?_
      refine x_icmpN_ne rfl (fun c304 => ?_) (fun c304 => ?_)
      · exact absurd c304 (by first | decide | omega)
      refine x_aload_n rfl rfl ?_
      refine x_getR (u := .ref _) rfl rfl rfl rfl ?_
      refine x_iconstN (q := 0) rfl ?_
      refine x_ialE (j := 0) rfl rfl (rfl) (by omega) (hs.1) ?_
      refine x_goto rfl ?_
      refine x_iret rfl rfl ?_
      exact hP | cons q t =>
      have hl2 : t.length + 1 + 1 ≤ 64 := hl
      simp only [List.length_cons]
      refine x_iload rfl rfl ?_
      refine x_iconstN (q := 1) rfl ?_
      refine x_icmpN_ne rfl (fun c304 => ?_) (fun c304 => ?_)
      rotate_left
      · exact absurd c304 (by first | decide | omega)
      refine x_ldc rfl ?_
      refine x_iret rfl rfl ?_
      exact hP
set_option maxRecDepth 20000 in
theorem val_loop (hcl : (LY ++ ext)[c]? = some (.inl (0, L))) (hwl : (LY ++ ext)[wa]? = some (.inl (0, nw))) (hL : L ≤ 896) (hnw : nw ≤ 36) (hc2 : c ≠ 2) (hw2 : wa ≠ 2) (hcode : ∀ k, k < L → cd k < 1000000 ∧ V0 c k = nI (cd k)) (hwd : ∀ k, k < nw → V0 wa k = Int32.ofInt (e k) ∧ -1000000000 ≤ e k ∧ e k ≤ 1000000000) : ∀ (f i : Nat) (s : List Int) (V : VIT) (z7 z8 z9 : Value), 1 ≤ f → (i + 1 < L → L ≤ i + 2 * (f - 1)) → i ≤ 1000002 → s.length ≤ 64 → (i + 1 < L → Bd i s) → Stk s V → FrS V0 V → (∀ V' : VIT, FrS V0 V' → P (some (.int (obr (vm nw cd L e f i s)))) (LY ++ ext) V' VL (vr G)) → Ex (d + 1) mi77 19 [.ref 1, .ref b, .int x2, .ref wa, .ref c, .int (nI s.length), .int (nI i), z7, z8, z9] [] (LY ++ ext) V VL (vr G) 0 0 P := by
  have hLn : Nat.blt L 2147483648 = true := Nat.ble_eq_true_of_le (by omega)
  have hWn : Nat.blt nw 2147483648 = true := Nat.ble_eq_true_of_le (by omega)
  intro f
  induction f with
  | zero => exact fun i s V z7 z8 z9 h => absurd h (by omega)
  | succ f ih =>
    intro i s V z7 z8 z9 h1 hfu hi hsl hB hS hF hP
    by_cases cx : i + 1 < L ∧ cd i ≠ 0
    · obtain ⟨cx1, cx2⟩ := id cx
      have hcd : ∀ k, k < L → V c k = nI (cd k) := fun k hk => (hF c k hc2).trans (hcode k hk).2
      have b0 := (hcode i (by omega)).1
      have b1' := (hcode (i + 1) (by omega)).1
      have hB := hB cx1
      have hfu := hfu cx1
      have hs0 := hsl
      by_cases c1 : cd i = 1
      · rw [vm_num cx c1] at hP
        by_cases cl : 64 ≤ s.length
        · rw [if_pos cl] at hP
          refine x_iload rfl rfl ?_
          refine x_iconstN (q := 1) rfl ?_
          refine x_iaddN rfl ?_
          refine x_aload rfl rfl ?_
          refine x_alen0 rfl hcl ?_
          refine x_icmpN_ge rfl (fun c26 => ?_) (fun c26 => ?_)
          · exact absurd c26 (by first | decide | omega)
          refine x_aload rfl rfl ?_
          refine x_iload rfl rfl ?_
          refine x_ialE (j := i) rfl (hcl) (hn := hLn) (rfl) (by omega) (hcd i (by omega)) ?_
          refine x_ifN_eq rfl (fun c34 => ?_) (fun c34 => ?_)
          · exact absurd c34 (by first | decide | omega)
          refine x_aload rfl rfl ?_
          refine x_iload rfl rfl ?_
          refine x_ialE (j := i) rfl (hcl) (hn := hLn) (rfl) (by omega) (hcd i (by omega)) ?_
          refine x_istore (ls' := [_, _, _, _, _, _, _, _, _, _]) rfl rfl rfl ?_
          refine x_aload rfl rfl ?_
          refine x_iload rfl rfl ?_
          refine x_iconstN (q := 1) rfl ?_
          refine x_iaddN rfl ?_
          refine x_ialE (j := i + 1) rfl (hcl) (hn := hLn) (rfl) (by omega) (hcd (i + 1) (by omega)) ?_
          refine x_istore (ls' := [_, _, _, _, _, _, _, _, _, _]) rfl rfl rfl ?_
          refine x_iload rfl rfl ?_
          refine x_iconstN (q := 1) rfl ?_
          refine x_icmpN_eq rfl (fun c56 => ?_) (fun c56 => ?_)
          rotate_left
          · exact absurd c56 (by first | decide | omega)
          refine x_iload rfl rfl ?_
          refine x_bipushN (q := 64) rfl ?_
          refine x_icmpN_ge rfl (fun c69 => ?_) (fun c69 => ?_)
          rotate_left
          · exact absurd c69 (by first | decide | omega)
          refine x_ldc rfl ?_
          refine x_iret rfl rfl ?_
          exact hP V hF
        · rw [if_neg cl] at hP
          refine x_iload rfl rfl ?_
          refine x_iconstN (q := 1) rfl ?_
          refine x_iaddN rfl ?_
          refine x_aload rfl rfl ?_
          refine x_alen0 rfl hcl ?_
          refine x_icmpN_ge rfl (fun c26 => ?_) (fun c26 => ?_)
          · exact absurd c26 (by first | decide | omega)
          refine x_aload rfl rfl ?_
          refine x_iload rfl rfl ?_
          refine x_ialE (j := i) rfl (hcl) (hn := hLn) (rfl) (by omega) (hcd i (by omega)) ?_
          refine x_ifN_eq rfl (fun c34 => ?_) (fun c34 => ?_)
          · exact absurd c34 (by first | decide | omega)
          refine x_aload rfl rfl ?_
          refine x_iload rfl rfl ?_
          refine x_ialE (j := i) rfl (hcl) (hn := hLn) (rfl) (by omega) (hcd i (by omega)) ?_
          refine x_istore (ls' := [_, _, _, _, _, _, _, _, _, _]) rfl rfl rfl ?_
          refine x_aload rfl rfl ?_
          refine x_iload rfl rfl ?_
          refine x_iconstN (q := 1) rfl ?_
          refine x_iaddN rfl ?_
          refine x_ialE (j := i + 1) rfl (hcl) (hn := hLn) (rfl) (by omega) (hcd (i + 1) (by omega)) ?_
          refine x_istore (ls' := [_, _, _, _, _, _, _, _, _, _]) rfl rfl rfl ?_
          refine x_iload rfl rfl ?_
          refine x_iconstN (q := 1) rfl ?_
          refine x_icmpN_eq rfl (fun c56 => ?_) (fun c56 => ?_)
          rotate_left
          · exact absurd c56 (by first | decide | omega)
          refine x_iload rfl rfl ?_
          refine x_bipushN (q := 64) rfl ?_
          refine x_icmpN_ge rfl (fun c69 => ?_) (fun c69 => ?_)
          · exact absurd c69 (by first | decide | omega)
          refine x_iload rfl rfl ?_
          refine x_ifN_lt rfl ?_
          refine x_iload rfl rfl ?_
          refine x_iconstN (q := 2) rfl ?_
          refine x_icmpN_ne rfl (fun c80 => ?_) (fun c80 => ?_)
          rotate_left
          · exact absurd c80 (by first | decide | omega)
          refine x_aload_n rfl rfl ?_
          refine x_getR (u := .ref _) rfl rfl rfl rfl ?_
          refine x_iload rfl rfl ?_
          refine x_iload rfl rfl ?_
          refine x_iconstN (q := 1) rfl ?_
          refine x_icmpN_ne rfl (fun c102 => ?_) (fun c102 => ?_)
          · exact absurd c102 (by first | decide | omega)
          refine x_iload rfl rfl ?_
          refine x_goto rfl ?_
          refine x_iasN (j := s.length) rfl rfl (rfl) (by omega) ?_
          refine x_iincN (q := 1) (ls' := [_, _, _, _, _, _, _, _, _, _]) rfl rfl rfl rfl ?_
          refine x_goto rfl ?_
          refine x_iincN (q := 2) (ls' := [_, _, _, _, _, _, _, _, _, _]) rfl rfl rfl rfl ?_
          refine x_goto rfl ?_
          exact ih (i + 2) ((cd (i + 1) : Int) :: s) _ _ _ _ (by omega) (by omega) (by omega) (by simp only [List.length_cons]; omega) (fun _ => (hB.mono (by omega)).cons (by omega) (by omega)) ⟨up_at.trans oI_nat, hS.up (Nat.le_refl _)⟩ hF.up hP
      by_cases c2 : cd i = 2
      · rw [vm_word cx c2] at hP
        by_cases cl : 64 ≤ s.length
        · rw [if_pos (Or.inl cl)] at hP
          refine x_iload rfl rfl ?_
          refine x_iconstN (q := 1) rfl ?_
          refine x_iaddN rfl ?_
          refine x_aload rfl rfl ?_
          refine x_alen0 rfl hcl ?_
          refine x_icmpN_ge rfl (fun c26 => ?_) (fun c26 => ?_)
          · exact absurd c26 (by first | decide | omega)
          refine x_aload rfl rfl ?_
          refine x_iload rfl rfl ?_
          refine x_ialE (j := i) rfl (hcl) (hn := hLn) (rfl) (by omega) (hcd i (by omega)) ?_
          refine x_ifN_eq rfl (fun c34 => ?_) (fun c34 => ?_)
          · exact absurd c34 (by first | decide | omega)
          refine x_aload rfl rfl ?_
          refine x_iload rfl rfl ?_
          refine x_ialE (j := i) rfl (hcl) (hn := hLn) (rfl) (by omega) (hcd i (by omega)) ?_
          refine x_istore (ls' := [_, _, _, _, _, _, _, _, _, _]) rfl rfl rfl ?_
          refine x_aload rfl rfl ?_
          refine x_iload rfl rfl ?_
          refine x_iconstN (q := 1) rfl ?_
          refine x_iaddN rfl ?_
          refine x_ialE (j := i + 1) rfl (hcl) (hn := hLn) (rfl) (by omega) (hcd (i + 1) (by omega)) ?_
          refine x_istore (ls' := [_, _, _, _, _, _, _, _, _, _]) rfl rfl rfl ?_
          refine x_iload rfl rfl ?_
          refine x_iconstN (q := 1) rfl ?_
          refine x_icmpN_eq rfl (fun c56 => ?_) (fun c56 => ?_)
          · exact absurd c56 (by first | decide | omega)
          refine x_iload rfl rfl ?_
          refine x_iconstN (q := 2) rfl ?_
          refine x_icmpN_ne rfl (fun c62 => ?_) (fun c62 => ?_)
          · exact absurd c62 (by first | decide | omega)
          refine x_iload rfl rfl ?_
          refine x_bipushN (q := 64) rfl ?_
          refine x_icmpN_ge rfl (fun c69 => ?_) (fun c69 => ?_)
          rotate_left
          · exact absurd c69 (by first | decide | omega)
          refine x_ldc rfl ?_
          refine x_iret rfl rfl ?_
          exact hP V hF
        by_cases cw : nw ≤ cd (i + 1)
        · rw [if_pos (Or.inr cw)] at hP
          refine x_iload rfl rfl ?_
          refine x_iconstN (q := 1) rfl ?_
          refine x_iaddN rfl ?_
          refine x_aload rfl rfl ?_
          refine x_alen0 rfl hcl ?_
          refine x_icmpN_ge rfl (fun c26 => ?_) (fun c26 => ?_)
          · exact absurd c26 (by first | decide | omega)
          refine x_aload rfl rfl ?_
          refine x_iload rfl rfl ?_
          refine x_ialE (j := i) rfl (hcl) (hn := hLn) (rfl) (by omega) (hcd i (by omega)) ?_
          refine x_ifN_eq rfl (fun c34 => ?_) (fun c34 => ?_)
          · exact absurd c34 (by first | decide | omega)
          refine x_aload rfl rfl ?_
          refine x_iload rfl rfl ?_
          refine x_ialE (j := i) rfl (hcl) (hn := hLn) (rfl) (by omega) (hcd i (by omega)) ?_
          refine x_istore (ls' := [_, _, _, _, _, _, _, _, _, _]) rfl rfl rfl ?_
          refine x_aload rfl rfl ?_
          refine x_iload rfl rfl ?_
          refine x_iconstN (q := 1) rfl ?_
          refine x_iaddN rfl ?_
          refine x_ialE (j := i + 1) rfl (hcl) (hn := hLn) (rfl) (by omega) (hcd (i + 1) (by omega)) ?_
          refine x_istore (ls' := [_, _, _, _, _, _, _, _, _, _]) rfl rfl rfl ?_
          refine x_iload rfl rfl ?_
          refine x_iconstN (q := 1) rfl ?_
          refine x_icmpN_eq rfl (fun c56 => ?_) (fun c56 => ?_)
          · exact absurd c56 (by first | decide | omega)
          refine x_iload rfl rfl ?_
          refine x_iconstN (q := 2) rfl ?_
          refine x_icmpN_ne rfl (fun c62 => ?_) (fun c62 => ?_)
          · exact absurd c62 (by first | decide | omega)
          refine x_iload rfl rfl ?_
          refine x_bipushN (q := 64) rfl ?_
          refine x_icmpN_ge rfl (fun c69 => ?_) (fun c69 => ?_)
          · exact absurd c69 (by first | decide | omega)
          refine x_iload rfl rfl ?_
          refine x_ifN_lt rfl ?_
          refine x_iload rfl rfl ?_
          refine x_iconstN (q := 2) rfl ?_
          refine x_icmpN_ne rfl (fun c80 => ?_) (fun c80 => ?_)
          · exact absurd c80 (by first | decide | omega)
          refine x_iload rfl rfl ?_
          refine x_aload_n rfl rfl ?_
          refine x_alen0 rfl hwl ?_
          refine x_icmpN_lt rfl (fun c87 => ?_) (fun c87 => ?_)
          · exact absurd c87 (by first | decide | omega)
          refine x_ldc rfl ?_
          refine x_iret rfl rfl ?_
          exact hP V hF
        · rw [if_neg (by omega)] at hP
          have hw := hwd (cd (i + 1)) (by omega)
          have hwv : V wa (cd (i + 1)) = Int32.ofInt (e (cd (i + 1))) := (hF wa _ hw2).trans hw.1
          refine x_iload rfl rfl ?_
          refine x_iconstN (q := 1) rfl ?_
          refine x_iaddN rfl ?_
          refine x_aload rfl rfl ?_
          refine x_alen0 rfl hcl ?_
          refine x_icmpN_ge rfl (fun c26 => ?_) (fun c26 => ?_)
          · exact absurd c26 (by first | decide | omega)
          refine x_aload rfl rfl ?_
          refine x_iload rfl rfl ?_
          refine x_ialE (j := i) rfl (hcl) (hn := hLn) (rfl) (by omega) (hcd i (by omega)) ?_
          refine x_ifN_eq rfl (fun c34 => ?_) (fun c34 => ?_)
          · exact absurd c34 (by first | decide | omega)
          refine x_aload rfl rfl ?_
          refine x_iload rfl rfl ?_
          refine x_ialE (j := i) rfl (hcl) (hn := hLn) (rfl) (by omega) (hcd i (by omega)) ?_
          refine x_istore (ls' := [_, _, _, _, _, _, _, _, _, _]) rfl rfl rfl ?_
          refine x_aload rfl rfl ?_
          refine x_iload rfl rfl ?_
          refine x_iconstN (q := 1) rfl ?_
          refine x_iaddN rfl ?_
          refine x_ialE (j := i + 1) rfl (hcl) (hn := hLn) (rfl) (by omega) (hcd (i + 1) (by omega)) ?_
          refine x_istore (ls' := [_, _, _, _, _, _, _, _, _, _]) rfl rfl rfl ?_
          refine x_iload rfl rfl ?_
          refine x_iconstN (q := 1) rfl ?_
          refine x_icmpN_eq rfl (fun c56 => ?_) (fun c56 => ?_)
          · exact absurd c56 (by first | decide | omega)
          refine x_iload rfl rfl ?_
          refine x_iconstN (q := 2) rfl ?_
          refine x_icmpN_ne rfl (fun c62 => ?_) (fun c62 => ?_)
          · exact absurd c62 (by first | decide | omega)
          refine x_iload rfl rfl ?_
          refine x_bipushN (q := 64) rfl ?_
          refine x_icmpN_ge rfl (fun c69 => ?_) (fun c69 => ?_)
          · exact absurd c69 (by first | decide | omega)
          refine x_iload rfl rfl ?_
          refine x_ifN_lt rfl ?_
          refine x_iload rfl rfl ?_
          refine x_iconstN (q := 2) rfl ?_
          refine x_icmpN_ne rfl (fun c80 => ?_) (fun c80 => ?_)
          · exact absurd c80 (by first | decide | omega)
          refine x_iload rfl rfl ?_
          refine x_aload_n rfl rfl ?_
          refine x_alen0 rfl hwl ?_
          refine x_icmpN_lt rfl (fun c87 => ?_) (fun c87 => ?_)
          rotate_left
          · exact absurd c87 (by first | decide | omega)
          refine x_aload_n rfl rfl ?_
          refine x_getR (u := .ref _) rfl rfl rfl rfl ?_
          refine x_iload rfl rfl ?_
          refine x_iload rfl rfl ?_
          refine x_iconstN (q := 1) rfl ?_
          refine x_icmpN_ne rfl (fun c102 => ?_) (fun c102 => ?_)
          rotate_left
          · exact absurd c102 (by first | decide | omega)
          refine x_aload_n rfl rfl ?_
          refine x_iload rfl rfl ?_
          refine x_ialE (j := cd (i + 1)) rfl hwl (hn := hWn) (rfl) (by omega) (hwv) ?_
          refine x_iasN (j := s.length) rfl rfl (rfl) (by omega) ?_
          refine x_iincN (q := 1) (ls' := [_, _, _, _, _, _, _, _, _, _]) rfl rfl rfl rfl ?_
          refine x_goto rfl ?_
          refine x_iincN (q := 2) (ls' := [_, _, _, _, _, _, _, _, _, _]) rfl rfl rfl rfl ?_
          refine x_goto rfl ?_
          exact ih (i + 2) (e (cd (i + 1)) :: s) _ _ _ _ (by omega) (by omega) (by omega) (by simp only [List.length_cons]; omega) (fun _ => (hB.mono (by omega)).cons (by omega) (by omega)) ⟨up_at, hS.up (Nat.le_refl _)⟩ hF.up hP
      cases s with
      | nil =>
        rw [vm_nil cx c1 c2] at hP
        simp only [List.length_nil]
        refine x_iload rfl rfl ?_
        refine x_iconstN (q := 1) rfl ?_
        refine x_iaddN rfl ?_
        refine x_aload rfl rfl ?_
        refine x_alen0 rfl hcl ?_
        refine x_icmpN_ge rfl (fun c26 => ?_) (fun c26 => ?_)
        · exact absurd c26 (by first | decide | omega)
        refine x_aload rfl rfl ?_
        refine x_iload rfl rfl ?_
        refine x_ialE (j := i) rfl (hcl) (hn := hLn) (rfl) (by omega) (hcd i (by omega)) ?_
        refine x_ifN_eq rfl (fun c34 => ?_) (fun c34 => ?_)
        · exact absurd c34 (by first | decide | omega)
        refine x_aload rfl rfl ?_
        refine x_iload rfl rfl ?_
        refine x_ialE (j := i) rfl (hcl) (hn := hLn) (rfl) (by omega) (hcd i (by omega)) ?_
        refine x_istore (ls' := [_, _, _, _, _, _, _, _, _, _]) rfl rfl rfl ?_
        refine x_aload rfl rfl ?_
        refine x_iload rfl rfl ?_
        refine x_iconstN (q := 1) rfl ?_
        refine x_iaddN rfl ?_
        refine x_ialE (j := i + 1) rfl (hcl) (hn := hLn) (rfl) (by omega) (hcd (i + 1) (by omega)) ?_
        refine x_istore (ls' := [_, _, _, _, _, _, _, _, _, _]) rfl rfl rfl ?_
        refine x_iload rfl rfl ?_
        refine x_iconstN (q := 1) rfl ?_
        refine x_icmpN_eq rfl (fun c56 => ?_) (fun c56 => ?_)
        · exact absurd c56 (by first | decide | omega)
        refine x_iload rfl rfl ?_
        refine x_iconstN (q := 2) rfl ?_
        refine x_icmpN_ne rfl (fun c62 => ?_) (fun c62 => ?_)
        rotate_left
        · exact absurd c62 (by first | decide | omega)
        refine x_iload rfl rfl ?_
        refine x_iconstN (q := 1) rfl ?_
        refine x_icmpN_ge rfl (fun c124 => ?_) (fun c124 => ?_)
        · exact absurd c124 (by first | decide | omega)
        refine x_ldc rfl ?_
        refine x_iret rfl rfl ?_
        exact hP V hF | cons a s1 =>
        have hsl' : s1.length + 1 ≤ 64 := hsl
        have ha := hB.head
        have hv := hS.1
        simp only [List.length_cons]
        by_cases c3 : cd i = 3
        · rw [vm_not cx c3] at hP
          have e1 : (1 : Int32) - Int32.ofInt a = Int32.ofInt (1 - a) := by
            rw [← Int32.toInt_inj, Int32.toInt_sub, oI_toInt (by omega) (by omega), oI_toInt (by omega) (by omega), show (1 : Int32).toInt = 1 from rfl, Int.bmod_eq_of_le (by omega) (by omega)]
          refine x_iload rfl rfl ?_
          refine x_iconstN (q := 1) rfl ?_
          refine x_iaddN rfl ?_
          refine x_aload rfl rfl ?_
          refine x_alen0 rfl hcl ?_
          refine x_icmpN_ge rfl (fun c26 => ?_) (fun c26 => ?_)
          · exact absurd c26 (by first | decide | omega)
          refine x_aload rfl rfl ?_
          refine x_iload rfl rfl ?_
          refine x_ialE (j := i) rfl (hcl) (hn := hLn) (rfl) (by omega) (hcd i (by omega)) ?_
          refine x_ifN_eq rfl (fun c34 => ?_) (fun c34 => ?_)
          · exact absurd c34 (by first | decide | omega)
          refine x_aload rfl rfl ?_
          refine x_iload rfl rfl ?_
          refine x_ialE (j := i) rfl (hcl) (hn := hLn) (rfl) (by omega) (hcd i (by omega)) ?_
          refine x_istore (ls' := [_, _, _, _, _, _, _, _, _, _]) rfl rfl rfl ?_
          refine x_aload rfl rfl ?_
          refine x_iload rfl rfl ?_
          refine x_iconstN (q := 1) rfl ?_
          refine x_iaddN rfl ?_
          refine x_ialE (j := i + 1) rfl (hcl) (hn := hLn) (rfl) (by omega) (hcd (i + 1) (by omega)) ?_
          refine x_istore (ls' := [_, _, _, _, _, _, _, _, _, _]) rfl rfl rfl ?_
          refine x_iload rfl rfl ?_
          refine x_iconstN (q := 1) rfl ?_
          refine x_icmpN_eq rfl (fun c56 => ?_) (fun c56 => ?_)
          · exact absurd c56 (by first | decide | omega)
          refine x_iload rfl rfl ?_
          refine x_iconstN (q := 2) rfl ?_
          refine x_icmpN_ne rfl (fun c62 => ?_) (fun c62 => ?_)
          rotate_left
          · exact absurd c62 (by first | decide | omega)
          refine x_iload rfl rfl ?_
          refine x_iconstN (q := 1) rfl ?_
          refine x_icmpN_ge rfl (fun c124 => ?_) (fun c124 => ?_)
          rotate_left
          · exact absurd c124 (by first | decide | omega)
          refine x_iload rfl rfl ?_
          refine x_iconstN (q := 3) rfl ?_
          refine x_icmpN_ne rfl (fun c133 => ?_) (fun c133 => ?_)
          · exact absurd c133 (by first | decide | omega)
          refine x_aload_n rfl rfl ?_
          refine x_getR (u := .ref _) rfl rfl rfl rfl ?_
          refine x_iload rfl rfl ?_
          refine x_iconstN (q := 1) rfl ?_
          refine x_isubN rfl ?_
          refine x_iconst rfl ?_
          refine x_aload_n rfl rfl ?_
          refine x_getR (u := .ref _) rfl rfl rfl rfl ?_
          refine x_iload rfl rfl ?_
          refine x_iconstN (q := 1) rfl ?_
          refine x_isubN rfl ?_
          refine x_ialE (j := s1.length) rfl rfl (rfl) (by omega) (hv) ?_
          refine x_isub rfl ?_
          rw [e1]
          refine x_iasN (j := s1.length) rfl rfl (rfl) (by omega) ?_
          refine x_goto rfl ?_
          refine x_iincN (q := 2) (ls' := [_, _, _, _, _, _, _, _, _, _]) rfl rfl rfl rfl ?_
          refine x_goto rfl ?_
          exact ih (i + 2) ((1 - a) :: s1) _ _ _ _ (by omega) (by omega) (by omega) (by simp only [List.length_cons]; omega) (fun _ => (hB.tail.mono (by omega)).cons (by omega) (by omega)) ⟨up_at, hS.2.up (Nat.le_refl _)⟩ hF.up hP
        by_cases c4 : cd i = 4
        · rw [vm_and cx c4] at hP
          by_cases az : a = 0
          · rw [if_pos az] at hP
            subst az
            refine x_iload rfl rfl ?_
            refine x_iconstN (q := 1) rfl ?_
            refine x_iaddN rfl ?_
            refine x_aload rfl rfl ?_
            refine x_alen0 rfl hcl ?_
            refine x_icmpN_ge rfl (fun c26 => ?_) (fun c26 => ?_)
            · exact absurd c26 (by first | decide | omega)
            refine x_aload rfl rfl ?_
            refine x_iload rfl rfl ?_
            refine x_ialE (j := i) rfl (hcl) (hn := hLn) (rfl) (by omega) (hcd i (by omega)) ?_
            refine x_ifN_eq rfl (fun c34 => ?_) (fun c34 => ?_)
            · exact absurd c34 (by first | decide | omega)
            refine x_aload rfl rfl ?_
            refine x_iload rfl rfl ?_
            refine x_ialE (j := i) rfl (hcl) (hn := hLn) (rfl) (by omega) (hcd i (by omega)) ?_
            refine x_istore (ls' := [_, _, _, _, _, _, _, _, _, _]) rfl rfl rfl ?_
            refine x_aload rfl rfl ?_
            refine x_iload rfl rfl ?_
            refine x_iconstN (q := 1) rfl ?_
            refine x_iaddN rfl ?_
            refine x_ialE (j := i + 1) rfl (hcl) (hn := hLn) (rfl) (by omega) (hcd (i + 1) (by omega)) ?_
            refine x_istore (ls' := [_, _, _, _, _, _, _, _, _, _]) rfl rfl rfl ?_
            refine x_iload rfl rfl ?_
            refine x_iconstN (q := 1) rfl ?_
            refine x_icmpN_eq rfl (fun c56 => ?_) (fun c56 => ?_)
            · exact absurd c56 (by first | decide | omega)
            refine x_iload rfl rfl ?_
            refine x_iconstN (q := 2) rfl ?_
            refine x_icmpN_ne rfl (fun c62 => ?_) (fun c62 => ?_)
            rotate_left
            · exact absurd c62 (by first | decide | omega)
            refine x_iload rfl rfl ?_
            refine x_iconstN (q := 1) rfl ?_
            refine x_icmpN_ge rfl (fun c124 => ?_) (fun c124 => ?_)
            rotate_left
            · exact absurd c124 (by first | decide | omega)
            refine x_iload rfl rfl ?_
            refine x_iconstN (q := 3) rfl ?_
            refine x_icmpN_ne rfl (fun c133 => ?_) (fun c133 => ?_)
            rotate_left
            · exact absurd c133 (by first | decide | omega)
            refine x_iload rfl rfl ?_
            refine x_iconstN (q := 4) rfl ?_
            refine x_icmpN_eq rfl (fun c162 => ?_) (fun c162 => ?_)
            rotate_left
            · exact absurd c162 (by first | decide | omega)
            refine x_aload_n rfl rfl ?_
            refine x_getR (u := .ref _) rfl rfl rfl rfl ?_
            refine x_iload rfl rfl ?_
            refine x_iconstN (q := 1) rfl ?_
            refine x_isubN rfl ?_
            refine x_ialE (j := s1.length) rfl rfl (rfl) (by omega) (hv) ?_
            refine x_if_ne rfl (fun c180 => ?_) (fun c180 => ?_)
            · exact absurd rfl c180
            refine x_iconstN (q := 1) rfl ?_
            refine x_goto rfl ?_
            refine x_iload rfl rfl ?_
            refine x_iconstN (q := 4) rfl ?_
            refine x_icmpN_ne rfl (fun c191 => ?_) (fun c191 => ?_)
            · exact absurd c191 (by first | decide | omega)
            refine x_iconstN (q := 1) rfl ?_
            refine x_goto rfl ?_
            refine x_icmpN_ne rfl (fun c199 => ?_) (fun c199 => ?_)
            · exact absurd c199 (by first | decide | omega)
            refine x_iconstN (q := 1) rfl ?_
            refine x_goto rfl ?_
            refine x_istore (ls' := [_, _, _, _, _, _, _, _, _, _]) rfl rfl rfl ?_
            refine x_iload rfl rfl ?_
            refine x_ifN_eq rfl (fun c211 => ?_) (fun c211 => ?_)
            · exact absurd c211 (by first | decide | omega)
            refine x_iload rfl rfl ?_
            refine x_iload rfl rfl ?_
            refine x_iconst rfl ?_
            refine x_isub rfl ?_
            refine x_max rfl rfl ?_
            rw [max_nI (by omega) (by omega)]
            refine x_istore (ls' := [_, _, _, _, _, _, _, _, _, _]) rfl rfl rfl ?_
            refine x_goto rfl ?_
            refine x_goto rfl ?_
            refine x_iincN (q := 2) (ls' := [_, _, _, _, _, _, _, _, _, _]) rfl rfl rfl rfl ?_
            refine x_goto rfl ?_
            exact ih (max i (cd (i + 1) - 2) + 2) (0 :: s1) V _ _ _ (by omega) (by omega) (by omega) hsl (fun _ => hB.mono (by omega)) hS hF hP
          · rw [if_neg az] at hP
            have hne : ¬ Int32.ofInt a = 0 := fun z => az ((oI_eq0 (by omega) (by omega)).mp z)
            refine x_iload rfl rfl ?_
            refine x_iconstN (q := 1) rfl ?_
            refine x_iaddN rfl ?_
            refine x_aload rfl rfl ?_
            refine x_alen0 rfl hcl ?_
            refine x_icmpN_ge rfl (fun c26 => ?_) (fun c26 => ?_)
            · exact absurd c26 (by first | decide | omega)
            refine x_aload rfl rfl ?_
            refine x_iload rfl rfl ?_
            refine x_ialE (j := i) rfl (hcl) (hn := hLn) (rfl) (by omega) (hcd i (by omega)) ?_
            refine x_ifN_eq rfl (fun c34 => ?_) (fun c34 => ?_)
            · exact absurd c34 (by first | decide | omega)
            refine x_aload rfl rfl ?_
            refine x_iload rfl rfl ?_
            refine x_ialE (j := i) rfl (hcl) (hn := hLn) (rfl) (by omega) (hcd i (by omega)) ?_
            refine x_istore (ls' := [_, _, _, _, _, _, _, _, _, _]) rfl rfl rfl ?_
            refine x_aload rfl rfl ?_
            refine x_iload rfl rfl ?_
            refine x_iconstN (q := 1) rfl ?_
            refine x_iaddN rfl ?_
            refine x_ialE (j := i + 1) rfl (hcl) (hn := hLn) (rfl) (by omega) (hcd (i + 1) (by omega)) ?_
            refine x_istore (ls' := [_, _, _, _, _, _, _, _, _, _]) rfl rfl rfl ?_
            refine x_iload rfl rfl ?_
            refine x_iconstN (q := 1) rfl ?_
            refine x_icmpN_eq rfl (fun c56 => ?_) (fun c56 => ?_)
            · exact absurd c56 (by first | decide | omega)
            refine x_iload rfl rfl ?_
            refine x_iconstN (q := 2) rfl ?_
            refine x_icmpN_ne rfl (fun c62 => ?_) (fun c62 => ?_)
            rotate_left
            · exact absurd c62 (by first | decide | omega)
            refine x_iload rfl rfl ?_
            refine x_iconstN (q := 1) rfl ?_
            refine x_icmpN_ge rfl (fun c124 => ?_) (fun c124 => ?_)
            rotate_left
            · exact absurd c124 (by first | decide | omega)
            refine x_iload rfl rfl ?_
            refine x_iconstN (q := 3) rfl ?_
            refine x_icmpN_ne rfl (fun c133 => ?_) (fun c133 => ?_)
            rotate_left
            · exact absurd c133 (by first | decide | omega)
            refine x_iload rfl rfl ?_
            refine x_iconstN (q := 4) rfl ?_
            refine x_icmpN_eq rfl (fun c162 => ?_) (fun c162 => ?_)
            rotate_left
            · exact absurd c162 (by first | decide | omega)
            refine x_aload_n rfl rfl ?_
            refine x_getR (u := .ref _) rfl rfl rfl rfl ?_
            refine x_iload rfl rfl ?_
            refine x_iconstN (q := 1) rfl ?_
            refine x_isubN rfl ?_
            refine x_ialE (j := s1.length) rfl rfl (rfl) (by omega) (hv) ?_
            refine x_if_ne rfl (fun c180 => ?_) (fun c180 => ?_)
            rotate_left
            · exact absurd c180 hne
            refine x_iconstN (q := 0) rfl ?_
            refine x_iload rfl rfl ?_
            refine x_iconstN (q := 4) rfl ?_
            refine x_icmpN_ne rfl (fun c191 => ?_) (fun c191 => ?_)
            · exact absurd c191 (by first | decide | omega)
            refine x_iconstN (q := 1) rfl ?_
            refine x_goto rfl ?_
            refine x_icmpN_ne rfl (fun c199 => ?_) (fun c199 => ?_)
            rotate_left
            · exact absurd c199 (by first | decide | omega)
            refine x_iconstN (q := 0) rfl ?_
            refine x_istore (ls' := [_, _, _, _, _, _, _, _, _, _]) rfl rfl rfl ?_
            refine x_iload rfl rfl ?_
            refine x_ifN_eq rfl (fun c211 => ?_) (fun c211 => ?_)
            rotate_left
            · exact absurd c211 (by first | decide | omega)
            skip
            refine x_iincD (q := s1.length) (ls' := [_, _, _, _, _, _, _, _, _, _]) rfl rfl rfl rfl ?_
            refine x_goto rfl ?_
            refine x_iincN (q := 2) (ls' := [_, _, _, _, _, _, _, _, _, _]) rfl rfl rfl rfl ?_
            refine x_goto rfl ?_
            exact ih (i + 2) s1 V _ _ _ (by omega) (by omega) (by omega) (by omega) (fun _ => hB.tail.mono (by omega)) hS.2 hF hP
        by_cases c5 : cd i = 5
        · rw [vm_or cx c5] at hP
          by_cases az : a = 0
          · rw [if_pos az] at hP
            subst az
            refine x_iload rfl rfl ?_
            refine x_iconstN (q := 1) rfl ?_
            refine x_iaddN rfl ?_
            refine x_aload rfl rfl ?_
            refine x_alen0 rfl hcl ?_
            refine x_icmpN_ge rfl (fun c26 => ?_) (fun c26 => ?_)
            · exact absurd c26 (by first | decide | omega)
            refine x_aload rfl rfl ?_
            refine x_iload rfl rfl ?_
            refine x_ialE (j := i) rfl (hcl) (hn := hLn) (rfl) (by omega) (hcd i (by omega)) ?_
            refine x_ifN_eq rfl (fun c34 => ?_) (fun c34 => ?_)
            · exact absurd c34 (by first | decide | omega)
            refine x_aload rfl rfl ?_
            refine x_iload rfl rfl ?_
            refine x_ialE (j := i) rfl (hcl) (hn := hLn) (rfl) (by omega) (hcd i (by omega)) ?_
            refine x_istore (ls' := [_, _, _, _, _, _, _, _, _, _]) rfl rfl rfl ?_
            refine x_aload rfl rfl ?_
            refine x_iload rfl rfl ?_
            refine x_iconstN (q := 1) rfl ?_
            refine x_iaddN rfl ?_
            refine x_ialE (j := i + 1) rfl (hcl) (hn := hLn) (rfl) (by omega) (hcd (i + 1) (by omega)) ?_
            refine x_istore (ls' := [_, _, _, _, _, _, _, _, _, _]) rfl rfl rfl ?_
            refine x_iload rfl rfl ?_
            refine x_iconstN (q := 1) rfl ?_
            refine x_icmpN_eq rfl (fun c56 => ?_) (fun c56 => ?_)
            · exact absurd c56 (by first | decide | omega)
            refine x_iload rfl rfl ?_
            refine x_iconstN (q := 2) rfl ?_
            refine x_icmpN_ne rfl (fun c62 => ?_) (fun c62 => ?_)
            rotate_left
            · exact absurd c62 (by first | decide | omega)
            refine x_iload rfl rfl ?_
            refine x_iconstN (q := 1) rfl ?_
            refine x_icmpN_ge rfl (fun c124 => ?_) (fun c124 => ?_)
            rotate_left
            · exact absurd c124 (by first | decide | omega)
            refine x_iload rfl rfl ?_
            refine x_iconstN (q := 3) rfl ?_
            refine x_icmpN_ne rfl (fun c133 => ?_) (fun c133 => ?_)
            rotate_left
            · exact absurd c133 (by first | decide | omega)
            refine x_iload rfl rfl ?_
            refine x_iconstN (q := 4) rfl ?_
            refine x_icmpN_eq rfl (fun c162 => ?_) (fun c162 => ?_)
            · exact absurd c162 (by first | decide | omega)
            refine x_iload rfl rfl ?_
            refine x_iconstN (q := 5) rfl ?_
            refine x_icmpN_ne rfl (fun c168 => ?_) (fun c168 => ?_)
            · exact absurd c168 (by first | decide | omega)
            refine x_aload_n rfl rfl ?_
            refine x_getR (u := .ref _) rfl rfl rfl rfl ?_
            refine x_iload rfl rfl ?_
            refine x_iconstN (q := 1) rfl ?_
            refine x_isubN rfl ?_
            refine x_ialE (j := s1.length) rfl rfl (rfl) (by omega) (hv) ?_
            refine x_if_ne rfl (fun c180 => ?_) (fun c180 => ?_)
            · exact absurd rfl c180
            refine x_iconstN (q := 1) rfl ?_
            refine x_goto rfl ?_
            refine x_iload rfl rfl ?_
            refine x_iconstN (q := 4) rfl ?_
            refine x_icmpN_ne rfl (fun c191 => ?_) (fun c191 => ?_)
            rotate_left
            · exact absurd c191 (by first | decide | omega)
            refine x_iconstN (q := 0) rfl ?_
            refine x_icmpN_ne rfl (fun c199 => ?_) (fun c199 => ?_)
            rotate_left
            · exact absurd c199 (by first | decide | omega)
            refine x_iconstN (q := 0) rfl ?_
            refine x_istore (ls' := [_, _, _, _, _, _, _, _, _, _]) rfl rfl rfl ?_
            refine x_iload rfl rfl ?_
            refine x_ifN_eq rfl (fun c211 => ?_) (fun c211 => ?_)
            rotate_left
            · exact absurd c211 (by first | decide | omega)
            skip
            refine x_iincD (q := s1.length) (ls' := [_, _, _, _, _, _, _, _, _, _]) rfl rfl rfl rfl ?_
            refine x_goto rfl ?_
            refine x_iincN (q := 2) (ls' := [_, _, _, _, _, _, _, _, _, _]) rfl rfl rfl rfl ?_
            refine x_goto rfl ?_
            exact ih (i + 2) s1 V _ _ _ (by omega) (by omega) (by omega) (by omega) (fun _ => hB.tail.mono (by omega)) hS.2 hF hP
          · rw [if_neg az] at hP
            have hne : ¬ Int32.ofInt a = 0 := fun z => az ((oI_eq0 (by omega) (by omega)).mp z)
            refine x_iload rfl rfl ?_
            refine x_iconstN (q := 1) rfl ?_
            refine x_iaddN rfl ?_
            refine x_aload rfl rfl ?_
            refine x_alen0 rfl hcl ?_
            refine x_icmpN_ge rfl (fun c26 => ?_) (fun c26 => ?_)
            · exact absurd c26 (by first | decide | omega)
            refine x_aload rfl rfl ?_
            refine x_iload rfl rfl ?_
            refine x_ialE (j := i) rfl (hcl) (hn := hLn) (rfl) (by omega) (hcd i (by omega)) ?_
            refine x_ifN_eq rfl (fun c34 => ?_) (fun c34 => ?_)
            · exact absurd c34 (by first | decide | omega)
            refine x_aload rfl rfl ?_
            refine x_iload rfl rfl ?_
            refine x_ialE (j := i) rfl (hcl) (hn := hLn) (rfl) (by omega) (hcd i (by omega)) ?_
            refine x_istore (ls' := [_, _, _, _, _, _, _, _, _, _]) rfl rfl rfl ?_
            refine x_aload rfl rfl ?_
            refine x_iload rfl rfl ?_
            refine x_iconstN (q := 1) rfl ?_
            refine x_iaddN rfl ?_
            refine x_ialE (j := i + 1) rfl (hcl) (hn := hLn) (rfl) (by omega) (hcd (i + 1) (by omega)) ?_
            refine x_istore (ls' := [_, _, _, _, _, _, _, _, _, _]) rfl rfl rfl ?_
            refine x_iload rfl rfl ?_
            refine x_iconstN (q := 1) rfl ?_
            refine x_icmpN_eq rfl (fun c56 => ?_) (fun c56 => ?_)
            · exact absurd c56 (by first | decide | omega)
            refine x_iload rfl rfl ?_
            refine x_iconstN (q := 2) rfl ?_
            refine x_icmpN_ne rfl (fun c62 => ?_) (fun c62 => ?_)
            rotate_left
            · exact absurd c62 (by first | decide | omega)
            refine x_iload rfl rfl ?_
            refine x_iconstN (q := 1) rfl ?_
            refine x_icmpN_ge rfl (fun c124 => ?_) (fun c124 => ?_)
            rotate_left
            · exact absurd c124 (by first | decide | omega)
            refine x_iload rfl rfl ?_
            refine x_iconstN (q := 3) rfl ?_
            refine x_icmpN_ne rfl (fun c133 => ?_) (fun c133 => ?_)
            rotate_left
            · exact absurd c133 (by first | decide | omega)
            refine x_iload rfl rfl ?_
            refine x_iconstN (q := 4) rfl ?_
            refine x_icmpN_eq rfl (fun c162 => ?_) (fun c162 => ?_)
            · exact absurd c162 (by first | decide | omega)
            refine x_iload rfl rfl ?_
            refine x_iconstN (q := 5) rfl ?_
            refine x_icmpN_ne rfl (fun c168 => ?_) (fun c168 => ?_)
            · exact absurd c168 (by first | decide | omega)
            refine x_aload_n rfl rfl ?_
            refine x_getR (u := .ref _) rfl rfl rfl rfl ?_
            refine x_iload rfl rfl ?_
            refine x_iconstN (q := 1) rfl ?_
            refine x_isubN rfl ?_
            refine x_ialE (j := s1.length) rfl rfl (rfl) (by omega) (hv) ?_
            refine x_if_ne rfl (fun c180 => ?_) (fun c180 => ?_)
            rotate_left
            · exact absurd c180 hne
            refine x_iconstN (q := 0) rfl ?_
            refine x_iload rfl rfl ?_
            refine x_iconstN (q := 4) rfl ?_
            refine x_icmpN_ne rfl (fun c191 => ?_) (fun c191 => ?_)
            rotate_left
            · exact absurd c191 (by first | decide | omega)
            refine x_iconstN (q := 0) rfl ?_
            refine x_icmpN_ne rfl (fun c199 => ?_) (fun c199 => ?_)
            · exact absurd c199 (by first | decide | omega)
            refine x_iconstN (q := 1) rfl ?_
            refine x_goto rfl ?_
            refine x_istore (ls' := [_, _, _, _, _, _, _, _, _, _]) rfl rfl rfl ?_
            refine x_iload rfl rfl ?_
            refine x_ifN_eq rfl (fun c211 => ?_) (fun c211 => ?_)
            · exact absurd c211 (by first | decide | omega)
            refine x_iload rfl rfl ?_
            refine x_iload rfl rfl ?_
            refine x_iconst rfl ?_
            refine x_isub rfl ?_
            refine x_max rfl rfl ?_
            rw [max_nI (by omega) (by omega)]
            refine x_istore (ls' := [_, _, _, _, _, _, _, _, _, _]) rfl rfl rfl ?_
            refine x_goto rfl ?_
            refine x_goto rfl ?_
            refine x_iincN (q := 2) (ls' := [_, _, _, _, _, _, _, _, _, _]) rfl rfl rfl rfl ?_
            refine x_goto rfl ?_
            exact ih (max i (cd (i + 1) - 2) + 2) (a :: s1) V _ _ _ (by omega) (by omega) (by omega) hsl (fun _ => hB.mono (by omega)) hS hF hP
        cases s1 with
        | nil =>
          rw [vm_one cx c1 c2 c3 c4 c5] at hP
          simp only [List.length_nil, Nat.zero_add]
          refine x_iload rfl rfl ?_
          refine x_iconstN (q := 1) rfl ?_
          refine x_iaddN rfl ?_
          refine x_aload rfl rfl ?_
          refine x_alen0 rfl hcl ?_
          refine x_icmpN_ge rfl (fun c26 => ?_) (fun c26 => ?_)
          · exact absurd c26 (by first | decide | omega)
          refine x_aload rfl rfl ?_
          refine x_iload rfl rfl ?_
          refine x_ialE (j := i) rfl (hcl) (hn := hLn) (rfl) (by omega) (hcd i (by omega)) ?_
          refine x_ifN_eq rfl (fun c34 => ?_) (fun c34 => ?_)
          · exact absurd c34 (by first | decide | omega)
          refine x_aload rfl rfl ?_
          refine x_iload rfl rfl ?_
          refine x_ialE (j := i) rfl (hcl) (hn := hLn) (rfl) (by omega) (hcd i (by omega)) ?_
          refine x_istore (ls' := [_, _, _, _, _, _, _, _, _, _]) rfl rfl rfl ?_
          refine x_aload rfl rfl ?_
          refine x_iload rfl rfl ?_
          refine x_iconstN (q := 1) rfl ?_
          refine x_iaddN rfl ?_
          refine x_ialE (j := i + 1) rfl (hcl) (hn := hLn) (rfl) (by omega) (hcd (i + 1) (by omega)) ?_
          refine x_istore (ls' := [_, _, _, _, _, _, _, _, _, _]) rfl rfl rfl ?_
          refine x_iload rfl rfl ?_
          refine x_iconstN (q := 1) rfl ?_
          refine x_icmpN_eq rfl (fun c56 => ?_) (fun c56 => ?_)
          · exact absurd c56 (by first | decide | omega)
          refine x_iload rfl rfl ?_
          refine x_iconstN (q := 2) rfl ?_
          refine x_icmpN_ne rfl (fun c62 => ?_) (fun c62 => ?_)
          rotate_left
          · exact absurd c62 (by first | decide | omega)
          refine x_iload rfl rfl ?_
          refine x_iconstN (q := 1) rfl ?_
          refine x_icmpN_ge rfl (fun c124 => ?_) (fun c124 => ?_)
          rotate_left
          · exact absurd c124 (by first | decide | omega)
          refine x_iload rfl rfl ?_
          refine x_iconstN (q := 3) rfl ?_
          refine x_icmpN_ne rfl (fun c133 => ?_) (fun c133 => ?_)
          rotate_left
          · exact absurd c133 (by first | decide | omega)
          refine x_iload rfl rfl ?_
          refine x_iconstN (q := 4) rfl ?_
          refine x_icmpN_eq rfl (fun c162 => ?_) (fun c162 => ?_)
          · exact absurd c162 (by first | decide | omega)
          refine x_iload rfl rfl ?_
          refine x_iconstN (q := 5) rfl ?_
          refine x_icmpN_ne rfl (fun c168 => ?_) (fun c168 => ?_)
          rotate_left
          · exact absurd c168 (by first | decide | omega)
          refine x_iload rfl rfl ?_
          refine x_iconstN (q := 2) rfl ?_
          refine x_icmpN_ge rfl (fun c237 => ?_) (fun c237 => ?_)
          · exact absurd c237 (by first | decide | omega)
          refine x_ldc rfl ?_
          refine x_iret rfl rfl ?_
          exact hP V hF | cons q s2 =>
          rw [vm_jn cx c1 c2 c3 c4 c5] at hP
          have hsl2 : s2.length + 1 + 1 ≤ 64 := hsl'
          have hq := hB.tail.head
          have hv2 := hS.2.1
          have hv1 : V 2 (s2.length + 1) = Int32.ofInt a := hv
          have t1 : ((Int32.ofInt q).toInt64).toInt = q := by rw [Int32.toInt_toInt64, oI_toInt (by omega) (by omega)]
          have t2 : ((Int32.ofInt a).toInt64).toInt = a := by rw [Int32.toInt_toInt64, oI_toInt (by omega) (by omega)]
          simp only [List.length_cons]
          refine x_iload rfl rfl ?_
          refine x_iconstN (q := 1) rfl ?_
          refine x_iaddN rfl ?_
          refine x_aload rfl rfl ?_
          refine x_alen0 rfl hcl ?_
          refine x_icmpN_ge rfl (fun c26 => ?_) (fun c26 => ?_)
          · exact absurd c26 (by first | decide | omega)
          refine x_aload rfl rfl ?_
          refine x_iload rfl rfl ?_
          refine x_ialE (j := i) rfl (hcl) (hn := hLn) (rfl) (by omega) (hcd i (by omega)) ?_
          refine x_ifN_eq rfl (fun c34 => ?_) (fun c34 => ?_)
          · exact absurd c34 (by first | decide | omega)
          refine x_aload rfl rfl ?_
          refine x_iload rfl rfl ?_
          refine x_ialE (j := i) rfl (hcl) (hn := hLn) (rfl) (by omega) (hcd i (by omega)) ?_
          refine x_istore (ls' := [_, _, _, _, _, _, _, _, _, _]) rfl rfl rfl ?_
          refine x_aload rfl rfl ?_
          refine x_iload rfl rfl ?_
          refine x_iconstN (q := 1) rfl ?_
          refine x_iaddN rfl ?_
          refine x_ialE (j := i + 1) rfl (hcl) (hn := hLn) (rfl) (by omega) (hcd (i + 1) (by omega)) ?_
          refine x_istore (ls' := [_, _, _, _, _, _, _, _, _, _]) rfl rfl rfl ?_
          refine x_iload rfl rfl ?_
          refine x_iconstN (q := 1) rfl ?_
          refine x_icmpN_eq rfl (fun c56 => ?_) (fun c56 => ?_)
          · exact absurd c56 (by first | decide | omega)
          refine x_iload rfl rfl ?_
          refine x_iconstN (q := 2) rfl ?_
          refine x_icmpN_ne rfl (fun c62 => ?_) (fun c62 => ?_)
          rotate_left
          · exact absurd c62 (by first | decide | omega)
          refine x_iload rfl rfl ?_
          refine x_iconstN (q := 1) rfl ?_
          refine x_icmpN_ge rfl (fun c124 => ?_) (fun c124 => ?_)
          rotate_left
          · exact absurd c124 (by first | decide | omega)
          refine x_iload rfl rfl ?_
          refine x_iconstN (q := 3) rfl ?_
          refine x_icmpN_ne rfl (fun c133 => ?_) (fun c133 => ?_)
          rotate_left
          · exact absurd c133 (by first | decide | omega)
          refine x_iload rfl rfl ?_
          refine x_iconstN (q := 4) rfl ?_
          refine x_icmpN_eq rfl (fun c162 => ?_) (fun c162 => ?_)
          · exact absurd c162 (by first | decide | omega)
          refine x_iload rfl rfl ?_
          refine x_iconstN (q := 5) rfl ?_
          refine x_icmpN_ne rfl (fun c168 => ?_) (fun c168 => ?_)
          rotate_left
          · exact absurd c168 (by first | decide | omega)
          refine x_iload rfl rfl ?_
          refine x_iconstN (q := 2) rfl ?_
          refine x_icmpN_ge rfl (fun c237 => ?_) (fun c237 => ?_)
          rotate_left
          · exact absurd c237 (by first | decide | omega)
          skip
          refine x_iincD (q := s2.length + 1) (ls' := [_, _, _, _, _, _, _, _, _, _]) rfl rfl rfl rfl ?_
          refine x_aload_n rfl rfl ?_
          refine x_getR (u := .ref _) rfl rfl rfl rfl ?_
          refine x_iload rfl rfl ?_
          refine x_iconstN (q := 1) rfl ?_
          refine x_isubN rfl ?_
          refine x_iload rfl rfl ?_
          refine x_aload_n rfl rfl ?_
          refine x_getR (u := .ref _) rfl rfl rfl rfl ?_
          refine x_iload rfl rfl ?_
          refine x_iconstN (q := 1) rfl ?_
          refine x_isubN rfl ?_
          refine x_ialE (j := s2.length) rfl rfl (rfl) (by omega) (hv2) ?_
          refine x_i2l rfl ?_
          refine x_aload_n rfl rfl ?_
          refine x_getR (u := .ref _) rfl rfl rfl rfl ?_
          refine x_iload rfl rfl ?_
          refine x_ialE (j := s2.length + 1) rfl rfl (rfl) (by omega) (hv1) ?_
          refine x_i2l rfl ?_
          refine x_callS (M' := mi78) (As := [_, _, _]) (bc1 := 0) (bs1 := 0) (bc2 := 0) (bs2 := 0) rfl rfl rfl rfl ok78 rfl rfl rfl rfl rfl rfl ?_
          refine x_joined (by omega) (by rw [t1]; omega) (by rw [t2]; omega) ?_
          rw [t1, t2]
          refine x_iasN (j := s2.length) rfl rfl (rfl) (by omega) ?_
          refine x_aload_n rfl rfl ?_
          refine x_getR (u := .ref _) rfl rfl rfl rfl ?_
          refine x_iload rfl rfl ?_
          refine x_iconstN (q := 1) rfl ?_
          refine x_isubN rfl ?_
          refine x_ialE (j := s2.length) rfl rfl (rfl) (by omega) (up_at) ?_
          skip
          cases hj : jn (cd i) q a with
          | none =>
            rw [hj] at hP
            refine x_ldc rfl ?_
            refine x_icmp_ne rfl (fun c289 => ?_) (fun c289 => ?_)
            · exact absurd rfl c289
            refine x_ldc rfl ?_
            refine x_iret rfl rfl ?_
            exact hP _ hF.up | some v =>
            rw [hj] at hP
            have hvb : -1000000000 ≤ v ∧ v ≤ 1000000000 := jn_bd hj
            have hvn : ¬ obr (some v) = -2000000000 := fun z => by
              have z2 := congrArg Int32.toInt z
              rw [show (obr (some v)) = Int32.ofInt v from rfl, oI_toInt (by omega) (by omega), show ((-2000000000 : Int32)).toInt = -2000000000 from rfl] at z2
              omega
            refine x_ldc rfl ?_
            refine x_icmp_ne rfl (fun c289 => ?_) (fun c289 => ?_)
            rotate_left
            · exact absurd c289 hvn
            refine x_iincN (q := 2) (ls' := [_, _, _, _, _, _, _, _, _, _]) rfl rfl rfl rfl ?_
            refine x_goto rfl ?_
            exact ih (i + 2) (v :: s2) _ _ _ _ (by omega) (by omega) (by omega) (by simp only [List.length_cons]; omega) (fun _ => (hB.tail.tail.mono (by omega)).cons (by omega) (by omega)) ⟨up_at, hS.2.2.up (Nat.le_refl _)⟩ hF.up hP
    · rw [vm_end cx] at hP
      by_cases cL : i + 1 < L
      · have cz : cd i = 0 := Decidable.not_not.mp (fun z => cx ⟨cL, z⟩)
        have hcd : ∀ k, k < L → V c k = nI (cd k) := fun k hk => (hF c k hc2).trans (hcode k hk).2
        refine x_iload rfl rfl ?_
        refine x_iconstN (q := 1) rfl ?_
        refine x_iaddN rfl ?_
        refine x_aload rfl rfl ?_
        refine x_alen0 rfl hcl ?_
        refine x_icmpN_ge rfl (fun c26 => ?_) (fun c26 => ?_)
        · exact absurd c26 (by first | decide | omega)
        refine x_aload rfl rfl ?_
        refine x_iload rfl rfl ?_
        refine x_ialE (j := i) rfl (hcl) (hn := hLn) (rfl) (by omega) (hcd i (by omega)) ?_
        refine x_ifN_eq rfl (fun c34 => ?_) (fun c34 => ?_)
        rotate_left
        · exact absurd c34 (by first | decide | omega)
        exact val_end hS hsl (hP V hF)
      · refine x_iload rfl rfl ?_
        refine x_iconstN (q := 1) rfl ?_
        refine x_iaddN rfl ?_
        refine x_aload rfl rfl ?_
        refine x_alen0 rfl hcl ?_
        refine x_icmpN_ge rfl (fun c26 => ?_) (fun c26 => ?_)
        rotate_left
        · exact absurd c26 (by first | decide | omega)
        exact val_end hS hsl (hP V hF)
end Val2
