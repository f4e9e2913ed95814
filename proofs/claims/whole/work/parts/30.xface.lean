/-! ===== RollsAgree: what its small methods do ===== -/
section XFace
variable {d : Nat} {VI : VIT} {VL : VLT} {G : VRT} {P : Post} {ext : HL}
theorem s_settled_ok {a : Nat} (ha : a < 2147483648) (hP : P (some (.int (nI a))) (LY ++ ext) (up VI 0 17 0) VL (vr G)) : Ex d mi145 0 (entL [.ref 0, .int (nI a)] 2) [] (LY ++ ext) VI VL (vr G) 0 0 P := by
  have e : (if (0 : Int32) < nI a then (0 : Int32) else nI a) = 0 := by
    rcases Nat.eq_zero_or_pos a with h | h
    · subst h; rfl
    · rw [if_pos (show (0 : Int32) < nI a from nI_lt (a := 0) h (by omega))]
  refine x_aload_n rfl rfl ?_
  refine x_iload_n rfl rfl ?_
  refine x_iconst rfl ?_
  refine x_min rfl rfl ?_
  rw [e]
  refine x_putI rfl rfl rfl rfl ?_
  refine x_iload_n rfl rfl ?_
  refine x_if_ge rfl (fun c10 => ?_) (fun c10 => ?_)
  rotate_left
  · exact absurd (nI_pos' (by omega)) c10
  refine x_iload_n rfl rfl ?_
  refine x_iret rfl rfl ?_
  exact hP
theorem ref_facts {v : Int32} {k : Nat} (hv : v = -nI (k + 1)) (hk : k < 6) : (if (0 : Int32) < v then (0 : Int32) else v) = v ∧ ¬ 0 ≤ v ∧ ¬ v < -6 ∧ -v - 1 = nI k := by
  subst hv
  match k, hk with
  | 0, _ => decide
  | 1, _ => decide
  | 2, _ => decide
  | 3, _ => decide
  | 4, _ => decide
  | 5, _ => decide
theorem s_settled_ref {v : Int32} (k : Nat) (hv : v = -nI (k + 1)) (hk : k < 6) (hP : P (some (.int v)) (LY ++ ext) (up (up VI 0 17 v) 73 k (VI 73 k + 1)) VL (vr G)) : Ex d mi145 0 (entL [.ref 0, .int v] 2) [] (LY ++ ext) VI VL (vr G) 0 0 P := by
  obtain ⟨e0, e1, e2, e3⟩ := ref_facts hv hk
  refine x_aload_n rfl rfl ?_
  refine x_iload_n rfl rfl ?_
  refine x_iconst rfl ?_
  refine x_min rfl rfl ?_
  rw [e0]
  refine x_putI rfl rfl rfl rfl ?_
  refine x_iload_n rfl rfl ?_
  refine x_if_ge rfl (fun c10 => ?_) (fun c10 => ?_)
  · exact absurd c10 e1
  refine x_iload_n rfl rfl ?_
  refine x_bipush rfl ?_
  refine x_icmp_lt rfl (fun c16 => ?_) (fun c16 => ?_)
  · exact absurd c16 e2
  refine x_aload_n rfl rfl ?_
  refine x_getR (u := .ref _) rfl rfl rfl rfl ?_
  refine x_iload_n rfl rfl ?_
  refine x_ineg rfl ?_
  refine x_iconst rfl ?_
  refine x_isub rfl ?_
  refine x_dup2 rfl rfl rfl ?_
  refine x_ialN (j := k) rfl rfl (e3) (by omega) ?_
  refine x_iconst rfl ?_
  refine x_iadd rfl ?_
  refine x_iasN (j := k) rfl rfl (e3) (by omega) ?_
  refine x_iload_n rfl rfl ?_
  refine x_iret rfl rfl ?_
  exact hP
def canF (f a m : Int32) : Bool := decide (¬ f < 0 ∧ ¬ 9 < f ∧ ¬ a < 0 ∧ ¬ 99 < a ∧ ¬ m < 0 ∧ ¬ 255 < m)
theorem s_canBePerson {lay : HL} {VR : VRT} {f a m : Int32} (hP : P (some (.int (b1 (canF f a m)))) lay VI VL VR) : Ex d mi90 0 (entL [.int f, .int a, .int m] 3) [] lay VI VL VR 0 0 P := by
  refine x_iload_n rfl rfl ?_
  refine x_if_lt rfl (fun c1 => ?_) (fun c1 => ?_)
  · refine x_iconst rfl ?_
    refine x_zret rfl rfl (by first | exact Or.inl rfl | exact Or.inr rfl) ?_
    exact P_i (by simp [b1, canF, *]) hP
  · refine x_iload_n rfl rfl ?_
    refine x_bipush rfl ?_
    refine x_icmp_gt rfl (fun c7 => ?_) (fun c7 => ?_)
    · refine x_iconst rfl ?_
      refine x_zret rfl rfl (by first | exact Or.inl rfl | exact Or.inr rfl) ?_
      exact P_i (by simp [b1, canF, *]) hP
    · refine x_iload_n rfl rfl ?_
      refine x_if_lt rfl (fun c11 => ?_) (fun c11 => ?_)
      · refine x_iconst rfl ?_
        refine x_zret rfl rfl (by first | exact Or.inl rfl | exact Or.inr rfl) ?_
        exact P_i (by simp [b1, canF, *]) hP
      · refine x_iload_n rfl rfl ?_
        refine x_bipush rfl ?_
        refine x_icmp_gt rfl (fun c17 => ?_) (fun c17 => ?_)
        · refine x_iconst rfl ?_
          refine x_zret rfl rfl (by first | exact Or.inl rfl | exact Or.inr rfl) ?_
          exact P_i (by simp [b1, canF, *]) hP
        · refine x_iload_n rfl rfl ?_
          refine x_if_lt rfl (fun c21 => ?_) (fun c21 => ?_)
          · refine x_iconst rfl ?_
            refine x_zret rfl rfl (by first | exact Or.inl rfl | exact Or.inr rfl) ?_
            exact P_i (by simp [b1, canF, *]) hP
          · refine x_iload_n rfl rfl ?_
            refine x_sipush rfl ?_
            refine x_icmp_gt rfl (fun c28 => ?_) (fun c28 => ?_)
            · refine x_iconst rfl ?_
              refine x_zret rfl rfl (by first | exact Or.inl rfl | exact Or.inr rfl) ?_
              exact P_i (by simp [b1, canF, *]) hP
            · refine x_iconst rfl ?_
              refine x_goto rfl ?_
              refine x_zret rfl rfl (by first | exact Or.inl rfl | exact Or.inr rfl) ?_
              exact P_i (by simp [b1, canF, *]) hP
theorem s_forgetAll (hP : P none (LY ++ ext) (up VI 45 2 0) VL (vr G)) : Ex d mi6 0 (entL [.ref 45] 1) [] (LY ++ ext) VI VL (vr G) 0 0 P := by
  refine x_aload_n rfl rfl ?_
  refine x_iconst rfl ?_
  refine x_putI rfl rfl rfl rfl ?_
  refine x_vret rfl rfl ?_
  exact hP
theorem s_takenTape (hP : P (some (.int (VI 0 13))) (LY ++ ext) (up VI 0 13 0) VL (vr G)) : Ex d mi148 0 (entL [.ref 0] 2) [] (LY ++ ext) VI VL (vr G) 0 0 P := by
  refine x_aload_n rfl rfl ?_
  refine x_getI rfl rfl rfl ?_
  refine x_istore_n (ls' := [_, _]) rfl rfl rfl ?_
  refine x_aload_n rfl rfl ?_
  refine x_iconst rfl ?_
  refine x_putI rfl rfl rfl rfl ?_
  refine x_iload_n rfl rfl ?_
  refine x_iret rfl rfl ?_
  exact hP
def mostF (w : Int32) : Int32 := if w = 0 then 999 else if w = 1 then 10 else 9
theorem s_mostOfTerm {lay : HL} {VR : VRT} {w : Int32} (hP : P (some (.int (mostF w))) lay VI VL VR) : Ex d mi151 0 (entL [.int w] 1) [] lay VI VL VR 0 0 P := by
  refine x_iload_n rfl rfl ?_
  refine x_if_ne rfl (fun c1 => ?_) (fun c1 => ?_)
  · refine x_iload_n rfl rfl ?_
    refine x_iconst rfl ?_
    refine x_icmp_ne rfl (fun c10 => ?_) (fun c10 => ?_)
    · refine x_bipush rfl ?_
      refine x_iret rfl rfl ?_
      exact P_i (by simp [mostF, *]) hP
    · refine x_bipush rfl ?_
      refine x_goto rfl ?_
      refine x_iret rfl rfl ?_
      exact P_i (by simp [mostF, *]) hP
  · refine x_sipush rfl ?_
    refine x_iret rfl rfl ?_
    exact P_i (by simp [mostF, *]) hP
end XFace
