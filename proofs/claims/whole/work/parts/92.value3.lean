/-! ===== the class: a sum's value, whether it is so, a clause's head ===== -/
set_option maxRecDepth 20000 in
theorem vm_bd {nw L : Nat} {cd : Nat → Nat} {e : Nat → Int} (hcode : ∀ k, k < L → cd k < 1000000) (he : ∀ k, k < nw → -1000000000 ≤ e k ∧ e k ≤ 1000000000) : ∀ (f i m : Nat) (s : List Int) (v : Int), Bd m s → vm nw cd L e f i s = some v → -(1000000000 + ((m + 2 * f : Nat) : Int)) ≤ v ∧ v ≤ 1000000000 + ((m + 2 * f : Nat) : Int)
  | 0, i, m, s, v, hB, h => by
    rw [vm.eq_def] at h
    cases h
  | f + 1, i, m, s, v, hB, h => by
    have ih := vm_bd hcode he f
    by_cases cx : i + 1 < L ∧ cd i ≠ 0
    · have b1 := hcode (i + 1) (by omega)
      by_cases c1 : cd i = 1
      · rw [vm_num cx c1] at h
        split at h
        · cases h
        · have := ih (i + 2) (m + 2) _ v ((hB.mono (by omega)).cons (by omega) (by omega)) h
          omega
      by_cases c2 : cd i = 2
      · rw [vm_word cx c2] at h
        split at h
        · cases h
        · rename_i hn
          have hw := he (cd (i + 1)) (by omega)
          have := ih (i + 2) (m + 2) _ v ((hB.mono (by omega)).cons (by omega) (by omega)) h
          omega
      cases s with
      | nil => rw [vm_nil cx c1 c2] at h; cases h
      | cons a s1 =>
        have ha := hB.head
        by_cases c3 : cd i = 3
        · rw [vm_not cx c3] at h
          have := ih (i + 2) (m + 2) _ v ((hB.tail.mono (by omega)).cons (by omega) (by omega)) h
          omega
        by_cases c4 : cd i = 4
        · rw [vm_and cx c4] at h
          split at h
          · have := ih _ (m + 2) _ v (hB.mono (by omega)) h
            omega
          · have := ih _ (m + 2) _ v (hB.tail.mono (by omega)) h
            omega
        by_cases c5 : cd i = 5
        · rw [vm_or cx c5] at h
          split at h
          · have := ih _ (m + 2) _ v (hB.tail.mono (by omega)) h
            omega
          · have := ih _ (m + 2) _ v (hB.mono (by omega)) h
            omega
        cases s1 with
        | nil => rw [vm_one cx c1 c2 c3 c4 c5] at h; cases h
        | cons q s2 =>
          rw [vm_jn cx c1 c2 c3 c4 c5] at h
          cases hj : jn (cd i) q a with
          | none => rw [hj] at h; cases h
          | some u =>
            rw [hj] at h
            have hu := jn_bd hj
            have := ih (i + 2) (m + 2) (u :: s2) v ((hB.tail.tail.mono (by omega)).cons (by omega) (by omega)) h
            omega
    · rw [vm_end cx] at h
      cases s with
      | nil => cases h
      | cons a t =>
        cases t with
        | nil =>
          have e1 : some a = some v := h
          injection e1 with e1
          subst e1
          have := hB.head
          omega
        | cons q t => cases h
def soB : Option Int → Bool
  | none => false
  | some a => decide (a ≠ 0)
section Val3
variable {d : Nat} {V : VIT} {VL : VLT} {G : VRT} {P : Post} {ext : HL} {b c wa nw L st : Nat} {cd : Nat → Nat} {e : Nat → Int}
set_option maxRecDepth 20000 in
theorem s_value (hb : (LY ++ ext)[b]? = some (.inr 9)) (hVR : vr G b 1 = .ref c) (hcl : (LY ++ ext)[c]? = some (.inl (0, L))) (hwl : (LY ++ ext)[wa]? = some (.inl (0, nw))) (hL : L ≤ 896) (hnw : nw ≤ 36) (hc2 : c ≠ 2) (hw2 : wa ≠ 2) (hcode : ∀ k, k < L → cd k < 1000000 ∧ V c k = nI (cd k)) (hwd : ∀ k, k < nw → V wa k = Int32.ofInt (e k) ∧ -1000000000 ≤ e k ∧ e k ≤ 1000000000) (hst : st < L) (hP : ∀ V' : VIT, FrS V V' → P (some (.int (obr (vm nw cd L e 1000 st [])))) (LY ++ ext) V' VL (vr G)) : Ex (d + 1) mi77 0 (entL [.ref 1, .ref b, .int (nI st), .ref wa] 10) [] (LY ++ ext) V VL (vr G) 0 0 P := by
  refine x_aload_n rfl rfl ?_
  refine x_getR (u := .ref c) rfl hb rfl hVR ?_
  refine x_astore (ls' := [_, _, _, _, _, _, _, _, _, _]) rfl rfl rfl ?_
  refine x_iconstN (q := 0) rfl ?_
  refine x_istore (ls' := [_, _, _, _, _, _, _, _, _, _]) rfl rfl rfl ?_
  refine x_iload_n rfl rfl ?_
  refine x_ifN_ge rfl ?_
  refine x_iload_n rfl rfl ?_
  refine x_istore (ls' := [_, _, _, _, _, _, _, _, _, _]) rfl rfl rfl ?_
  exact val_loop (V0 := V) (e := e) hcl hwl hL hnw hc2 hw2 hcode hwd 1000 st [] V _ _ _ (by omega) (by omega) (by omega) (Nat.zero_le _) (fun _ a ha => (by cases ha)) trivial (fun _ _ _ => rfl) hP
set_option maxRecDepth 20000 in
theorem s_isSo {o : Option Int} {lay : HL} {VR : VRT} (hb : ∀ a, o = some a → -1000002000 ≤ a ∧ a ≤ 1000002000) (hP : P (some (.int (b1 (soB o)))) lay V VL VR) : Ex d mi79 0 (entL [.int (obr o)] 1) [] lay V VL VR 0 0 P := by
  cases o with
  | none =>
    refine x_iload_n rfl rfl ?_
    refine x_ldc rfl ?_
    refine x_icmp_eq rfl (fun c3 => ?_) (fun c3 => ?_)
    rotate_left
    · exact absurd rfl c3
    refine x_iconst rfl ?_
    refine x_zret rfl rfl (by first | exact Or.inl rfl | exact Or.inr rfl) ?_
    exact hP | some a =>
    have ha := hb a rfl
    have h1 : ¬ obr (some a) = -2000000000 := fun z => by
      have z2 := congrArg Int32.toInt z
      rw [show (obr (some a)) = Int32.ofInt a from rfl, oI_toInt (by omega) (by omega), show ((-2000000000 : Int32)).toInt = -2000000000 from rfl] at z2
      omega
    by_cases az : a = 0
    · subst az
      refine x_iload_n rfl rfl ?_
      refine x_ldc rfl ?_
      refine x_icmp_eq rfl (fun c3 => ?_) (fun c3 => ?_)
      · exact absurd c3 h1
      refine x_iload_n rfl rfl ?_
      refine x_if_eq rfl (fun c7 => ?_) (fun c7 => ?_)
      rotate_left
      · exact absurd rfl c7
      refine x_iconst rfl ?_
      refine x_zret rfl rfl (by first | exact Or.inl rfl | exact Or.inr rfl) ?_
      exact hP
    · have h2 : ¬ obr (some a) = 0 := fun z => az ((oI_eq0 (by omega) (by omega)).mp z)
      have h3 : soB (some a) = true := by show decide (a ≠ 0) = true; rw [decide_eq_true_eq]; exact az
      rw [h3] at hP
      refine x_iload_n rfl rfl ?_
      refine x_ldc rfl ?_
      refine x_icmp_eq rfl (fun c3 => ?_) (fun c3 => ?_)
      · exact absurd c3 h1
      refine x_iload_n rfl rfl ?_
      refine x_if_eq rfl (fun c7 => ?_) (fun c7 => ?_)
      · exact absurd c7 h2
      refine x_iconst rfl ?_
      refine x_goto rfl ?_
      refine x_zret rfl rfl (by first | exact Or.inl rfl | exact Or.inr rfl) ?_
      exact hP
set_option maxRecDepth 20000 in
theorem s_head {hd n cl k : Nat} (hb : (LY ++ ext)[b]? = some (.inr 9)) (hVR : vr G b 0 = .ref hd) (hhl : (LY ++ ext)[hd]? = some (.inl (0, 72))) (hn : V b 2 = nI n) (hn12 : n ≤ 12) (hc : cl < n) (hk : k < 6) (hP : P (some (.int (V hd (6 * cl + k)))) (LY ++ ext) V VL (vr G)) : Ex d mi84 0 (entL [.ref b, .int (nI cl), .int (nI k)] 3) [] (LY ++ ext) V VL (vr G) 0 0 P := by
  have hLn : Nat.blt 72 2147483648 = true := rfl
  rw [show 6 * cl + k = cl * 6 + k by omega] at hP
  refine x_iload_n rfl rfl ?_
  refine x_ifN_lt rfl ?_
  refine x_iload_n rfl rfl ?_
  refine x_aload_n rfl rfl ?_
  refine x_getE (y := 2) rfl hb rfl hn ?_
  refine x_icmpN_ge rfl (fun c9 => ?_) (fun c9 => ?_)
  · exact absurd c9 (by first | decide | omega)
  refine x_iload_n rfl rfl ?_
  refine x_ifN_lt rfl ?_
  refine x_iload_n rfl rfl ?_
  refine x_bipushN (q := 6) rfl ?_
  refine x_icmpN_ge rfl (fun c19 => ?_) (fun c19 => ?_)
  · exact absurd c19 (by first | decide | omega)
  refine x_aload_n rfl rfl ?_
  refine x_getR (u := .ref hd) rfl hb rfl hVR ?_
  refine x_iload_n rfl rfl ?_
  refine x_bipushN (q := 6) rfl ?_
  refine x_imulN rfl ?_
  refine x_iload_n rfl rfl ?_
  refine x_iaddN rfl ?_
  refine x_ialN (j := cl * 6 + k) rfl (hhl) (hn := hLn) (rfl) (by omega) ?_
  refine x_goto rfl ?_
  refine x_iret rfl rfl ?_
  exact hP
end Val3
