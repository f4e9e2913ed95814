/-! ===== the model splits ===== -/
def MdT (T : Nat → Nat) (L : List (Nat × Nat)) (V : VIT) : Prop := ∀ i s, L[i]? = some s → ∃ c v, MTk T s.1 s.2 c v ∧ V 83 i = nI c ∧ V 84 i = nI v ∧ V 85 i = nI s.1
def FrMd (V0 V : VIT) : Prop := ∀ a k, a ≠ 83 → a ≠ 84 → a ≠ 85 → ¬ (a = 74 ∧ k = 18) → V a k = V0 a k
set_option maxRecDepth 20000 in
theorem nmM_le {T : Nat → Nat} : ∀ (m k x : Nat), x ≤ 11000000 → (∀ i, k ≤ i → i < k + m → T i ≤ 57) → nmM T m k x ≤ 11000000
  | 0, _, _, h, _ => h
  | m + 1, k, x, h, hT => by
    have h1 := hT k (by omega) (by omega)
    unfold nmM
    refine nmM_le m (k + 1) _ ?_ (fun i a b => hT i (by omega) (by omega))
    split <;> omega
section Split3
variable {d : Nat} {V0 V : VIT} {VL : VLT} {G : VRT} {P : Post} {ext : HL} {T : Nat → Nat} {n : Nat}
set_option maxRecDepth 20000 in
theorem m_wordOf (h80 : V 80 = VIm 80) (hT : ∀ k, k < n → T k < 256 ∧ V 81 k = sB (T k)) (hn : n ≤ 400) {a b : Nat} (hab : a < b) (hb : b ≤ n) (hP : ∀ c, WrM T a b c → P (some (.int (nI c))) (LY ++ ext) V VL (vr G)) : Ex d mi192 0 (entL [.ref 74, .int (nI a), .int (nI b)] 8) [] (LY ++ ext) V VL (vr G) 0 0 P := by
  have hw : ∀ j, j < 139 → V 80 j = nI (mW j) := fun j hj => by rw [h80]; exact mW_V j hj
  have hlp : ∀ (m w : Nat) (z5 z6 z7 : Value), w + m = 27 → (∀ i, i < w → ¬ eqT mW (woM i) (wlM i) T a b) → Ex (d + 0) mi192 5 [.ref 74, .int (nI a), .int (nI b), .int (nI (w + 1)), .int (nI (woM w)), z5, z6, z7] [] (LY ++ ext) V VL (vr G) 0 0 P := by
    intro m
    induction m with
    | zero =>
      intro w z5 z6 z7 hw27 hq
      have e : w = 27 := by omega
      subst e
      have e2 : woM 27 = 139 := rfl
      rw [e2]
      refine x_iload rfl rfl ?_
      refine x_aload_n rfl rfl ?_
      refine x_getR (u := .ref _) rfl rfl rfl rfl ?_
      refine x_alen1 rfl rfl ?_
      refine x_icmpN_ge rfl (fun c12 => ?_) (fun c12 => ?_)
      rotate_left
      · exact absurd c12 (by first | decide | omega)
      refine x_iconstN (q := 0) rfl ?_
      refine x_iret rfl rfl ?_
      exact hP 0 (Or.inl ⟨rfl, hq⟩) | succ m ih =>
      intro w z5 z6 z7 hw27 hq
      have hwl : w < 27 := by omega
      obtain ⟨o1, o2, o3⟩ := woM_step w hwl
      have h104 : ∀ (s : Nat) (z7 : Value), s ≤ 1 → (s = 1 ↔ eqT mW (woM w) (wlM w) T a b) → Ex (d + 0) mi192 104 [.ref 74, .int (nI a), .int (nI b), .int (nI (w + 1)), .int (nI (woM w)), .int (nI (wlM w)), .int (nI s), z7] [] (LY ++ ext) V VL (vr G) 0 0 P := by
        intro s z7 hs1 hs
        by_cases c : s = 1
        · have hq2 := hs.mp c
          refine x_iload rfl rfl ?_
          refine x_ifN_eq rfl (fun c106 => ?_) (fun c106 => ?_)
          · exact absurd c106 (by first | decide | omega)
          refine x_iload_n rfl rfl ?_
          refine x_iret rfl rfl ?_
          exact hP (w + 1) (Or.inr ⟨by omega, by omega, hq2⟩)
        · have hq2 : ¬ eqT mW (woM w) (wlM w) T a b := fun z => c (hs.mpr z)
          have hk := fun z5 z6 z7 => ih (w + 1) z5 z6 z7 (by omega) (fun i hi => by by_cases e : i = w; subst e; exact hq2; exact hq i (by omega))
          rw [show woM (w + 1) = woM w + (wlM w + 1) by omega] at hk
          refine x_iload rfl rfl ?_
          refine x_ifN_eq rfl (fun c106 => ?_) (fun c106 => ?_)
          rotate_left
          · exact absurd c106 (by first | decide | omega)
          refine x_iload rfl rfl ?_
          refine x_iload rfl rfl ?_
          refine x_iconstN (q := 1) rfl ?_
          refine x_iaddN rfl ?_
          refine x_iaddN rfl ?_
          refine x_istore (ls' := [_, _, _, _, _, _, _, _]) rfl rfl rfl ?_
          refine x_iincN (q := 1) (ls' := [_, _, _, _, _, _, _, _]) rfl rfl rfl rfl ?_
          refine x_goto rfl ?_
          exact hk _ _ _
      have hin : ∀ (m2 j : Nat) (z6 z7 : Value), j + m2 = wlM w → Ex (d + 0) mi192 18 [.ref 74, .int (nI a), .int (nI b), .int (nI (w + 1)), .int (nI (woM w)), .int (nI j), z6, z7] [] (LY ++ ext) V VL (vr G) 0 0 P := by
        intro m2
        induction m2 with
        | zero =>
          intro j z6 z7 hj
          have ej : j = wlM w := by omega
          subst ej
          have hv := hw (woM w + wlM w) (by omega)
          rw [o3] at hv
          refine x_aload_n rfl rfl ?_
          refine x_getR (u := .ref _) rfl rfl rfl rfl ?_
          refine x_iload rfl rfl ?_
          refine x_iload rfl rfl ?_
          refine x_iaddN rfl ?_
          refine x_balN (j := woM w + wlM w) rfl rfl (rfl) (by omega) ?_
          rw [hv]
          refine x_bipushN (q := 32) rfl ?_
          refine x_icmpN_eq rfl (fun c30 => ?_) (fun c30 => ?_)
          rotate_left
          · exact absurd c30 (by first | decide | omega)
          skip
          by_cases c : wlM w = b - a
          · have hcmp : ∀ (m3 i : Nat), i + m3 = wlM w → (∀ t, t < i → mW (woM w + t) = T (a + t)) → Ex (d + 0) mi192 57 [.ref 74, .int (nI a), .int (nI b), .int (nI (w + 1)), .int (nI (woM w)), .int (nI (wlM w)), .int (nI 1), .int (nI i)] [] (LY ++ ext) V VL (vr G) 0 0 P := by
              intro m3
              induction m3 with
              | zero =>
                intro i hi hm
                refine x_iload rfl rfl ?_
                refine x_iload rfl rfl ?_
                refine x_icmpN_ge rfl (fun c61 => ?_) (fun c61 => ?_)
                rotate_left
                · exact absurd c61 (by first | decide | omega)
                exact h104 1 _ (by omega) ⟨fun _ => ⟨c, fun t ht => hm t (by omega)⟩, fun _ => rfl⟩ | succ m3 ih3 =>
                intro i hi hm
                obtain ⟨w1, w2, w3⟩ := woM_in w hwl i (by omega)
                have hv2 := hw (woM w + i) (by omega)
                obtain ⟨t1, t2⟩ := hT (a + i) (by omega)
                by_cases ce : mW (woM w + i) = T (a + i)
                · refine x_iload rfl rfl ?_
                  refine x_iload rfl rfl ?_
                  refine x_icmpN_ge rfl (fun c61 => ?_) (fun c61 => ?_)
                  · exact absurd c61 (by first | decide | omega)
                  refine x_iload rfl rfl ?_
                  refine x_ifN_eq rfl (fun c66 => ?_) (fun c66 => ?_)
                  · exact absurd c66 (by first | decide | omega)
                  refine x_aload_n rfl rfl ?_
                  refine x_getR (u := .ref _) rfl rfl rfl rfl ?_
                  refine x_iload rfl rfl ?_
                  refine x_iload rfl rfl ?_
                  refine x_iaddN rfl ?_
                  refine x_balN (j := woM w + i) rfl rfl (rfl) (by omega) ?_
                  rw [hv2]
                  refine x_aload_n rfl rfl ?_
                  refine x_getR (u := .ref _) rfl rfl rfl rfl ?_
                  refine x_iload_n rfl rfl ?_
                  refine x_iload rfl rfl ?_
                  refine x_iaddN rfl ?_
                  refine x_balN (j := a + i) rfl rfl (rfl) (by omega) ?_
                  rw [t2]
                  refine x_icmp_ne rfl (fun c88 => ?_) (fun c88 => ?_)
                  · exact absurd ((sB_eq w2 t1).mpr ce) c88
                  refine x_iconstN (q := 1) rfl ?_
                  refine x_goto rfl ?_
                  refine x_istore (ls' := [_, _, _, _, _, _, _, _]) rfl rfl rfl ?_
                  refine x_iincN (q := 1) (ls' := [_, _, _, _, _, _, _, _]) rfl rfl rfl rfl ?_
                  refine x_goto rfl ?_
                  exact ih3 (i + 1) (by omega) (fun t ht => by by_cases e : t = i; subst e; exact ce; exact hm t (by omega))
                · refine x_iload rfl rfl ?_
                  refine x_iload rfl rfl ?_
                  refine x_icmpN_ge rfl (fun c61 => ?_) (fun c61 => ?_)
                  · exact absurd c61 (by first | decide | omega)
                  refine x_iload rfl rfl ?_
                  refine x_ifN_eq rfl (fun c66 => ?_) (fun c66 => ?_)
                  · exact absurd c66 (by first | decide | omega)
                  refine x_aload_n rfl rfl ?_
                  refine x_getR (u := .ref _) rfl rfl rfl rfl ?_
                  refine x_iload rfl rfl ?_
                  refine x_iload rfl rfl ?_
                  refine x_iaddN rfl ?_
                  refine x_balN (j := woM w + i) rfl rfl (rfl) (by omega) ?_
                  rw [hv2]
                  refine x_aload_n rfl rfl ?_
                  refine x_getR (u := .ref _) rfl rfl rfl rfl ?_
                  refine x_iload_n rfl rfl ?_
                  refine x_iload rfl rfl ?_
                  refine x_iaddN rfl ?_
                  refine x_balN (j := a + i) rfl rfl (rfl) (by omega) ?_
                  rw [t2]
                  refine x_icmp_ne rfl (fun c88 => ?_) (fun c88 => ?_)
                  rotate_left
                  · exact absurd ((sB_eq w2 t1).mp c88) ce
                  refine x_iconstN (q := 0) rfl ?_
                  refine x_istore (ls' := [_, _, _, _, _, _, _, _]) rfl rfl rfl ?_
                  refine x_iincN (q := 1) (ls' := [_, _, _, _, _, _, _, _]) rfl rfl rfl rfl ?_
                  refine x_goto rfl ?_
                  skip
                  have hno : ¬ eqT mW (woM w) (wlM w) T a b := fun z => ce (z.2 i (by omega))
                  by_cases c9 : i + 1 < wlM w
                  · refine x_iload rfl rfl ?_
                    refine x_iload rfl rfl ?_
                    refine x_icmpN_ge rfl (fun c61 => ?_) (fun c61 => ?_)
                    · exact absurd c61 (by first | decide | omega)
                    refine x_iload rfl rfl ?_
                    refine x_ifN_eq rfl (fun c66 => ?_) (fun c66 => ?_)
                    rotate_left
                    · exact absurd c66 (by first | decide | omega)
                    exact h104 0 _ (by omega) ⟨fun z => absurd z (by omega), fun z => absurd z hno⟩
                  · refine x_iload rfl rfl ?_
                    refine x_iload rfl rfl ?_
                    refine x_icmpN_ge rfl (fun c61 => ?_) (fun c61 => ?_)
                    rotate_left
                    · exact absurd c61 (by first | decide | omega)
                    exact h104 0 _ (by omega) ⟨fun z => absurd z (by omega), fun z => absurd z hno⟩
            refine x_iload rfl rfl ?_
            refine x_iload_n rfl rfl ?_
            refine x_iload_n rfl rfl ?_
            refine x_isubN rfl ?_
            refine x_icmpN_ne rfl (fun c44 => ?_) (fun c44 => ?_)
            · exact absurd c44 (by first | decide | omega)
            refine x_iconstN (q := 1) rfl ?_
            refine x_goto rfl ?_
            refine x_istore (ls' := [_, _, _, _, _, _, _, _]) rfl rfl rfl ?_
            refine x_iconstN (q := 0) rfl ?_
            refine x_istore (ls' := [_, _, _, _, _, _, _, _]) rfl rfl rfl ?_
            exact hcmp (wlM w) 0 (by omega) (fun t ht => absurd ht (by omega))
          · have hno : ¬ eqT mW (woM w) (wlM w) T a b := fun z => c z.1
            have hpos : 0 < wlM w := by
              have : ∀ w, w < 27 → 0 < wlM w := by decide +kernel
              exact this w hwl
            refine x_iload rfl rfl ?_
            refine x_iload_n rfl rfl ?_
            refine x_iload_n rfl rfl ?_
            refine x_isubN rfl ?_
            refine x_icmpN_ne rfl (fun c44 => ?_) (fun c44 => ?_)
            rotate_left
            · exact absurd c44 (by first | decide | omega)
            refine x_iconstN (q := 0) rfl ?_
            refine x_istore (ls' := [_, _, _, _, _, _, _, _]) rfl rfl rfl ?_
            refine x_iconstN (q := 0) rfl ?_
            refine x_istore (ls' := [_, _, _, _, _, _, _, _]) rfl rfl rfl ?_
            skip
            refine x_iload rfl rfl ?_
            refine x_iload rfl rfl ?_
            refine x_icmpN_ge rfl (fun c61 => ?_) (fun c61 => ?_)
            · exact absurd c61 (by first | decide | omega)
            refine x_iload rfl rfl ?_
            refine x_ifN_eq rfl (fun c66 => ?_) (fun c66 => ?_)
            rotate_left
            · exact absurd c66 (by first | decide | omega)
            exact h104 0 _ (by omega) ⟨fun z => absurd z (by omega), fun z => absurd z hno⟩ | succ m2 ih2 =>
          intro j z6 z7 hj
          obtain ⟨w1, w2, w3⟩ := woM_in w hwl j (by omega)
          have hv := hw (woM w + j) w3
          refine x_aload_n rfl rfl ?_
          refine x_getR (u := .ref _) rfl rfl rfl rfl ?_
          refine x_iload rfl rfl ?_
          refine x_iload rfl rfl ?_
          refine x_iaddN rfl ?_
          refine x_balN (j := woM w + j) rfl rfl (rfl) (by omega) ?_
          rw [hv]
          refine x_bipushN (q := 32) rfl ?_
          refine x_icmpN_eq rfl (fun c30 => ?_) (fun c30 => ?_)
          · exact absurd c30 (by first | decide | omega)
          refine x_iincN (q := 1) (ls' := [_, _, _, _, _, _, _, _]) rfl rfl rfl rfl ?_
          refine x_goto rfl ?_
          exact ih2 (j + 1) _ _ (by omega)
      refine x_iload rfl rfl ?_
      refine x_aload_n rfl rfl ?_
      refine x_getR (u := .ref _) rfl rfl rfl rfl ?_
      refine x_alen1 rfl rfl ?_
      refine x_icmpN_ge rfl (fun c12 => ?_) (fun c12 => ?_)
      · exact absurd c12 (by first | decide | omega)
      refine x_iconstN (q := 0) rfl ?_
      refine x_istore (ls' := [_, _, _, _, _, _, _, _]) rfl rfl rfl ?_
      exact hin (wlM w) 0 _ _ (by omega)
  refine x_iconstN (q := 1) rfl ?_
  refine x_istore_n (ls' := [_, _, _, _, _, _, _, _]) rfl rfl rfl ?_
  refine x_iconstN (q := 0) rfl ?_
  refine x_istore (ls' := [_, _, _, _, _, _, _, _]) rfl rfl rfl ?_
  exact hlp 27 0 _ _ _ (by omega) (fun i hi => absurd hi (by omega))
end Split3
