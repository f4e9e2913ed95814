/-! ===== clauses of orders, the model's orders ===== -/
section OkC
variable {tc tv : Nat → Nat}
set_option maxRecDepth 20000 in
theorem pIf_c {o : Bool} {i p kd tm : Nat} {x y z : Den} : (pIf o tc tv i p kd tm x y z).2.2.2.1 = kd ∧ (pIf o tc tv i p kd tm x y z).2.2.2.2.1 = tm ∧ (pIf o tc tv i p kd tm x y z).2.2.2.2.2.1 = x := by
  unfold pIf
  split
  · split
    · exact ⟨rfl, rfl, rfl⟩
    · exact ⟨rfl, rfl, rfl⟩
  · exact ⟨rfl, rfl, rfl⟩
set_option maxRecDepth 20000 in
theorem pTimes_c {i p kd : Nat} {x y z : Den} (h : (pTimes tc tv i p kd x y z).1 = 1) : (pTimes tc tv i p kd x y z).2.2.2.1 = kd ∧ (pTimes tc tv i p kd x y z).2.2.2.2.1 ≤ 20 ∧ (pTimes tc tv i p kd x y z).2.2.2.2.2.1 = x := by
  by_cases c27 : tc i = 27
  · by_cases c50 : tc (i + 1) = 50 ∧ 1 ≤ tv (i + 1) ∧ tv (i + 1) ≤ 20
    · have e : pTimes tc tv i p kd x y z = pIf true tc tv (i + 2) p kd (tv (i + 1)) x y z := by
        unfold pTimes
        rw [if_pos c27, if_pos c50]
      rw [e]
      obtain ⟨e1, e2, e3⟩ := pIf_c (o := true) (tc := tc) (tv := tv) (i := i + 2) (p := p) (kd := kd) (tm := tv (i + 1)) (x := x) (y := y) (z := z)
      exact ⟨e1, by rw [e2]; exact c50.2.2, e3⟩
    · have e : pTimes tc tv i p kd x y z = (0, i + 1, p, kd, 1, x, y, z, 0, dz) := by
        unfold pTimes
        rw [if_pos c27, if_neg c50]
      rw [e] at h
      exact absurd h (by show ¬ 0 = 1; omega)
  · have e : pTimes tc tv i p kd x y z = pIf true tc tv i p kd 1 x y z := if_neg c27
    rw [e]
    obtain ⟨e1, e2, e3⟩ := pIf_c (o := true) (tc := tc) (tv := tv) (i := i) (p := p) (kd := kd) (tm := 1) (x := x) (y := y) (z := z)
    exact ⟨e1, by rw [e2]; omega, e3⟩
set_option maxRecDepth 20000 in
theorem pcb_c {r : PRd} {k : Nat → Nat → Den → PCl} (h : (pcb r k).1 = 1) : pcb r k = k r.2.1 r.2.2.1 r.2.2.2 := by
  unfold pcb at h ⊢
  by_cases c : r.1 = 1
  · rw [if_pos c]
  · rw [if_neg c] at h
    exact absurd h c
set_option maxRecDepth 20000 in
theorem pOrdC_ok {i p : Nat} (h : (pOrdC tc tv i p).1 = 1) : okC (pOrdC tc tv i p).2.2.2 ∧ tc i ≠ 0 := by
  by_cases c21 : tc i = 21
  · have e : pOrdC tc tv i p = pcb (pSum true tc tv (i + 1) p) (fun i1 p1 x => if tc i1 = 22 then pcb (pSum true tc tv (i1 + 1) p1) (fun i2 p2 y => if tc i2 = 23 then pcb (pSum true tc tv (i2 + 1) p2) (fun i3 p3 z => pTimes tc tv i3 p3 0 x y z) else (0, i2, p2, 0, 1, dz, dz, dz, 0, dz)) else (0, i1, p1, 0, 1, dz, dz, dz, 0, dz)) := by
      unfold pOrdC
      rw [if_pos c21]
    rw [e] at h ⊢
    have e1 := pcb_c h
    rw [e1] at h ⊢
    try dsimp only at h ⊢
    split at h
    · rename_i c22
      rw [if_pos c22]
      have e2 := pcb_c h
      rw [e2] at h ⊢
      try dsimp only at h ⊢
      split at h
      · rename_i c23
        rw [if_pos c23]
        have e3 := pcb_c h
        rw [e3] at h ⊢
        try dsimp only at h ⊢
        obtain ⟨q1, q2, q3⟩ := pTimes_c h
        exact ⟨⟨by rw [q1]; omega, q2, fun z => absurd (q1.symm.trans z) (by omega)⟩, by omega⟩
      · exact absurd h (by show ¬ 0 = 1; omega)
    · exact absurd h (by show ¬ 0 = 1; omega)
  · by_cases c24 : tc i = 24 ∨ tc i = 25
    · have e : pOrdC tc tv i p = pcb (pSum true tc tv (i + 1) p) (fun i1 p1 x => pTimes tc tv i1 p1 (tc i - 23) x dz dz) := by
        unfold pOrdC
        rw [if_neg c21, if_pos c24]
      rw [e] at h ⊢
      have e1 := pcb_c h
      rw [e1] at h ⊢
      try dsimp only at h ⊢
      obtain ⟨q1, q2, q3⟩ := pTimes_c h
      exact ⟨⟨by rw [q1]; omega, q2, fun z => absurd (q1.symm.trans z) (by omega)⟩, by omega⟩
    · by_cases c26 : tc i = 26
      · have e : pOrdC tc tv i p = pTimes tc tv (i + 1) p 3 dz dz dz := by
          unfold pOrdC
          rw [if_neg c21, if_neg c24, if_pos c26]
        rw [e] at h ⊢
        obtain ⟨q1, q2, q3⟩ := pTimes_c h
        exact ⟨⟨by rw [q1]; omega, q2, fun _ => q3⟩, by omega⟩
      · have e : pOrdC tc tv i p = (0, i, p, 0, 1, dz, dz, dz, 0, dz) := by
          unfold pOrdC
          rw [if_neg c21, if_neg c24, if_neg c26]
        rw [e] at h
        exact absurd h (by show ¬ 0 = 1; omega)
set_option maxRecDepth 20000 in
theorem pTxt_okC {n : Nat} : ∀ (m i p : Nat), (pTxt true tc tv n m i p).1 = 1 → ∀ (j : Nat) (c : Cla), (pTxt true tc tv n m i p).2.2[j]? = some c → okC c := by
  intro m
  induction m with
  | zero => intro i p h; exact absurd h (by show ¬ 0 = 1; omega)
  | succ m ih =>
    intro i p h j c hj
    rw [pTxt_s (o := true) (n := n) (m' := m) (i := i) (p := p)] at h hj
    by_cases k1 : (pCl true tc tv i p).1 = 1
    · rw [if_pos k1] at h hj
      have hc : okC (pCl true tc tv i p).2.2.2 := (pOrdC_ok (tc := tc) (tv := tv) (i := i) (p := p) k1).1
      by_cases k2 : (pCl true tc tv i p).2.1 = n
      · rw [if_pos k2] at hj
        rcases j with _ | j
        · rw [← Option.some.inj hj]; exact hc
        · exact absurd hj (by show ¬ none = some c; exact fun z => by cases z)
      · rw [if_neg k2] at h hj
        by_cases k3 : tc (pCl true tc tv i p).2.1 = 159
        · rw [if_pos k3] at h hj
          rcases j with _ | j
          · rw [← Option.some.inj hj]; exact hc
          · exact ih _ _ h j c hj
        · rw [if_neg k3] at h
          exact absurd h (by show ¬ 0 = 1; omega)
    · rw [if_neg k1] at h
      exact absurd h k1
end OkC
section MCls
variable {d : Nat} {V V0 : VIT} {VL : VLT} {G : VRT} {P : Post} {ext : HL} {N : Nat} {tc tv : Nat → Nat} {K0 : KT}
set_option maxRecDepth 20000 in
theorem m_cls {u1 : Int32} (hO : OrS K0 N tc tv) (hL : LwK K0) (h96 : K0 96 ≤ 6) : ∀ (m q i p : Nat) (s : OS) (V : VIT) (VL : VLT) (z4 : Value), q + m = 12 → (pTxt true tc tv N m i p).1 = 1 → i ≤ N → okO s → s.2.2.2.2.1 ≤ 20 * q → (∀ k, 39 ≤ k → s.1 k = K0 k) → MO s V → V 74 43 = nI (2400 + i) → FrMO V0 V →
  (∀ (s' : OS) (V' : VIT) (VL' : VLT), lsO (pTxt true tc tv N m i p).2.2 q s = .inl s' → okO s' → (∀ k, 39 ≤ k → s'.1 k = K0 k) → MO s' V' → FrMO V0 V' → s'.2.2.2.2.1 ≤ 1000 → P (some (.int (nI s'.2.2.2.2.1))) (LY ++ ext) (up V' 74 0 0) VL' (vr G)) →
  (∀ (n : Nat) (V' : VIT) (VL' : VLT) (z4 : Value) (K' : KT), lsO (pTxt true tc tv N m i p).2.2 q s = .inr n → n < 12 → RK (V' 76) K' → (∀ k, 39 ≤ k → K' k = K0 k) → FrMO V0 V' → Ex (d + 53) mi269 114 [.ref 74, .int u1, .int (nI (2400 + N)), .int (nI n), z4] [] (LY ++ ext) V' VL' (vr G) 0 0 P) →
  Ex (d + 53) mi269 95 [.ref 74, .int u1, .int (nI (2400 + N)), .int (nI q), z4] [] (LY ++ ext) V VL (vr G) 0 0 P := by
  have hN := hO.1
  have hexit : ∀ (e q : Nat) (s : OS) (V : VIT) (VL : VLT) (z4 : Value), N ≤ e → e ≤ N + 1 → MO s V → V 74 43 = nI (2400 + e) → P (some (.int (nI s.2.2.2.2.1))) (LY ++ ext) (up V 74 0 0) VL (vr G) → Ex (d + 53) mi269 95 [.ref 74, .int u1, .int (nI (2400 + N)), .int (nI q), z4] [] (LY ++ ext) V VL (vr G) 0 0 P := by
    intro e q s V VL z4 he he2 hX h43 hk
    refine x_aload_n rfl rfl ?_
    refine x_getE (y := 43) rfl rfl rfl h43 ?_
    refine x_iload_n rfl rfl ?_
    refine x_icmpN_ge rfl (fun c100 => ?_) (fun c100 => ?_)
    rotate_left
    · exact absurd c100 (by first | decide | omega)
    refine x_aload_n rfl rfl ?_
    refine x_aload_n rfl rfl ?_
    refine x_getE (y := 27) rfl rfl rfl hX.2.2.2.1 ?_
    refine x_callV (M' := mi155) (As := [_]) (bc1 := 0) (bs1 := 0) (bc2 := 0) (bs2 := 0) rfl rfl rfl rfl ok155 rfl rfl (by decide) rfl rfl rfl rfl rfl rfl ?_
    refine m_good ?_
    refine x_iret rfl rfl ?_
    exact hk
  intro m
  induction m with
  | zero => intro q i p s V VL z4 hq hp; exact absurd hp (by show ¬ 0 = 1; omega)
  | succ m ih =>
    intro q i p s V VL z4 hq hp hi hs hr hK hX h43 hF h1 h0
    rw [pTxt_s (o := true) (n := N) (m' := m) (i := i) (p := p)] at hp h1 h0
    by_cases k1 : (pCl true tc tv i p).1 = 1
    · rw [if_pos k1] at hp h1 h0
      obtain ⟨hc, hne⟩ := pOrdC_ok (tc := tc) (tv := tv) (i := i) (p := p) k1
      have hin : i < N := Nat.lt_of_not_le (fun z => hne (hO.2.2.1 i z))
      rcases hpc : pOrdC tc tv i p with ⟨w, i', p', c⟩
      have hpc' : pCl true tc tv i p = (w, i', p', c) := hpc
      rw [hpc'] at k1 hp h1 h0
      rw [hpc] at hc
      dsimp only at k1 hp h1 h0 hc
      subst k1
      by_cases k2 : i' = N
      · rw [if_pos k2] at h1 h0
        dsimp only at h1 h0
        have hls : lsO [c] q s = (tmO c c.2.1 s).elim (.inr q) (fun s' => .inl s') := rfl
        refine x_aload_n rfl rfl ?_
        refine x_getE (y := 43) rfl rfl rfl h43 ?_
        refine x_iload_n rfl rfl ?_
        refine x_icmpN_ge rfl (fun c100 => ?_) (fun c100 => ?_)
        · exact absurd c100 (by first | decide | omega)
        refine x_aload_n rfl rfl ?_
        refine x_iload_n rfl rfl ?_
        refine x_callV (M' := mi273) (As := [_]) (bc1 := 0) (bs1 := 0) (bc2 := 0) (bs2 := 0) rfl rfl rfl rfl ok273 rfl rfl (by decide) rfl rfl rfl rfl rfl rfl ?_
        refine m_runs (d := d) (V0 := V0) (q := q) hO hL h96 hi hpc hc (by omega) hs hr hK hX h43 hF (fun s' V' VL' e1 o1 o2 o3 hX' hi' h43' hF' => ?_) (fun V' VL' K' e1 r1 r2 hF' => ?_)
        skip
        · refine x_ifN_eq rfl (fun c108 => ?_) (fun c108 => ?_)
          · exact absurd c108 (by first | decide | omega)
          refine x_goto rfl ?_
          refine x_iincN (q := 1) (ls' := [_, _, _, _, _]) rfl rfl rfl rfl ?_
          refine x_goto rfl ?_
          exact hexit (i' + 1) (q + 1) s' V' VL' _ (by omega) (by omega) hX' h43' (h1 s' V' VL' (by rw [hls, e1]; rfl) o1 o3 hX' hF' (by omega))
        · refine x_ifN_eq rfl (fun c108 => ?_) (fun c108 => ?_)
          rotate_left
          · exact absurd c108 (by first | decide | omega)
          exact h0 q V' VL' _ K' (by rw [hls, e1]; rfl) (by omega) r1 r2 hF'
      · rw [if_neg k2] at hp h1 h0
        by_cases k3 : tc i' = 159
        · rw [if_pos k3] at hp h1 h0
          dsimp only at hp h1 h0
          have hls : lsO (c :: (pTxt true tc tv N m (i' + 1) p').2.2) q s = (tmO c c.2.1 s).elim (.inr q) (fun s' => lsO (pTxt true tc tv N m (i' + 1) p').2.2 (q + 1) s') := rfl
          refine x_aload_n rfl rfl ?_
          refine x_getE (y := 43) rfl rfl rfl h43 ?_
          refine x_iload_n rfl rfl ?_
          refine x_icmpN_ge rfl (fun c100 => ?_) (fun c100 => ?_)
          · exact absurd c100 (by first | decide | omega)
          refine x_aload_n rfl rfl ?_
          refine x_iload_n rfl rfl ?_
          refine x_callV (M' := mi273) (As := [_]) (bc1 := 0) (bs1 := 0) (bc2 := 0) (bs2 := 0) rfl rfl rfl rfl ok273 rfl rfl (by decide) rfl rfl rfl rfl rfl rfl ?_
          refine m_runs (d := d) (V0 := V0) (q := q) hO hL h96 hi hpc hc (by omega) hs hr hK hX h43 hF (fun s' V' VL' e1 o1 o2 o3 hX' hi' h43' hF' => ?_) (fun V' VL' K' e1 r1 r2 hF' => ?_)
          skip
          · rw [hls, e1] at h1 h0
            refine x_ifN_eq rfl (fun c108 => ?_) (fun c108 => ?_)
            · exact absurd c108 (by first | decide | omega)
            refine x_goto rfl ?_
            refine x_iincN (q := 1) (ls' := [_, _, _, _, _]) rfl rfl rfl rfl ?_
            refine x_goto rfl ?_
            exact ih (q + 1) (i' + 1) p' s' V' VL' _ (by omega) hp (by omega) o1 o2 o3 hX' h43' hF' h1 h0
          · refine x_ifN_eq rfl (fun c108 => ?_) (fun c108 => ?_)
            rotate_left
            · exact absurd c108 (by first | decide | omega)
            exact h0 q V' VL' _ K' (by rw [hls, e1]; rfl) (by omega) r1 r2 hF'
        · rw [if_neg k3] at hp
          exact absurd hp (by show ¬ 0 = 1; omega)
    · rw [if_neg k1] at hp
      exact absurd hp k1
end MCls
