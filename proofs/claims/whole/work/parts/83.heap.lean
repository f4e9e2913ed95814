/-! ===== givings: the heaps ===== -/
def hst (K : KT) (q h : Nat) : Nat → Nat
  | 0 => h
  | r + 1 => if K (51 + r) = q ∧ K (30 + r) = 0 ∧ K (59 + r) &&& lmK K &&& hst K q h r ≠ 0 then hst K q h r ||| (K (59 + r) &&& lmK K) else hst K q h r
def hit (K : KT) (q p : Nat) : Nat → Nat
  | 0 => 1 * 2 ^ p
  | k + 1 => hst K q (hit K q p k) (K 94)
set_option maxRecDepth 20000 in
theorem or64 : ∀ a, a < 64 → ∀ b, b < 64 → (a ||| b < 64 ∧ popN a 6 ≤ popN (a ||| b) 6 ∧ (a ||| b ≠ a → popN a 6 < popN (a ||| b) 6) ∧ popN a 6 ≤ 6) := by decide +kernel
set_option maxRecDepth 20000 in
theorem lo_lt {K : KT} (hW : WF K) {r : Nat} (hr : r < K 94) : K (59 + r) &&& lmK K < 64 := Nat.lt_of_lt_of_le (and_lt2 hW hr) (pow6 hW.n)
set_option maxRecDepth 20000 in
theorem hst_or {K : KT} (hW : WF K) {q h : Nat} (hh : h < 64) : ∀ r, r ≤ K 94 → ∃ c, c < 64 ∧ hst K q h r = h ||| c
  | 0, _ => ⟨0, by omega, by simp [hst]⟩
  | r + 1, hr => by
    obtain ⟨c, h1, h2⟩ := hst_or hW hh r (by omega)
    by_cases hc : K (51 + r) = q ∧ K (30 + r) = 0 ∧ K (59 + r) &&& lmK K &&& hst K q h r ≠ 0
    · refine ⟨c ||| (K (59 + r) &&& lmK K), (or64 c h1 _ (lo_lt hW (by omega))).1, ?_⟩
      show (if _ then _ else _) = _
      rw [if_pos hc, h2, Nat.or_assoc]
    · refine ⟨c, h1, ?_⟩
      show (if _ then _ else _) = _
      rw [if_neg hc, h2]
set_option maxRecDepth 20000 in
theorem hst_lt {K : KT} (hW : WF K) {q h : Nat} (hh : h < 64) {r : Nat} (hr : r ≤ K 94) : hst K q h r < 64 := by
  obtain ⟨c, h1, h2⟩ := hst_or (q := q) hW hh r hr
  rw [h2]; exact (or64 h hh c h1).1
set_option maxRecDepth 20000 in
theorem p2_64 : ∀ p, p < 6 → 1 * 2 ^ p < 64 ∧ popN (1 * 2 ^ p) 6 = 1 ∧ (1 * 2 ^ p).testBit p = true ∧ 0 < 1 * 2 ^ p := by decide +kernel
set_option maxRecDepth 20000 in
theorem hit_lt {K : KT} (hW : WF K) {q p : Nat} (hp : p < 6) : ∀ k, hit K q p k < 64
  | 0 => (p2_64 p hp).1
  | k + 1 => hst_lt hW (hit_lt hW hp k) (Nat.le_refl _)
set_option maxRecDepth 20000 in
theorem hit_bit {K : KT} (hW : WF K) {q p : Nat} (hp : p < 6) : ∀ k, (hit K q p k).testBit p = true
  | 0 => (p2_64 p hp).2.2.1
  | k + 1 => by
    obtain ⟨c, h1, h2⟩ := hst_or (q := q) hW (hit_lt (q := q) hW hp k) (K 94) (Nat.le_refl _)
    show (hst K q (hit K q p k) (K 94)).testBit p = true
    rw [h2, Nat.testBit_or, hit_bit hW hp k, Bool.true_or]
set_option maxRecDepth 20000 in
theorem hit_pop {K : KT} (hW : WF K) {q p : Nat} (hp : p < 6) (k : Nat) (hn : hit K q p (k + 1) ≠ hit K q p k) : popN (hit K q p k) 6 < popN (hit K q p (k + 1)) 6 := by
  obtain ⟨c, h1, h2⟩ := hst_or (q := q) hW (hit_lt (q := q) hW hp k) (K 94) (Nat.le_refl _)
  have e : hit K q p (k + 1) = hit K q p k ||| c := h2
  rw [e] at hn ⊢
  exact (or64 _ (hit_lt hW hp k) c h1).2.2.1 hn
set_option maxRecDepth 20000 in
theorem hit_fix {K : KT} {q p k : Nat} (h : hit K q p (k + 1) = hit K q p k) : ∀ m, hit K q p (k + m) = hit K q p k
  | 0 => rfl
  | m + 1 => by
    show hst K q (hit K q p (k + m)) (K 94) = _
    rw [hit_fix h m]; exact h
section Heap
variable {d : Nat} {VI : VIT} {VL : VLT} {G : VRT} {P : Post} {ext : HL} {K : KT} {p q h : Nat}
set_option maxRecDepth 20000 in
theorem x_hst_loop {rd : Nat} (hX : RW 3 K VI) (hW : WF K) (hh : h < 64) (hq : q < 4) (hP : ∀ z w : Value, Ex (d + 2) mi27 93 [.ref 70, .int (nI p), .int (nI q), .int (nI (hst K q h (K 94))), .int (nI rd), z, w] [] (LY ++ ext) VI VL (vr G) 0 0 P) : ∀ (m r : Nat) (w : Value), r + m = K 94 → Ex (d + 2) mi27 17 [.ref 70, .int (nI p), .int (nI q), .int (nI (hst K q h r)), .int (nI rd), .int (nI r), w] [] (LY ++ ext) VI VL (vr G) 0 0 P := by
  have h6 := hW.n
  have h8 : K 94 ≤ 8 := hW.2.1
  have hdm : dmK K < 256 := Nat.lt_of_lt_of_le (mskN_lt (fun i hi => (hW.roll hi).1)) (Nat.le_trans (Nat.pow_le_pow_right (by omega) h8) (by decide))
  intro m
  induction m with
  | zero =>
    intro r w hr
    have e : r = K 94 := by omega
    subst e
    refine x_iload rfl rfl ?_
    refine x_aload_n rfl rfl ?_
    refine x_getR (u := .ref _) rfl rfl rfl rfl ?_
    refine x_getE (y := 5) rfl rfl rfl (hX.rn) ?_
    refine x_icmpN_ge rfl (fun c26 => ?_) (fun c26 => ?_)
    rotate_left
    · exact absurd c26 (by first | decide | omega)
    exact hP _ _ | succ m ih =>
    intro r w hr
    have hro := hW.roll (show r < K 94 by omega)
    have hl := lo_lt hW (show r < K 94 by omega)
    have hh2 := hst_lt (q := q) hW hh (show r ≤ K 94 by omega)
    have hl2 : K (59 + r) &&& lmK K &&& hst K q h r < 64 := Nat.lt_of_le_of_lt Nat.and_le_left hl
    have hk := fun w => ih (r + 1) w (by omega)
    by_cases hc : K (51 + r) = q ∧ K (30 + r) = 0 ∧ K (59 + r) &&& lmK K &&& hst K q h r ≠ 0
    · rw [show hst K q h (r + 1) = hst K q h r ||| (K (59 + r) &&& lmK K) from if_pos hc] at hk
      obtain ⟨c1, c2, c3⟩ := hc
      refine x_iload rfl rfl ?_
      refine x_aload_n rfl rfl ?_
      refine x_getR (u := .ref _) rfl rfl rfl rfl ?_
      refine x_getE (y := 5) rfl rfl rfl (hX.rn) ?_
      refine x_icmpN_ge rfl (fun c26 => ?_) (fun c26 => ?_)
      · exact absurd c26 (by first | decide | omega)
      refine x_aload_n rfl rfl ?_
      refine x_getR (u := .ref _) rfl rfl rfl rfl ?_
      refine x_getR (u := .ref _) rfl rfl rfl rfl ?_
      refine x_iload rfl rfl ?_
      refine x_ialE (j := r) rfl rfl (rfl) (by omega) (hX.ron (show r < K 94 by omega)) ?_
      refine x_aload_n rfl rfl ?_
      refine x_getR (u := .ref _) rfl rfl rfl rfl ?_
      refine x_getE (y := 1) rfl rfl rfl (hX.lm) ?_
      refine x_iandN rfl ?_
      refine x_istore (ls' := [_, _, _, _, _, _, _]) rfl rfl rfl ?_
      refine x_aload_n rfl rfl ?_
      refine x_getR (u := .ref _) rfl rfl rfl rfl ?_
      refine x_getR (u := .ref _) rfl rfl rfl rfl ?_
      refine x_iload rfl rfl ?_
      refine x_ialE (j := r) rfl rfl (rfl) (by omega) (hX.rday (show r < K 94 by omega)) ?_
      refine x_iload_n rfl rfl ?_
      refine x_icmpN_ne rfl (fun c60 => ?_) (fun c60 => ?_)
      · exact absurd c60 (by first | decide | omega)
      refine x_aload_n rfl rfl ?_
      refine x_getR (u := .ref _) rfl rfl rfl rfl ?_
      refine x_iload rfl rfl ?_
      refine x_callV (M' := mi99) (As := [_]) (bc1 := 0) (bs1 := 0) (bc2 := 0) (bs2 := 0) rfl rfl rfl rfl ok99 rfl rfl (by decide) rfl rfl rfl rfl rfl rfl ?_
      refine s_isDone_in hX.rn hX.dm (by omega) (by omega) hdm ?_
      rw [dm_bit hW (by omega)]
      refine x_ifN_ne rfl (fun c72 => ?_) (fun c72 => ?_)
      · exact absurd c72 (by first | decide | omega)
      refine x_iload rfl rfl ?_
      refine x_iload_n rfl rfl ?_
      refine x_iandN rfl ?_
      refine x_ifN_eq rfl (fun c79 => ?_) (fun c79 => ?_)
      · exact absurd c79 (by first | decide | omega)
      refine x_iload_n rfl rfl ?_
      refine x_iload rfl rfl ?_
      refine x_iorN rfl ?_
      refine x_istore_n (ls' := [_, _, _, _, _, _, _]) rfl rfl rfl ?_
      refine x_iincN (q := 1) (ls' := [_, _, _, _, _, _, _]) rfl rfl rfl rfl ?_
      refine x_goto rfl ?_
      exact hk _
    · rw [show hst K q h (r + 1) = hst K q h r from if_neg hc] at hk
      refine x_iload rfl rfl ?_
      refine x_aload_n rfl rfl ?_
      refine x_getR (u := .ref _) rfl rfl rfl rfl ?_
      refine x_getE (y := 5) rfl rfl rfl (hX.rn) ?_
      refine x_icmpN_ge rfl (fun c26 => ?_) (fun c26 => ?_)
      · exact absurd c26 (by first | decide | omega)
      refine x_aload_n rfl rfl ?_
      refine x_getR (u := .ref _) rfl rfl rfl rfl ?_
      refine x_getR (u := .ref _) rfl rfl rfl rfl ?_
      refine x_iload rfl rfl ?_
      refine x_ialE (j := r) rfl rfl (rfl) (by omega) (hX.ron (show r < K 94 by omega)) ?_
      refine x_aload_n rfl rfl ?_
      refine x_getR (u := .ref _) rfl rfl rfl rfl ?_
      refine x_getE (y := 1) rfl rfl rfl (hX.lm) ?_
      refine x_iandN rfl ?_
      refine x_istore (ls' := [_, _, _, _, _, _, _]) rfl rfl rfl ?_
      refine x_aload_n rfl rfl ?_
      refine x_getR (u := .ref _) rfl rfl rfl rfl ?_
      refine x_getR (u := .ref _) rfl rfl rfl rfl ?_
      refine x_iload rfl rfl ?_
      refine x_ialE (j := r) rfl rfl (rfl) (by omega) (hX.rday (show r < K 94 by omega)) ?_
      refine x_iload_n rfl rfl ?_
      refine x_icmpN_ne rfl (fun c60 => ?_) (fun c60 => ?_)
      · refine x_iincN (q := 1) (ls' := [_, _, _, _, _, _, _]) rfl rfl rfl rfl ?_
        refine x_goto rfl ?_
        exact hk _
      · refine x_aload_n rfl rfl ?_
        refine x_getR (u := .ref _) rfl rfl rfl rfl ?_
        refine x_iload rfl rfl ?_
        refine x_callV (M' := mi99) (As := [_]) (bc1 := 0) (bs1 := 0) (bc2 := 0) (bs2 := 0) rfl rfl rfl rfl ok99 rfl rfl (by decide) rfl rfl rfl rfl rfl rfl ?_
        refine s_isDone_in hX.rn hX.dm (by omega) (by omega) hdm ?_
        rw [dm_bit hW (by omega)]
        refine x_ifN_ne rfl (fun c72 => ?_) (fun c72 => ?_)
        · refine x_iincN (q := 1) (ls' := [_, _, _, _, _, _, _]) rfl rfl rfl rfl ?_
          refine x_goto rfl ?_
          exact hk _
        · refine x_iload rfl rfl ?_
          refine x_iload_n rfl rfl ?_
          refine x_iandN rfl ?_
          refine x_ifN_eq rfl (fun c79 => ?_) (fun c79 => ?_)
          · refine x_iincN (q := 1) (ls' := [_, _, _, _, _, _, _]) rfl rfl rfl rfl ?_
            refine x_goto rfl ?_
            exact hk _
          · exact absurd ⟨c60, c72, by omega⟩ hc
set_option maxRecDepth 20000 in
theorem x_hit_loop (hX : RW 3 K VI) (hW : WF K) (hp : p < 6) (hq : q < 4) (hP : P (some (.int (nI (hit K q p 6)))) (LY ++ ext) VI VL (vr G)) : ∀ (m i : Nat) (z w : Value), i + m = 6 → Ex (d + 2) mi27 7 [.ref 70, .int (nI p), .int (nI q), .int (nI (hit K q p i)), .int (nI i), z, w] [] (LY ++ ext) VI VL (vr G) 0 0 P := by
  intro m
  induction m with
  | zero =>
    intro i z w hi
    have e : i = 6 := by omega
    subst e
    refine x_iload rfl rfl ?_
    refine x_bipushN (q := 6) rfl ?_
    refine x_icmpN_ge rfl (fun c11 => ?_) (fun c11 => ?_)
    rotate_left
    · exact absurd c11 (by first | decide | omega)
    refine x_iload_n rfl rfl ?_
    refine x_iret rfl rfl ?_
    exact hP | succ m ih =>
    intro i z w hi
    refine x_iload rfl rfl ?_
    refine x_bipushN (q := 6) rfl ?_
    refine x_icmpN_ge rfl (fun c11 => ?_) (fun c11 => ?_)
    · exact absurd c11 (by first | decide | omega)
    refine x_iconstN (q := 0) rfl ?_
    refine x_istore (ls' := [_, _, _, _, _, _, _]) rfl rfl rfl ?_
    skip
    refine x_hst_loop hX hW (hit_lt hW hp i) hq (fun z w => ?_) (K 94) 0 _ (by omega)
    refine x_iincN (q := 1) (ls' := [_, _, _, _, _, _, _]) rfl rfl rfl rfl ?_
    refine x_goto rfl ?_
    exact ih (i + 1) _ _ (by omega)
set_option maxRecDepth 20000 in
theorem x_heapOf (hX : RW 3 K VI) (hW : WF K) (hp : p < 6) (hq : q < 4) (hP : P (some (.int (nI (hit K q p 6)))) (LY ++ ext) VI VL (vr G)) : Ex (d + 2) mi27 0 (entL [.ref 70, .int (nI p), .int (nI q)] 7) [] (LY ++ ext) VI VL (vr G) 0 0 P := by
  have g := p2_64 p hp
  refine x_iconstN (q := 1) rfl ?_
  refine x_iload_n rfl rfl ?_
  refine x_ishlN rfl ?_
  refine x_istore_n (ls' := [_, _, _, _, _, _, _]) rfl rfl rfl ?_
  refine x_iconstN (q := 0) rfl ?_
  refine x_istore (ls' := [_, _, _, _, _, _, _]) rfl rfl rfl ?_
  exact x_hit_loop hX hW hp hq hP 6 0 _ _ rfl
set_option maxRecDepth 20000 in
theorem m_hst_loop {wa : Value} (hM : RK (VI 76) K) (hW : WF K) (hh : h < 64) (hq : q < 4) (hP : ∀ z : Value, Ex (d + 3) mi254 84 [.ref 74, .int (nI p), .int (nI q), .int (nI (hst K q h (K 94))), .int (nI h), z] [] (LY ++ ext) VI VL (vr G) 0 0 P) : ∀ (m r : Nat), r + m = K 94 → Ex (d + 3) mi254 19 [.ref 74, .int (nI p), .int (nI q), .int (nI (hst K q h r)), .int (nI h), .int (nI r)] [] (LY ++ ext) VI VL (vr G) 0 0 P := by
  have h6 := hW.n
  have h8 : K 94 ≤ 8 := hW.2.1
  intro m
  induction m with
  | zero =>
    intro r hr
    have e : r = K 94 := by omega
    subst e
    refine x_iload rfl rfl ?_
    refine x_aload_n rfl rfl ?_
    refine x_getR (u := .ref _) rfl rfl rfl rfl ?_
    refine x_bipushN (q := 94) rfl ?_
    refine x_ialE (j := 94) rfl rfl (rfl) (by omega) (hM.at 94) ?_
    refine x_icmpN_ge rfl (fun c28 => ?_) (fun c28 => ?_)
    rotate_left
    · exact absurd c28 (by first | decide | omega)
    exact hP _ | succ m ih =>
    intro r hr
    have hro := hW.roll (show r < K 94 by omega)
    have hl := lo_lt hW (show r < K 94 by omega)
    have hh2 := hst_lt (q := q) hW hh (show r ≤ K 94 by omega)
    have hl2 : K (59 + r) &&& lmK K &&& hst K q h r < 64 := Nat.lt_of_le_of_lt Nat.and_le_left hl
    have hk := ih (r + 1) (by omega)
    by_cases hc : K (51 + r) = q ∧ K (30 + r) = 0 ∧ K (59 + r) &&& lmK K &&& hst K q h r ≠ 0
    · rw [show hst K q h (r + 1) = hst K q h r ||| (K (59 + r) &&& lmK K) from if_pos hc] at hk
      obtain ⟨c1, c2, c3⟩ := hc
      refine x_iload rfl rfl ?_
      refine x_aload_n rfl rfl ?_
      refine x_getR (u := .ref _) rfl rfl rfl rfl ?_
      refine x_bipushN (q := 94) rfl ?_
      refine x_ialE (j := 94) rfl rfl (rfl) (by omega) (hM.at 94) ?_
      refine x_icmpN_ge rfl (fun c28 => ?_) (fun c28 => ?_)
      · exact absurd c28 (by first | decide | omega)
      refine x_aload_n rfl rfl ?_
      refine x_getR (u := .ref _) rfl rfl rfl rfl ?_
      refine x_bipushN (q := 30) rfl ?_
      refine x_iload rfl rfl ?_
      refine x_iaddN rfl ?_
      refine x_ialE (j := 30 + r) rfl rfl (rfl) (by omega) (hM.at (30 + r)) ?_
      refine x_ifN_ne rfl (fun c41 => ?_) (fun c41 => ?_)
      · exact absurd c41 (by first | decide | omega)
      refine x_aload_n rfl rfl ?_
      refine x_getR (u := .ref _) rfl rfl rfl rfl ?_
      refine x_bipushN (q := 51) rfl ?_
      refine x_iload rfl rfl ?_
      refine x_iaddN rfl ?_
      refine x_ialE (j := 51 + r) rfl rfl (rfl) (by omega) (hM.at (51 + r)) ?_
      refine x_iload_n rfl rfl ?_
      refine x_icmpN_ne rfl (fun c55 => ?_) (fun c55 => ?_)
      · exact absurd c55 (by first | decide | omega)
      refine x_aload_n rfl rfl ?_
      refine x_iload rfl rfl ?_
      refine x_callV (M' := mi176) (As := [_]) (bc1 := 0) (bs1 := 0) (bc2 := 0) (bs2 := 0) rfl rfl rfl rfl ok176 rfl rfl (by decide) rfl rfl rfl rfl rfl rfl ?_
      refine m_livingOn hM hW (by omega) ?_
      refine x_iload_n rfl rfl ?_
      refine x_iandN rfl ?_
      refine x_ifN_eq rfl (fun c66 => ?_) (fun c66 => ?_)
      · exact absurd c66 (by first | decide | omega)
      refine x_iload_n rfl rfl ?_
      refine x_aload_n rfl rfl ?_
      refine x_iload rfl rfl ?_
      refine x_callV (M' := mi176) (As := [_]) (bc1 := 0) (bs1 := 0) (bc2 := 0) (bs2 := 0) rfl rfl rfl rfl ok176 rfl rfl (by decide) rfl rfl rfl rfl rfl rfl ?_
      refine m_livingOn hM hW (by omega) ?_
      refine x_iorN rfl ?_
      refine x_istore_n (ls' := [_, _, _, _, _, _]) rfl rfl rfl ?_
      refine x_iincN (q := 1) (ls' := [_, _, _, _, _, _]) rfl rfl rfl rfl ?_
      refine x_goto rfl ?_
      exact hk
    · rw [show hst K q h (r + 1) = hst K q h r from if_neg hc] at hk
      refine x_iload rfl rfl ?_
      refine x_aload_n rfl rfl ?_
      refine x_getR (u := .ref _) rfl rfl rfl rfl ?_
      refine x_bipushN (q := 94) rfl ?_
      refine x_ialE (j := 94) rfl rfl (rfl) (by omega) (hM.at 94) ?_
      refine x_icmpN_ge rfl (fun c28 => ?_) (fun c28 => ?_)
      · exact absurd c28 (by first | decide | omega)
      refine x_aload_n rfl rfl ?_
      refine x_getR (u := .ref _) rfl rfl rfl rfl ?_
      refine x_bipushN (q := 30) rfl ?_
      refine x_iload rfl rfl ?_
      refine x_iaddN rfl ?_
      refine x_ialE (j := 30 + r) rfl rfl (rfl) (by omega) (hM.at (30 + r)) ?_
      refine x_ifN_ne rfl (fun c41 => ?_) (fun c41 => ?_)
      · refine x_iincN (q := 1) (ls' := [_, _, _, _, _, _]) rfl rfl rfl rfl ?_
        refine x_goto rfl ?_
        exact hk
      · refine x_aload_n rfl rfl ?_
        refine x_getR (u := .ref _) rfl rfl rfl rfl ?_
        refine x_bipushN (q := 51) rfl ?_
        refine x_iload rfl rfl ?_
        refine x_iaddN rfl ?_
        refine x_ialE (j := 51 + r) rfl rfl (rfl) (by omega) (hM.at (51 + r)) ?_
        refine x_iload_n rfl rfl ?_
        refine x_icmpN_ne rfl (fun c55 => ?_) (fun c55 => ?_)
        · refine x_iincN (q := 1) (ls' := [_, _, _, _, _, _]) rfl rfl rfl rfl ?_
          refine x_goto rfl ?_
          exact hk
        · refine x_aload_n rfl rfl ?_
          refine x_iload rfl rfl ?_
          refine x_callV (M' := mi176) (As := [_]) (bc1 := 0) (bs1 := 0) (bc2 := 0) (bs2 := 0) rfl rfl rfl rfl ok176 rfl rfl (by decide) rfl rfl rfl rfl rfl rfl ?_
          refine m_livingOn hM hW (by omega) ?_
          refine x_iload_n rfl rfl ?_
          refine x_iandN rfl ?_
          refine x_ifN_eq rfl (fun c66 => ?_) (fun c66 => ?_)
          · refine x_iincN (q := 1) (ls' := [_, _, _, _, _, _]) rfl rfl rfl rfl ?_
            refine x_goto rfl ?_
            exact hk
          · exact absurd ⟨c55, c41, by omega⟩ hc
set_option maxRecDepth 20000 in
theorem m_hit_loop (hM : RK (VI 76) K) (hW : WF K) (hp : p < 6) (hq : q < 4) (hP : P (some (.int (nI (hit K q p 6)))) (LY ++ ext) VI VL (vr G)) : ∀ (m i : Nat) (z : Value), i + m = 6 → i + 1 ≤ popN (hit K q p i) 6 → Ex (d + 3) mi254 7 [.ref 74, .int (nI p), .int (nI q), .int (nI (hit K q p (i + 1))), .int (nI (hit K q p i)), z] [] (LY ++ ext) VI VL (vr G) 0 0 P := by
  intro m
  induction m with
  | zero =>
    intro i z hi hpo
    have := (or64 (hit K q p i) (hit_lt hW hp i) 0 (by omega)).2.2.2
    exact absurd hpo (by omega)
  | succ m ih =>
    intro i z hi hpo
    have g1 := hit_lt (q := q) hW hp i
    have g2 := hit_lt (q := q) hW hp (i + 1)
    by_cases hc : hit K q p i = hit K q p (i + 1)
    · have e := hit_fix hc.symm (6 - i)
      rw [show i + (6 - i) = 6 by omega] at e
      rw [e] at hP
      rw [← hc]
      refine x_iload rfl rfl ?_
      refine x_iload_n rfl rfl ?_
      refine x_icmpN_eq rfl (fun c10 => ?_) (fun c10 => ?_)
      rotate_left
      · exact absurd rfl c10
      refine x_iload_n rfl rfl ?_
      refine x_iret rfl rfl ?_
      exact hP
    · have hp2 := hit_pop (q := q) hW hp i (fun e => hc e.symm)
      refine x_iload rfl rfl ?_
      refine x_iload_n rfl rfl ?_
      refine x_icmpN_eq rfl (fun c10 => ?_) (fun c10 => ?_)
      · exact absurd c10 hc
      refine x_iload_n rfl rfl ?_
      refine x_istore (ls' := [_, _, _, _, _, _]) rfl rfl rfl ?_
      refine x_iconstN (q := 0) rfl ?_
      refine x_istore (ls' := [_, _, _, _, _, _]) rfl rfl rfl ?_
      skip
      refine m_hst_loop (wa := .null) hM hW g2 hq (fun z => ?_) (K 94) 0 (by omega)
      refine x_goto rfl ?_
      exact ih (i + 1) _ (by omega) (by omega)
set_option maxRecDepth 20000 in
theorem m_heapOf (hM : RK (VI 76) K) (hW : WF K) (hp : p < 6) (hq : q < 4) (hP : P (some (.int (nI (hit K q p 6)))) (LY ++ ext) VI VL (vr G)) : Ex (d + 3) mi254 0 (entL [.ref 74, .int (nI p), .int (nI q)] 6) [] (LY ++ ext) VI VL (vr G) 0 0 P := by
  have g := p2_64 p hp
  refine x_iconstN (q := 1) rfl ?_
  refine x_iload_n rfl rfl ?_
  refine x_ishlN rfl ?_
  refine x_istore_n (ls' := [_, _, _, _, _, _]) rfl rfl rfl ?_
  refine x_iconstN (q := 0) rfl ?_
  refine x_istore (ls' := [_, _, _, _, _, _]) rfl rfl rfl ?_
  refine x_iload rfl rfl ?_
  refine x_iload_n rfl rfl ?_
  refine x_icmpN_eq rfl (fun c10 => ?_) (fun c10 => ?_)
  · exact absurd c10 (by first | decide | omega)
  refine x_iload_n rfl rfl ?_
  refine x_istore (ls' := [_, _, _, _, _, _]) rfl rfl rfl ?_
  refine x_iconstN (q := 0) rfl ?_
  refine x_istore (ls' := [_, _, _, _, _, _]) rfl rfl rfl ?_
  skip
  refine m_hst_loop (h := 1 * 2 ^ p) (wa := .null) hM hW g.1 hq (fun z => ?_) (K 94) 0 (by omega)
  refine x_goto rfl ?_
  exact m_hit_loop hM hW hp hq hP 6 0 _ rfl (Nat.le_of_eq g.2.1.symm)
end Heap
