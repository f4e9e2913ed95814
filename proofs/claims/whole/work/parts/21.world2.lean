/-! ===== RollsAgree$World: rows, accords ===== -/
/-- a row: the marks as digits to the base 4, the first the highest -/
def rowN (f : Nat → Nat) : Nat → Nat
  | 0 => 0
  | i + 1 => rowN f i * 4 + f i
theorem rowN_lt {f : Nat → Nat} : ∀ {i : Nat}, (∀ p, p < i → f p < 4) → rowN f i < 4 ^ i
  | 0, _ => by simp [rowN]
  | i + 1, h => by
    have h1 := rowN_lt (f := f) (i := i) (fun p hp => h p (by omega))
    have h2 := h i (by omega)
    simp only [rowN, Nat.pow_succ]
    omega
theorem pow4_6 {n : Nat} (h : n ≤ 6) : 4 ^ n ≤ 4096 := Nat.le_trans (Nat.pow_le_pow_right (by omega) h) (by decide)
theorem rowN_4096 {f : Nat → Nat} {n : Nat} (hn : n ≤ 6) (h : ∀ p, p < n → f p < 4) : rowN f n < 4096 := Nat.lt_of_lt_of_le (rowN_lt h) (pow4_6 hn)
/-- what those of a set have in common: none where they differ, z where there are none -/
def agr (z : Nat) (mk : Nat → Nat) (on : Nat → Bool) : Nat → Option Nat
  | 0 => some z
  | i + 1 => match agr z mk on i with
    | none => none
    | some c => if on i = true then (if c = z then some (mk i) else if c = mk i then some (mk i) else none) else some c
theorem agr_none {z : Nat} {mk : Nat → Nat} {on : Nat → Bool} {i : Nat} (h : agr z mk on i = none) : ∀ k, agr z mk on (i + k) = none
  | 0 => h
  | k + 1 => by
    have := agr_none h k
    show agr z mk on (i + k + 1) = none
    simp only [agr, this]
theorem agr_lt {z : Nat} {mk : Nat → Nat} {on : Nat → Bool} (hz : z < 1000) : ∀ {i c : Nat}, (∀ p, p < i → mk p < 4) → agr z mk on i = some c → c < 1000
  | 0, c, _, h => by simp [agr] at h; omega
  | i + 1, c, hm, h => by
    have hmi := hm i (by omega)
    simp only [agr] at h
    cases ha : agr z mk on i with
    | none => simp [ha] at h
    | some c0 =>
      have h0 := agr_lt hz (i := i) (fun p hp => hm p (by omega)) ha
      simp only [ha] at h
      split at h
      · split at h
        · cases h; omega
        · split at h
          · cases h; omega
          · cases h
      · cases h; exact h0
def agI (o : Option Nat) : Int32 := match o with
  | none => -1
  | some c => nI c
section World
variable {d : Nat} {VI : VIT} {VL : VLT} {G : VRT} {P : Post} {ext : HL} {n : Nat}
theorem s_rowOf_loop {q : Nat} {f : Nat → Nat} (hn : VI 3 0 = nI n) (hn6 : n ≤ 6) (hq : q < 4) (hf : ∀ p, p < n → VI 6 (p * 4 + q) = nI (f p) ∧ f p < 4) (hP : P (some (.int (nI (rowN f n)))) (LY ++ ext) VI VL (vr G)) : ∀ (m i : Nat), i + m = n → Ex (d + 2) mi105 4 [.ref 3, .int (nI q), .int (nI (rowN f i)), .int (nI i)] [] (LY ++ ext) VI VL (vr G) 0 0 P := by
  intro m
  induction m with
  | zero =>
    intro i hi
    have e : i = n := by omega
    subst e
    refine x_iload_n rfl rfl ?_
    refine x_aload_n rfl rfl ?_
    refine x_getE rfl rfl rfl (hn) ?_
    refine x_icmpN_ge rfl (fun c9 => ?_) (fun c9 => ?_)
    rotate_left
    · exact absurd c9 (by first | decide | omega)
    refine x_iload_n rfl rfl ?_
    refine x_iret rfl rfl ?_
    exact hP | succ m ih =>
    intro i hi
    have hr := rowN_lt (f := f) (i := i) (fun p hp => (hf p (by omega)).2)
    refine x_iload_n rfl rfl ?_
    refine x_aload_n rfl rfl ?_
    refine x_getE rfl rfl rfl (hn) ?_
    refine x_icmpN_ge rfl (fun c9 => ?_) (fun c9 => ?_)
    · exact absurd c9 (by first | decide | omega)
    refine x_iload_n rfl rfl ?_
    refine x_iconstN (q := 4) rfl ?_
    refine x_imulN rfl ?_
    refine x_aload_n rfl rfl ?_
    refine x_iload_n rfl rfl ?_
    refine x_iload_n rfl rfl ?_
    refine x_callV (M' := mi101) (As := [_, _]) (bc1 := 0) (bs1 := 0) (bc2 := 0) (bs2 := 0) rfl rfl rfl rfl ok101 rfl rfl (by decide) rfl rfl rfl rfl rfl rfl ?_
    refine s_markOf_in hn (by omega) hn6 hq ?_
    rw [(hf i (by omega)).1]
    refine x_iaddN rfl ?_
    refine x_istore_n (ls' := [_, _, _, _]) rfl rfl rfl ?_
    refine x_iincN (q := 1) (ls' := [_, _, _, _]) rfl rfl rfl rfl ?_
    refine x_goto rfl ?_
    exact ih (i + 1) (by omega)
theorem s_rowOf {q : Nat} {f : Nat → Nat} (hn : VI 3 0 = nI n) (hn6 : n ≤ 6) (hq : q < 4) (hf : ∀ p, p < n → VI 6 (p * 4 + q) = nI (f p) ∧ f p < 4) (hP : P (some (.int (nI (rowN f n)))) (LY ++ ext) VI VL (vr G)) : Ex (d + 2) mi105 0 (entL [.ref 3, .int (nI q)] 4) [] (LY ++ ext) VI VL (vr G) 0 0 P := by
  refine x_iconstN (q := 0) rfl ?_
  refine x_istore_n (ls' := [_, _, _, _]) rfl rfl rfl ?_
  refine x_iconstN (q := 0) rfl ?_
  refine x_istore_n (ls' := [_, _, _, _]) rfl rfl rfl ?_
  exact s_rowOf_loop hn hn6 hq hf hP n 0 (by omega)
theorem s_accordInRow_loop {row who : Nat} (hn : VI 3 0 = nI n) (hn6 : n ≤ 6) (hr : row < 4096) (hw : who < 2147483648) (hP : P (some (.int (agI (agr 100 (dg n row) who.testBit n)))) (LY ++ ext) VI VL (vr G)) : ∀ (m i c : Nat) (j : Value), i + m = n → agr 100 (dg n row) who.testBit i = some c → Ex (d + 1) mi106 6 [.ref 3, .int (nI row), .int (nI who), .int (nI c), .int (nI i), j] [] (LY ++ ext) VI VL (vr G) 0 0 P := by
  intro m
  induction m with
  | zero =>
    intro i c j hi hc
    have e : i = n := by omega
    subst e
    refine x_iload rfl rfl ?_
    refine x_aload_n rfl rfl ?_
    refine x_getE rfl rfl rfl (hn) ?_
    refine x_icmpN_ge rfl (fun c12 => ?_) (fun c12 => ?_)
    rotate_left
    · exact absurd c12 (by first | decide | omega)
    refine x_iload_n rfl rfl ?_
    refine x_iret rfl rfl ?_
    exact P_i (by rw [hc]; rfl) hP | succ m ih =>
    intro i c j hi hc
    have hcl : c < 1000 := agr_lt (by omega) (fun p _ => Nat.mod_lt _ (by omega)) hc
    have hdg : row / 2 ^ (2 * (n - 1 - i)) % 4 = dg n row i := rfl
    have hs : agr 100 (dg n row) who.testBit (i + 1) = if who.testBit i = true then (if c = 100 then some (dg n row i) else if c = dg n row i then some (dg n row i) else none) else some c := by simp only [agr, hc]
    have hdl : dg n row i < 4 := Nat.mod_lt _ (by omega)
    refine x_iload rfl rfl ?_
    refine x_aload_n rfl rfl ?_
    refine x_getE rfl rfl rfl (hn) ?_
    refine x_icmpN_ge rfl (fun c12 => ?_) (fun c12 => ?_)
    · exact absurd c12 (by first | decide | omega)
    refine x_iload_n rfl rfl ?_
    refine x_iload rfl rfl ?_
    refine x_ishrN rfl ?_
    refine x_iconstN (q := 1) rfl ?_
    refine x_iandM1 rfl ?_
    refine x_iconstN (q := 1) rfl ?_
    refine x_icmpN_ne rfl (fun c22 => ?_) (fun c22 => ?_)
    · refine x_iincN (q := 1) (ls' := [_, _, _, _, _, _]) rfl rfl rfl rfl ?_
      refine x_goto rfl ?_
      refine ih (i + 1) _ _ (by omega) ?_
      first | (rw [hs, if_neg (fun h => c22 ((bitE who i).mpr h))]; done) | (rw [hs, if_pos ((bitE who i).mp c22), if_pos c40]; first | done | rfl) | (rw [hs, if_pos ((bitE who i).mp c22), if_neg c40, if_pos (show c = dg n row i from c46)]; first | done | rfl)
    · refine x_iload_n rfl rfl ?_
      refine x_aload_n rfl rfl ?_
      refine x_iload rfl rfl ?_
      refine x_callV (M' := mi103) (As := [_]) (bc1 := 0) (bs1 := 0) (bc2 := 0) (bs2 := 0) rfl rfl rfl rfl ok103 rfl rfl (by decide) rfl rfl rfl rfl rfl rfl ?_
      refine s_shiftOf_in hn (by omega) hn6 ?_
      refine x_ishrN rfl ?_
      refine x_iconstN (q := 3) rfl ?_
      refine x_iandM3 rfl ?_
      refine x_istore (ls' := [_, _, _, _, _, _]) rfl rfl rfl ?_
      refine x_iload_n rfl rfl ?_
      refine x_bipushN (q := 100) rfl ?_
      refine x_icmpN_eq rfl (fun c40 => ?_) (fun c40 => ?_)
      · refine x_iload rfl rfl ?_
        refine x_istore_n (ls' := [_, _, _, _, _, _]) rfl rfl rfl ?_
        refine x_iincN (q := 1) (ls' := [_, _, _, _, _, _]) rfl rfl rfl rfl ?_
        refine x_goto rfl ?_
        refine ih (i + 1) _ _ (by omega) ?_
        first | (rw [hs, if_neg (fun h => c22 ((bitE who i).mpr h))]; done) | (rw [hs, if_pos ((bitE who i).mp c22), if_pos c40]; first | done | rfl) | (rw [hs, if_pos ((bitE who i).mp c22), if_neg c40, if_pos (show c = dg n row i from c46)]; first | done | rfl)
      · refine x_iload_n rfl rfl ?_
        refine x_iload rfl rfl ?_
        refine x_icmpN_eq rfl (fun c46 => ?_) (fun c46 => ?_)
        · refine x_iload rfl rfl ?_
          refine x_istore_n (ls' := [_, _, _, _, _, _]) rfl rfl rfl ?_
          refine x_iincN (q := 1) (ls' := [_, _, _, _, _, _]) rfl rfl rfl rfl ?_
          refine x_goto rfl ?_
          refine ih (i + 1) _ _ (by omega) ?_
          first | (rw [hs, if_neg (fun h => c22 ((bitE who i).mpr h))]; done) | (rw [hs, if_pos ((bitE who i).mp c22), if_pos c40]; first | done | rfl) | (rw [hs, if_pos ((bitE who i).mp c22), if_neg c40, if_pos (show c = dg n row i from c46)]; first | done | rfl)
        · refine x_iconst rfl ?_
          refine x_iret rfl rfl ?_
          refine P_i ?_ hP
          have h1 : agr 100 (dg n row) who.testBit (i + 1) = none := by rw [hs, if_pos ((bitE who i).mp c22), if_neg c40, if_neg (show ¬ c = dg n row i from c46)]
          have h2 := agr_none h1 (n - (i + 1))
          rw [show i + 1 + (n - (i + 1)) = n by omega] at h2
          rw [h2]; rfl
theorem s_accordInRow {row who : Nat} (hn : VI 3 0 = nI n) (hn6 : n ≤ 6) (hr : row < 4096) (hw : who < 2147483648) (hP : P (some (.int (agI (agr 100 (dg n row) who.testBit n)))) (LY ++ ext) VI VL (vr G)) : Ex (d + 1) mi106 0 (entL [.ref 3, .int (nI row), .int (nI who)] 6) [] (LY ++ ext) VI VL (vr G) 0 0 P := by
  refine x_bipushN (q := 100) rfl ?_
  refine x_istore_n (ls' := [_, _, _, _, _, _]) rfl rfl rfl ?_
  refine x_iconstN (q := 0) rfl ?_
  refine x_istore (ls' := [_, _, _, _, _, _]) rfl rfl rfl ?_
  exact s_accordInRow_loop hn hn6 hr hw hP n 0 100 _ (by omega) rfl
theorem s_accord_in {r rn q w m : Nat} {f : Nat → Nat} (hn : VI 3 0 = nI n) (hn6 : n ≤ 6) (hrn : VI 3 5 = nI rn) (hr8 : rn ≤ 8) (hr : r < rn) (hd : VI 7 r = nI q) (hq : q < 4) (ho : VI 8 r = nI w) (hw : w < 64) (hm : VI 3 1 = nI m) (hf : ∀ p, p < n → VI 6 (p * 4 + q) = nI (f p) ∧ f p < 4) (hP : P (some (.int (agI (agr 100 (dg n (rowN f n)) (w &&& m).testBit n)))) (LY ++ ext) VI VL (vr G)) : Ex (d + 3) mi107 0 (entL [.ref 3, .int (nI r)] 2) [] (LY ++ ext) VI VL (vr G) 0 0 P := by
  have hwm : w &&& m ≤ w := Nat.and_le_left
  refine x_aload_n rfl rfl ?_
  refine x_iload_n rfl rfl ?_
  refine x_callV (M' := mi96) (As := [_]) (bc1 := 0) (bs1 := 0) (bc2 := 0) (bs2 := 0) rfl rfl rfl rfl ok96 rfl rfl (by decide) rfl rfl rfl rfl rfl rfl ?_
  refine s_hasRoll ?_
  rw [hrn, hasF_in hr (by omega)]
  refine x_if_eq rfl (fun c5 => ?_) (fun c5 => ?_)
  · exact absurd c5 (by first | decide | omega)
  refine x_aload_n rfl rfl ?_
  refine x_aload_n rfl rfl ?_
  refine x_aload_n rfl rfl ?_
  refine x_getR (u := .ref _) rfl rfl rfl rfl ?_
  refine x_iload_n rfl rfl ?_
  refine x_ialE (j := r) rfl rfl (rfl) (by omega) (hd) ?_
  refine x_callV (M' := mi105) (As := [_]) (bc1 := 0) (bs1 := 0) (bc2 := 0) (bs2 := 0) rfl rfl rfl rfl ok105 rfl rfl (by decide) rfl rfl rfl rfl rfl rfl ?_
  refine s_rowOf hn hn6 hq hf ?_
  refine x_aload_n rfl rfl ?_
  refine x_getR (u := .ref _) rfl rfl rfl rfl ?_
  refine x_iload_n rfl rfl ?_
  refine x_ialE (j := r) rfl rfl (rfl) (by omega) (ho) ?_
  refine x_aload_n rfl rfl ?_
  refine x_getE rfl rfl rfl (hm) ?_
  refine x_iandN rfl ?_
  refine x_callV (M' := mi106) (As := [_, _]) (bc1 := 0) (bs1 := 0) (bc2 := 0) (bs2 := 0) rfl rfl rfl rfl ok106 rfl rfl (by decide) rfl rfl rfl rfl rfl rfl ?_
  refine s_accordInRow hn hn6 (rowN_4096 hn6 (fun p hp => (hf p hp).2)) (by omega) ?_
  refine x_goto rfl ?_
  refine x_iret rfl rfl ?_
  exact hP
theorem s_accord_out {r : Int32} (h : hasF (VI 3 5) r = 0) (hP : P (some (.int (-1))) (LY ++ ext) VI VL (vr G)) : Ex (d + 3) mi107 0 (entL [.ref 3, .int r] 2) [] (LY ++ ext) VI VL (vr G) 0 0 P := by
  refine x_aload_n rfl rfl ?_
  refine x_iload_n rfl rfl ?_
  refine x_callV (M' := mi96) (As := [_]) (bc1 := 0) (bs1 := 0) (bc2 := 0) (bs2 := 0) rfl rfl rfl rfl ok96 rfl rfl (by decide) rfl rfl rfl rfl rfl rfl ?_
  refine s_hasRoll ?_
  refine x_if_eq rfl (fun c5 => ?_) (fun c5 => ?_)
  rotate_left
  · exact absurd h c5
  refine x_iconst rfl ?_
  refine x_iret rfl rfl ?_
  exact hP
theorem dg_row {f : Nat → Nat} : ∀ {n : Nat}, (∀ p, p < n → f p < 4) → ∀ p, p < n → dg n (rowN f n) p = f p
  | 0, _, p, hp => by omega
  | n + 1, h, p, hp => by
    unfold dg
    by_cases e : p = n
    · subst e
      have h1 := h p (by omega)
      simp only [rowN, show p + 1 - 1 - p = 0 by omega, Nat.mul_zero, Nat.pow_zero, Nat.div_one]
      omega
    · have ih := dg_row (f := f) (n := n) (fun q hq => h q (by omega)) p (by omega)
      unfold dg at ih
      have h1 := h n (by omega)
      rw [← ih, show 2 * (n + 1 - 1 - p) = 2 + 2 * (n - 1 - p) by omega, Nat.pow_add, ← Nat.div_div_eq_div_mul]
      simp only [rowN]
      rw [show (rowN f n * 4 + f n) / 2 ^ 2 = rowN f n by omega]
end World
