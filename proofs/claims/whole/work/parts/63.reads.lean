/-! ===== what the model's loops over people tell; both sides' readers ===== -/
set_option maxRecDepth 20000 in
theorem b1_life {v : Int32} {f : Nat} (hv : v = nI f) (hf : f ≤ 1) : b1 (decide (v = 1)) = nI f := by
  subst hv
  rcases (show f = 0 ∨ f = 1 by omega) with q | q <;> subst q <;> decide
set_option maxRecDepth 20000 in
theorem b1_ne {b : Bool} (h : ¬ b1 b = 0) : b = true := by
  cases b
  · exact absurd rfl h
  · rfl
set_option maxRecDepth 20000 in
theorem b1_eq {b : Bool} (h : b1 b = 0) : b = false := by
  cases b
  · rfl
  · exact absurd h (by decide)
set_option maxRecDepth 20000 in
theorem pow6 {i : Nat} (h : i ≤ 6) : 2 ^ i ≤ 64 := Nat.le_trans (Nat.pow_le_pow_right (by omega) h) (by decide)
set_option maxRecDepth 20000 in
theorem pow8 {i : Nat} (h : i ≤ 8) : 2 ^ i ≤ 256 := Nat.le_trans (Nat.pow_le_pow_right (by omega) h) (by decide)
/-- a row without the digit at s -/
def clrD (s row : Nat) : Nat := row / 2 ^ (s + 2) * 2 ^ (s + 2) + row % 2 ^ s
/-- a row with the digit m at s -/
def setD (s row m : Nat) : Nat := row / 2 ^ (s + 2) * 2 ^ (s + 2) + m * 2 ^ s + row % 2 ^ s
def clrChk (s : Nat) : Bool := (List.range 4096).all (fun row => row &&& (4294967295 ^^^ (3 * 2 ^ s)) == clrD s row)
set_option maxRecDepth 20000 in
theorem clrChk_ok : clrChk 0 = true ∧ clrChk 2 = true ∧ clrChk 4 = true ∧ clrChk 6 = true ∧ clrChk 8 = true ∧ clrChk 10 = true := by decide +kernel
set_option maxRecDepth 20000 in
theorem clr_and {k row : Nat} (hk : k ≤ 5) (hr : row < 4096) : row &&& (4294967295 ^^^ (3 * 2 ^ (2 * k))) = clrD (2 * k) row := by
  have h : clrChk (2 * k) = true := by
    obtain ⟨h0, h1, h2, h3, h4, h5⟩ := clrChk_ok
    rcases (show k = 0 ∨ k = 1 ∨ k = 2 ∨ k = 3 ∨ k = 4 ∨ k = 5 by omega) with q | q | q | q | q | q <;> subst q <;> assumption
  unfold clrChk at h
  rw [List.all_eq_true] at h
  exact beq_iff_eq.mp (h row (List.mem_range.mpr hr))
set_option maxRecDepth 20000 in
theorem clrI {k row : Nat} (hk : k ≤ 5) (hr : row < 4096) : nI row &&& (nI (3 * 2 ^ (2 * k)) ^^^ (-1)) = nI (clrD (2 * k) row) := by
  rw [show (-1 : Int32) = nI 4294967295 from rfl, nb_xor, nb_and, Nat.xor_comm, clr_and hk hr]
set_option maxRecDepth 20000 in
theorem setD_or {s row m : Nat} (hm : m < 4) : clrD s row ||| m * 2 ^ s = setD s row m := by
  have hB : row % 2 ^ s < 2 ^ s := Nat.mod_lt _ (Nat.two_pow_pos s)
  have h4 : 2 ^ (s + 2) = 4 * 2 ^ s := by rw [Nat.pow_add]; omega
  have hm2 : m * 2 ^ s + row % 2 ^ s < 2 ^ (s + 2) := by
    have : m * 2 ^ s ≤ 3 * 2 ^ s := Nat.mul_le_mul_right _ (by omega)
    omega
  have e1 := Nat.two_pow_add_eq_or_of_lt (i := s + 2) (b := row % 2 ^ s) (by omega) (row / 2 ^ (s + 2))
  have e2 := Nat.two_pow_add_eq_or_of_lt (i := s + 2) hm2 (row / 2 ^ (s + 2))
  have e3 := Nat.two_pow_add_eq_or_of_lt (i := s) hB m
  have e4 : m * 2 ^ s + row % 2 ^ s = m * 2 ^ s ||| row % 2 ^ s := by rw [Nat.mul_comm]; exact e3
  have q1 : clrD s row = 2 ^ (s + 2) * (row / 2 ^ (s + 2)) ||| row % 2 ^ s := by rw [← e1]; unfold clrD; rw [Nat.mul_comm]
  have q2 : setD s row m = 2 ^ (s + 2) * (row / 2 ^ (s + 2)) ||| (m * 2 ^ s ||| row % 2 ^ s) := by rw [← e4, ← e2]; unfold setD; rw [Nat.mul_comm, Nat.add_assoc]
  rw [q1, q2, Nat.or_assoc, Nat.or_comm (row % 2 ^ s)]
set_option maxRecDepth 20000 in
theorem setD_lt {k row m : Nat} (hk : k ≤ 5) (hr : row < 4096) (hm : m < 4) : setD (2 * k) row m < 4096 := by
  have hB : row % 2 ^ (2 * k) < 2 ^ (2 * k) := Nat.mod_lt _ (Nat.two_pow_pos _)
  unfold setD
  rcases (show k = 0 ∨ k = 1 ∨ k = 2 ∨ k = 3 ∨ k = 4 ∨ k = 5 by omega) with q | q | q | q | q | q <;> subst q <;> simp only [Nat.reduceMul, Nat.reduceAdd, Nat.reducePow] at * <;> omega
set_option maxRecDepth 20000 in
theorem pow4_2 (k : Nat) : 4 ^ k = 2 ^ (2 * k) := by rw [show (4 : Nat) = 2 ^ 2 from rfl, ← Nat.pow_mul]
set_option maxRecDepth 20000 in
theorem row6_step {f : Nat → Nat} {i : Nat} (hi : i < 6) : setD (2 * (5 - i)) (rowN f i * 4 ^ (6 - i)) (f i) = rowN f (i + 1) * 4 ^ (6 - (i + 1)) := by
  have e : 6 - i = (5 - i) + 1 := by omega
  have e2 : 6 - (i + 1) = 5 - i := by omega
  have e3 : 2 ^ (2 * (5 - i) + 2) = 4 * 2 ^ (2 * (5 - i)) := by rw [Nat.pow_add]; omega
  have e4 : rowN f i * 4 ^ (6 - i) = rowN f i * 2 ^ (2 * (5 - i) + 2) := by rw [e, Nat.pow_succ, pow4_2, e3, Nat.mul_comm (2 ^ _) 4]
  unfold setD
  rw [e4, Nat.mul_div_cancel _ (Nat.two_pow_pos _), e2, pow4_2]
  have e5 : rowN f i * 2 ^ (2 * (5 - i) + 2) % 2 ^ (2 * (5 - i)) = 0 := by
    rw [Nat.pow_add, ← Nat.mul_assoc, Nat.mul_comm (rowN f i), Nat.mul_assoc]; exact Nat.mul_mod_right _ _
  rw [e5, e3]
  simp only [rowN, Nat.add_zero, Nat.add_mul]
  rw [Nat.mul_assoc]
set_option maxRecDepth 20000 in
theorem row6_lt {f : Nat → Nat} {i : Nat} (hi : i ≤ 6) (h : ∀ p, p < i → f p < 4) : rowN f i * 4 ^ (6 - i) < 4096 := by
  have h1 := rowN_lt h
  have h2 : 4 ^ i * 4 ^ (6 - i) = 4096 := by rw [← Nat.pow_add, show i + (6 - i) = 6 by omega]
  have h3 : 0 < 4 ^ (6 - i) := Nat.pow_pos (by omega)
  rw [← h2]
  exact Nat.mul_lt_mul_of_pos_right h1 h3
set_option maxRecDepth 20000 in
theorem dg6 {n x p : Nat} (hn : n ≤ 6) (hp : p < n) : dg 6 (x * 4 ^ (6 - n)) p = dg n x p := by
  unfold dg
  rw [show 2 * (6 - 1 - p) = 2 * (n - 1 - p) + 2 * (6 - n) by omega, Nat.pow_add, pow4_2, Nat.mul_div_mul_right _ _ (Nat.two_pow_pos _)]
set_option maxRecDepth 20000 in
theorem agr_congr {z : Nat} {mk mk' : Nat → Nat} {on : Nat → Bool} : ∀ {n : Nat}, (∀ p, p < n → mk p = mk' p) → agr z mk on n = agr z mk' on n
  | 0, _ => rfl
  | n + 1, h => by
    simp only [agr, agr_congr (n := n) (fun p hp => h p (by omega)), h n (by omega)]
set_option maxRecDepth 20000 in
theorem agr_off {z : Nat} {mk : Nat → Nat} {on : Nat → Bool} {n : Nat} : ∀ k, (∀ p, n ≤ p → on p = false) → agr z mk on (n + k) = agr z mk on n
  | 0, _ => rfl
  | k + 1, h => by
    have ih := agr_off (z := z) (mk := mk) (on := on) (n := n) k h
    show agr z mk on (n + k + 1) = _
    simp only [agr, ih]
    rw [h (n + k) (by omega)]
    cases agr z mk on n <;> simp
def z100 (c : Nat) : Nat := if c = 4 then 100 else c
set_option maxRecDepth 20000 in
theorem agr_z {mk : Nat → Nat} {on : Nat → Bool} : ∀ {n : Nat}, (∀ p, p < n → mk p < 4) → agr 100 mk on n = (agr 4 mk on n).map z100
  | 0, _ => rfl
  | n + 1, h => by
    have ih := agr_z (mk := mk) (on := on) (n := n) (fun p hp => h p (by omega))
    have hm := h n (by omega)
    have hz : z100 (mk n) = mk n := if_neg (by omega)
    simp only [agr, ih]
    cases hc : agr 4 mk on n with
    | none => simp
    | some c =>
      have hl : c ≤ 4 := by
        clear ih hz
        have : ∀ {i c : Nat}, (∀ p, p < i → mk p < 4) → agr 4 mk on i = some c → c ≤ 4 := by
          intro i
          induction i with
          | zero => intro c _ h; simp [agr] at h; omega
          | succ i ihh =>
            intro c hq h
            have hmi := hq i (by omega)
            simp only [agr] at h
            cases ha : agr 4 mk on i with
            | none => simp [ha] at h
            | some c0 =>
              have h0 := ihh (fun p hp => hq p (by omega)) ha
              simp only [ha] at h
              split at h
              · split at h
                · cases h; omega
                · split at h
                  · cases h; omega
                  · cases h
              · cases h; exact h0
        exact this (fun p hp => h p (by omega)) hc
      simp only [Option.map_some]
      by_cases h4 : c = 4
      · subst h4
        cases on n <;> simp [z100, hz] <;> omega
      · have e1 : z100 c = c := if_neg h4
        have e2 : ¬ c = 100 := by omega
        cases on n
        · simp [e1]
        · simp only [e1, if_neg e2, if_neg h4, if_true]
          split
          · simp [hz]
          · rfl
set_option maxRecDepth 20000 in
theorem agI_none {o : Option Nat} (h : ∀ c, o = some c → c < 1000) : agI o = -1 ↔ o = none := by
  cases o with
  | none => simp [agI]
  | some c =>
    have := h c rfl
    simp only [agI, reduceCtorEq, iff_false]
    intro e
    have e2 := congrArg Int32.toInt e
    rw [nI_toInt (by omega)] at e2
    have e3 : (-1 : Int32).toInt = -1 := rfl
    omega
/-- on what a roll agrees: 4 where nobody lives on it -/
def agK (K : KT) (r : Nat) : Option Nat := agr 4 (fun p => K (4 * p + K (51 + r))) (K (59 + r) &&& lmK K).testBit (K 93)
set_option maxRecDepth 20000 in
theorem agK_lt {K : KT} (h : WF K) {r : Nat} (hr : r < K 94) : ∀ c, agK K r = some c → c < 1000 := fun c hc => agr_lt (by omega) (fun p hp => h.mark hp (h.roll hr).2.1) hc
set_option maxRecDepth 20000 in
theorem and_lt2 {K : KT} (h : WF K) {r : Nat} (hr : r < K 94) : K (59 + r) &&& lmK K < 2 ^ K 93 := Nat.lt_of_le_of_lt Nat.and_le_left (h.roll hr).2.2.2
set_option maxRecDepth 20000 in
theorem tb_off {s n p : Nat} (h : s < 2 ^ n) (hp : n ≤ p) : s.testBit p = false := Nat.testBit_lt_two_pow (Nat.lt_of_lt_of_le h (Nat.pow_le_pow_right (by omega) hp))
set_option maxRecDepth 20000 in
theorem agK_x {K : KT} (h : WF K) {r : Nat} (hr : r < K 94) : agr 100 (dg (K 93) (rowN (fun p => K (4 * p + K (51 + r))) (K 93))) (K (59 + r) &&& lmK K).testBit (K 93) = (agK K r).map z100 := by
  have hm : ∀ p, p < K 93 → K (4 * p + K (51 + r)) < 4 := fun p hp => h.mark hp (h.roll hr).2.1
  rw [agr_congr (mk' := fun p => K (4 * p + K (51 + r))) (fun p hp => dg_row hm p hp), agr_z hm]
  rfl
set_option maxRecDepth 20000 in
theorem agK_m {K : KT} (h : WF K) {r : Nat} (hr : r < K 94) : agr 4 (dg 6 (rowN (fun p => K (4 * p + K (51 + r))) (K 93) * 4 ^ (6 - K 93))) (K (59 + r) &&& lmK K).testBit 6 = agK K r := by
  have hm : ∀ p, p < K 93 → K (4 * p + K (51 + r)) < 4 := fun p hp => h.mark hp (h.roll hr).2.1
  have h6 := h.n
  have e := agr_off (z := 4) (mk := dg 6 (rowN (fun p => K (4 * p + K (51 + r))) (K 93) * 4 ^ (6 - K 93))) (on := (K (59 + r) &&& lmK K).testBit) (n := K 93) (6 - K 93) (fun p hp => tb_off (and_lt2 h hr) hp)
  rw [show K 93 + (6 - K 93) = 6 by omega] at e
  rw [e, agr_congr (mk' := fun p => K (4 * p + K (51 + r))) (fun p hp => (dg6 h6 hp).trans (dg_row hm p hp))]
  rfl
set_option maxRecDepth 20000 in
theorem sub3neg {w : Int32} (hw : w < 0) : liesF (w - 3) 0 3 = false := by
  have h1 := w.le_toInt
  rw [Int32.lt_iff_toInt_lt] at hw
  have e0 : (0 : Int32).toInt = 0 := rfl
  have e3 : (3 : Int32).toInt = 3 := rfl
  simp only [liesF, Int32.lt_iff_toInt_lt, decide_eq_false_iff_not, not_and, Int32.toInt_sub, e0, e3]
  rw [e0] at hw
  rw [Int.bmod_def]
  split <;> omega
section Reads
variable {d : Nat} {VI : VIT} {VL : VLT} {G : VRT} {P : Post} {ext : HL} {n : Nat}
set_option maxRecDepth 20000 in
theorem m_living_loop {f : Nat → Nat} (hn : VI 76 93 = nI n) (hn6 : n ≤ 6) (hf : ∀ p, p < n → VI 76 (24 + p) = nI (f p) ∧ f p ≤ 1) (hP : P (some (.int (nI (mskN f n)))) (LY ++ ext) VI VL (vr G)) : ∀ (m i : Nat), i + m = n → Ex (d + 1) mi170 4 [.ref 74, .int (nI (mskN f i)), .int (nI i)] [] (LY ++ ext) VI VL (vr G) 0 0 P := by
  intro m
  induction m with
  | zero =>
    intro i hi
    have e : i = n := by omega
    subst e
    refine x_iload_n rfl rfl ?_
    refine x_aload_n rfl rfl ?_
    refine x_getR (u := .ref _) rfl rfl rfl rfl ?_
    refine x_bipushN (q := 93) rfl ?_
    refine x_ialE (j := 93) rfl rfl (rfl) (by omega) (hn) ?_
    refine x_icmpN_ge rfl (fun c12 => ?_) (fun c12 => ?_)
    rotate_left
    · exact absurd c12 (by first | decide | omega)
    refine x_iload_n rfl rfl ?_
    refine x_iret rfl rfl ?_
    exact hP | succ m ih =>
    intro i hi
    have h1 := hf i (by omega)
    have hp2 := pow6 (show i ≤ 6 by omega)
    have eo := mskN_or (f := f) (i := i) (fun p hp => (hf p (by omega)).2) h1.2
    refine x_iload_n rfl rfl ?_
    refine x_aload_n rfl rfl ?_
    refine x_getR (u := .ref _) rfl rfl rfl rfl ?_
    refine x_bipushN (q := 93) rfl ?_
    refine x_ialE (j := 93) rfl rfl (rfl) (by omega) (hn) ?_
    refine x_icmpN_ge rfl (fun c12 => ?_) (fun c12 => ?_)
    · exact absurd c12 (by first | decide | omega)
    refine x_iload_n rfl rfl ?_
    refine x_aload_n rfl rfl ?_
    refine x_iload_n rfl rfl ?_
    refine x_callV (M' := mi167) (As := [_]) (bc1 := 0) (bs1 := 0) (bc2 := 0) (bs2 := 0) rfl rfl rfl rfl ok167 rfl rfl (by decide) rfl rfl rfl rfl rfl rfl ?_
    refine m_lives (by omega) ?_
    rw [b1_life h1.1 h1.2]
    refine x_ifN_eq rfl (fun c21 => ?_) (fun c21 => ?_)
    · refine x_iconstN (q := 0) rfl ?_
      refine x_iorN rfl ?_
      refine x_istore_n (ls' := [_, _, _]) rfl rfl rfl ?_
      refine x_iincN (q := 1) (ls' := [_, _, _]) rfl rfl rfl rfl ?_
      refine x_goto rfl ?_
      first | (rw [show mskN f i ||| 0 = mskN f (i + 1) by rw [← eo, c21, Nat.zero_mul]]; exact ih (i + 1) (by omega)) | (rw [show mskN f i ||| 1 * 2 ^ i = mskN f (i + 1) by rw [← eo, show f i = 1 by omega]]; exact ih (i + 1) (by omega))
    · refine x_iconstN (q := 1) rfl ?_
      refine x_iload_n rfl rfl ?_
      refine x_ishlN rfl ?_
      refine x_goto rfl ?_
      refine x_iorN rfl ?_
      refine x_istore_n (ls' := [_, _, _]) rfl rfl rfl ?_
      refine x_iincN (q := 1) (ls' := [_, _, _]) rfl rfl rfl rfl ?_
      refine x_goto rfl ?_
      first | (rw [show mskN f i ||| 0 = mskN f (i + 1) by rw [← eo, c21, Nat.zero_mul]]; exact ih (i + 1) (by omega)) | (rw [show mskN f i ||| 1 * 2 ^ i = mskN f (i + 1) by rw [← eo, show f i = 1 by omega]]; exact ih (i + 1) (by omega))
set_option maxRecDepth 20000 in
theorem m_living {f : Nat → Nat} (hn : VI 76 93 = nI n) (hn6 : n ≤ 6) (hf : ∀ p, p < n → VI 76 (24 + p) = nI (f p) ∧ f p ≤ 1) (hP : P (some (.int (nI (mskN f n)))) (LY ++ ext) VI VL (vr G)) : Ex (d + 1) mi170 0 (entL [.ref 74] 3) [] (LY ++ ext) VI VL (vr G) 0 0 P := by
  refine x_iconstN (q := 0) rfl ?_
  refine x_istore_n (ls' := [_, _, _]) rfl rfl rfl ?_
  refine x_iconstN (q := 0) rfl ?_
  refine x_istore_n (ls' := [_, _, _]) rfl rfl rfl ?_
  exact m_living_loop hn hn6 hf hP n 0 (by omega)
set_option maxRecDepth 20000 in
theorem m_livingK {K : KT} (hM : RK (VI 76) K) (hW : WF K) (hP : P (some (.int (nI (lmK K)))) (LY ++ ext) VI VL (vr G)) : Ex (d + 1) mi170 0 (entL [.ref 74] 3) [] (LY ++ ext) VI VL (vr G) 0 0 P := by
  have h6 := hW.n
  exact m_living (hM.at 93) hW.n (fun p hp => ⟨hM.at (24 + p), hW.life hp⟩) hP
set_option maxRecDepth 20000 in
theorem m_ones_loop {lay : HL} {VR : VRT} {s : Nat} (hs : s < 2147483648) (hP : P (some (.int (nI (popN s 6)))) lay VI VL VR) : ∀ (m i : Nat), i + m = 6 → Ex (d + 0) mi158 4 [.int (nI s), .int (nI (popN s i)), .int (nI i)] [] lay VI VL VR 0 0 P := by
  intro m
  induction m with
  | zero =>
    intro i hi
    have e : i = 6 := by omega
    subst e
    refine x_iload_n rfl rfl ?_
    refine x_bipushN (q := 6) rfl ?_
    refine x_icmpN_ge rfl (fun c7 => ?_) (fun c7 => ?_)
    rotate_left
    · exact absurd c7 (by first | decide | omega)
    refine x_iload_n rfl rfl ?_
    refine x_iret rfl rfl ?_
    exact hP | succ m ih =>
    intro i hi
    refine x_iload_n rfl rfl ?_
    refine x_bipushN (q := 6) rfl ?_
    refine x_icmpN_ge rfl (fun c7 => ?_) (fun c7 => ?_)
    · exact absurd c7 (by first | decide | omega)
    refine x_iload_n rfl rfl ?_
    refine x_iload_n rfl rfl ?_
    refine x_iload_n rfl rfl ?_
    refine x_ishrN rfl ?_
    refine x_iconstN (q := 1) rfl ?_
    refine x_iandM1 rfl ?_
    refine x_iaddN rfl ?_
    refine x_istore_n (ls' := [_, _, _]) rfl rfl rfl ?_
    refine x_iincN (q := 1) (ls' := [_, _, _]) rfl rfl rfl rfl ?_
    refine x_goto rfl ?_
    exact ih (i + 1) (by omega)
set_option maxRecDepth 20000 in
theorem m_ones {lay : HL} {VR : VRT} {s : Nat} (hs : s < 2147483648) (hP : P (some (.int (nI (popN s 6)))) lay VI VL VR) : Ex d mi158 0 (entL [.int (nI s)] 3) [] lay VI VL VR 0 0 P := by
  refine x_iconstN (q := 0) rfl ?_
  refine x_istore_n (ls' := [_, _, _]) rfl rfl rfl ?_
  refine x_iconstN (q := 0) rfl ?_
  refine x_istore_n (ls' := [_, _, _]) rfl rfl rfl ?_
  exact m_ones_loop hs hP 6 0 (by omega)
set_option maxRecDepth 20000 in
theorem m_manyDone_loop {f : Nat → Nat} (hn : VI 76 94 = nI n) (hn6 : n ≤ 8) (hf : ∀ p, p < n → VI 76 (30 + p) = nI (f p)) (hP : P (some (.int (nI (sumN f n)))) (LY ++ ext) VI VL (vr G)) : ∀ (m i : Nat), i + m = n → Ex (d + 0) mi277 4 [.ref 74, .int (nI (sumN f i)), .int (nI i)] [] (LY ++ ext) VI VL (vr G) 0 0 P := by
  intro m
  induction m with
  | zero =>
    intro i hi
    have e : i = n := by omega
    subst e
    refine x_iload_n rfl rfl ?_
    refine x_aload_n rfl rfl ?_
    refine x_getR (u := .ref _) rfl rfl rfl rfl ?_
    refine x_bipushN (q := 94) rfl ?_
    refine x_ialE (j := 94) rfl rfl (rfl) (by omega) (hn) ?_
    refine x_icmpN_ge rfl (fun c12 => ?_) (fun c12 => ?_)
    rotate_left
    · exact absurd c12 (by first | decide | omega)
    refine x_iload_n rfl rfl ?_
    refine x_iret rfl rfl ?_
    exact hP | succ m ih =>
    intro i hi
    refine x_iload_n rfl rfl ?_
    refine x_aload_n rfl rfl ?_
    refine x_getR (u := .ref _) rfl rfl rfl rfl ?_
    refine x_bipushN (q := 94) rfl ?_
    refine x_ialE (j := 94) rfl rfl (rfl) (by omega) (hn) ?_
    refine x_icmpN_ge rfl (fun c12 => ?_) (fun c12 => ?_)
    · exact absurd c12 (by first | decide | omega)
    refine x_iload_n rfl rfl ?_
    refine x_aload_n rfl rfl ?_
    refine x_getR (u := .ref _) rfl rfl rfl rfl ?_
    refine x_bipushN (q := 30) rfl ?_
    refine x_iload_n rfl rfl ?_
    refine x_iaddN rfl ?_
    refine x_ialE (j := 30 + i) rfl rfl (rfl) (by omega) (hf i (by omega)) ?_
    refine x_iaddN rfl ?_
    refine x_istore_n (ls' := [_, _, _]) rfl rfl rfl ?_
    refine x_iincN (q := 1) (ls' := [_, _, _]) rfl rfl rfl rfl ?_
    refine x_goto rfl ?_
    exact ih (i + 1) (by omega)
set_option maxRecDepth 20000 in
theorem m_manyDone {f : Nat → Nat} (hn : VI 76 94 = nI n) (hn6 : n ≤ 8) (hf : ∀ p, p < n → VI 76 (30 + p) = nI (f p)) (hP : P (some (.int (nI (sumN f n)))) (LY ++ ext) VI VL (vr G)) : Ex d mi277 0 (entL [.ref 74] 3) [] (LY ++ ext) VI VL (vr G) 0 0 P := by
  refine x_iconstN (q := 0) rfl ?_
  refine x_istore_n (ls' := [_, _, _]) rfl rfl rfl ?_
  refine x_iconstN (q := 0) rfl ?_
  refine x_istore_n (ls' := [_, _, _]) rfl rfl rfl ?_
  exact m_manyDone_loop hn hn6 hf hP n 0 (by omega)
set_option maxRecDepth 20000 in
theorem m_livingOn {K : KT} {r : Nat} (hM : RK (VI 76) K) (hW : WF K) (hr : r < 8) (hP : P (some (.int (nI (K (59 + r) &&& lmK K)))) (LY ++ ext) VI VL (vr G)) : Ex (d + 2) mi176 0 (entL [.ref 74, .int (nI r)] 2) [] (LY ++ ext) VI VL (vr G) 0 0 P := by
  refine x_aload_n rfl rfl ?_
  refine x_getR (u := .ref _) rfl rfl rfl rfl ?_
  refine x_bipushN (q := 59) rfl ?_
  refine x_iload_n rfl rfl ?_
  refine x_iaddN rfl ?_
  refine x_ialE (j := 59 + r) rfl rfl (rfl) (by omega) (hM.at (59 + r)) ?_
  refine x_aload_n rfl rfl ?_
  refine x_callV (M' := mi170) (As := []) (bc1 := 0) (bs1 := 0) (bc2 := 0) (bs2 := 0) rfl rfl rfl rfl ok170 rfl rfl (by decide) rfl rfl rfl rfl rfl rfl ?_
  refine m_livingK hM hW ?_
  refine x_iandN rfl ?_
  refine x_iret rfl rfl ?_
  exact hP
set_option maxRecDepth 20000 in
theorem m_placeOf {lay : HL} {VR : VRT} {p : Nat} (hp : p ≤ 5) (hP : P (some (.int (nI (2 * (5 - p))))) lay VI VL VR) : Ex d mi178 0 (entL [.int (nI p)] 1) [] lay VI VL VR 0 0 P := by
  refine x_iconstN (q := 2) rfl ?_
  refine x_iconstN (q := 5) rfl ?_
  refine x_iload_n rfl rfl ?_
  refine x_isubN rfl ?_
  refine x_imulN rfl ?_
  refine x_iret rfl rfl ?_
  exact hP
set_option maxRecDepth 20000 in
theorem m_markIn {lay : HL} {VR : VRT} {row p : Nat} (hr : row < 4096) (hp : p ≤ 5) (hP : P (some (.int (nI (dg 6 row p)))) lay VI VL VR) : Ex (d + 1) mi179 0 (entL [.int (nI row), .int (nI p)] 2) [] lay VI VL VR 0 0 P := by
  refine x_iload_n rfl rfl ?_
  refine x_iload_n rfl rfl ?_
  refine x_callS (M' := mi178) (As := [_]) (bc1 := 0) (bs1 := 0) (bc2 := 0) (bs2 := 0) rfl rfl rfl rfl ok178 rfl rfl rfl rfl rfl rfl ?_
  refine m_placeOf hp ?_
  refine x_ishrN rfl ?_
  refine x_iconstN (q := 3) rfl ?_
  refine x_iandM3 rfl ?_
  refine x_iret rfl rfl ?_
  exact hP
set_option maxRecDepth 20000 in
theorem m_isIn {lay : HL} {VR : VRT} {s k : Nat} (hs : s < 2147483648) (hk : k < 32) (hP : P (some (.int (b1 (s.testBit k)))) lay VI VL VR) : Ex d mi157 0 (entL [.int (nI s), .int (nI k)] 2) [] lay VI VL VR 0 0 P := by
  refine x_iload_n rfl rfl ?_
  refine x_iload_n rfl rfl ?_
  refine x_ishrN rfl ?_
  refine x_iconstN (q := 1) rfl ?_
  refine x_iandM1 rfl ?_
  refine x_iconstN (q := 1) rfl ?_
  refine x_icmpN_ne rfl (fun c6 => ?_) (fun c6 => ?_)
  · refine x_iconstN (q := 0) rfl ?_
    refine x_zret rfl rfl (by first | exact Or.inl rfl | exact Or.inr rfl) ?_
    refine P_i ?_ hP; simp only [b1, ← bitE, c6]; rfl
  · refine x_iconstN (q := 1) rfl ?_
    refine x_goto rfl ?_
    refine x_zret rfl rfl (by first | exact Or.inl rfl | exact Or.inr rfl) ?_
    refine P_i ?_ hP; simp only [b1, ← bitE, c6]; rfl
set_option maxRecDepth 20000 in
theorem m_rowWith {lay : HL} {VR : VRT} {row p m : Nat} (hr : row < 4096) (hp : p ≤ 5) (hm : m < 4) (hP : P (some (.int (nI (setD (2 * (5 - p)) row m)))) lay VI VL VR) : Ex (d + 1) mi180 0 (entL [.int (nI row), .int (nI p), .int (nI m)] 3) [] lay VI VL VR 0 0 P := by
  have h10 : 2 ^ (2 * (5 - p)) ≤ 1024 := Nat.le_trans (Nat.pow_le_pow_right (by omega) (show 2 * (5 - p) ≤ 10 by omega)) (by decide)
  have hm4 : m * 2 ^ (2 * (5 - p)) ≤ 3 * 1024 := Nat.mul_le_mul (by omega) h10
  refine x_iload_n rfl rfl ?_
  refine x_iconstN (q := 3) rfl ?_
  refine x_iload_n rfl rfl ?_
  refine x_callS (M' := mi178) (As := [_]) (bc1 := 0) (bs1 := 0) (bc2 := 0) (bs2 := 0) rfl rfl rfl rfl ok178 rfl rfl rfl rfl rfl rfl ?_
  refine m_placeOf hp ?_
  refine x_ishlN rfl ?_
  refine x_iconst rfl ?_
  refine x_ixor rfl ?_
  refine x_iand rfl ?_
  rw [clrI (by omega) hr]
  refine x_iload_n rfl rfl ?_
  refine x_iload_n rfl rfl ?_
  refine x_callS (M' := mi178) (As := [_]) (bc1 := 0) (bs1 := 0) (bc2 := 0) (bs2 := 0) rfl rfl rfl rfl ok178 rfl rfl rfl rfl rfl rfl ?_
  refine m_placeOf hp ?_
  refine x_ishlN rfl ?_
  refine x_iorN rfl ?_
  rw [setD_or hm]
  refine x_iret rfl rfl ?_
  exact hP
set_option maxRecDepth 20000 in
theorem m_rowNow_loop {f : Nat → Nat} {q : Nat} (hn : VI 76 93 = nI n) (hn6 : n ≤ 6) (hq : q < 4) (hf : ∀ p, p < n → VI 76 (4 * p + q) = nI (f p) ∧ f p < 4) (hP : P (some (.int (nI (rowN f n * 4 ^ (6 - n))))) (LY ++ ext) VI VL (vr G)) : ∀ (m i : Nat), i + m = n → Ex (d + 2) mi181 4 [.ref 74, .int (nI q), .int (nI (rowN f i * 4 ^ (6 - i))), .int (nI i)] [] (LY ++ ext) VI VL (vr G) 0 0 P := by
  intro m
  induction m with
  | zero =>
    intro i hi
    have e : i = n := by omega
    subst e
    refine x_iload_n rfl rfl ?_
    refine x_aload_n rfl rfl ?_
    refine x_getR (u := .ref _) rfl rfl rfl rfl ?_
    refine x_bipushN (q := 93) rfl ?_
    refine x_ialE (j := 93) rfl rfl (rfl) (by omega) (hn) ?_
    refine x_icmpN_ge rfl (fun c12 => ?_) (fun c12 => ?_)
    rotate_left
    · exact absurd c12 (by first | decide | omega)
    refine x_iload_n rfl rfl ?_
    refine x_iret rfl rfl ?_
    exact hP | succ m ih =>
    intro i hi
    have h1 := hf i (by omega)
    have hr := row6_lt (f := f) (i := i) (by omega) (fun p hp => (hf p (by omega)).2)
    refine x_iload_n rfl rfl ?_
    refine x_aload_n rfl rfl ?_
    refine x_getR (u := .ref _) rfl rfl rfl rfl ?_
    refine x_bipushN (q := 93) rfl ?_
    refine x_ialE (j := 93) rfl rfl (rfl) (by omega) (hn) ?_
    refine x_icmpN_ge rfl (fun c12 => ?_) (fun c12 => ?_)
    · exact absurd c12 (by first | decide | omega)
    refine x_iload_n rfl rfl ?_
    refine x_iload_n rfl rfl ?_
    refine x_aload_n rfl rfl ?_
    refine x_iload_n rfl rfl ?_
    refine x_iload_n rfl rfl ?_
    refine x_callV (M' := mi168) (As := [_, _]) (bc1 := 0) (bs1 := 0) (bc2 := 0) (bs2 := 0) rfl rfl rfl rfl ok168 rfl rfl (by decide) rfl rfl rfl rfl rfl rfl ?_
    refine m_markOf (by omega) hq ?_
    rw [h1.1]
    refine x_callS (M' := mi180) (As := [_, _, _]) (bc1 := 0) (bs1 := 0) (bc2 := 0) (bs2 := 0) rfl rfl rfl rfl ok180 rfl rfl rfl rfl rfl rfl ?_
    refine m_rowWith hr (by omega) h1.2 ?_
    rw [row6_step (by omega)]
    refine x_istore_n (ls' := [_, _, _, _]) rfl rfl rfl ?_
    refine x_iincN (q := 1) (ls' := [_, _, _, _]) rfl rfl rfl rfl ?_
    refine x_goto rfl ?_
    exact ih (i + 1) (by omega)
set_option maxRecDepth 20000 in
theorem m_rowNow {f : Nat → Nat} {q : Nat} (hn : VI 76 93 = nI n) (hn6 : n ≤ 6) (hq : q < 4) (hf : ∀ p, p < n → VI 76 (4 * p + q) = nI (f p) ∧ f p < 4) (hP : P (some (.int (nI (rowN f n * 4 ^ (6 - n))))) (LY ++ ext) VI VL (vr G)) : Ex (d + 2) mi181 0 (entL [.ref 74, .int (nI q)] 4) [] (LY ++ ext) VI VL (vr G) 0 0 P := by
  refine x_iconstN (q := 0) rfl ?_
  refine x_istore_n (ls' := [_, _, _, _]) rfl rfl rfl ?_
  refine x_iconstN (q := 0) rfl ?_
  refine x_istore_n (ls' := [_, _, _, _]) rfl rfl rfl ?_
  exact m_rowNow_loop hn hn6 hq hf hP n 0 (by omega)
set_option maxRecDepth 20000 in
theorem m_rowNowK {K : KT} {q : Nat} (hM : RK (VI 76) K) (hW : WF K) (hq : q < 4) (hP : P (some (.int (nI (rowN (fun p => K (4 * p + q)) (K 93) * 4 ^ (6 - K 93))))) (LY ++ ext) VI VL (vr G)) : Ex (d + 2) mi181 0 (entL [.ref 74, .int (nI q)] 4) [] (LY ++ ext) VI VL (vr G) 0 0 P := by
  have h6 := hW.n
  exact m_rowNow (f := fun p => K (4 * p + q)) (hM.at 93) hW.n hq (fun p hp => ⟨hM.at (4 * p + q), hW.mark hp hq⟩) hP
set_option maxRecDepth 20000 in
theorem m_oneMark_loop {lay : HL} {VR : VRT} {row s : Nat} (hr : row < 4096) (hs : s < 2147483648) (hP : P (some (.int (agI (agr 4 (dg 6 row) s.testBit 6)))) lay VI VL VR) : ∀ (m i c : Nat) (j : Value), i + m = 6 → agr 4 (dg 6 row) s.testBit i = some c → Ex (d + 2) mi177 4 [.int (nI row), .int (nI s), .int (nI c), .int (nI i), j] [] lay VI VL VR 0 0 P := by
  intro m
  induction m with
  | zero =>
    intro i c j hi hc
    have e : i = 6 := by omega
    subst e
    refine x_iload_n rfl rfl ?_
    refine x_bipushN (q := 6) rfl ?_
    refine x_icmpN_ge rfl (fun c7 => ?_) (fun c7 => ?_)
    rotate_left
    · exact absurd c7 (by first | decide | omega)
    refine x_iload_n rfl rfl ?_
    refine x_iret rfl rfl ?_
    exact P_i (by rw [hc]; rfl) hP | succ m ih =>
    intro i c j hi hc
    have hcl : c < 1000 := agr_lt (by omega) (fun p _ => Nat.mod_lt _ (by omega)) hc
    have hs1 : agr 4 (dg 6 row) s.testBit (i + 1) = if s.testBit i = true then (if c = 4 then some (dg 6 row i) else if c = dg 6 row i then some (dg 6 row i) else none) else some c := by simp only [agr, hc]
    have hdl : dg 6 row i < 4 := Nat.mod_lt _ (by omega)
    refine x_iload_n rfl rfl ?_
    refine x_bipushN (q := 6) rfl ?_
    refine x_icmpN_ge rfl (fun c7 => ?_) (fun c7 => ?_)
    · exact absurd c7 (by first | decide | omega)
    refine x_iload_n rfl rfl ?_
    refine x_iload_n rfl rfl ?_
    refine x_callS (M' := mi157) (As := [_, _]) (bc1 := 0) (bs1 := 0) (bc2 := 0) (bs2 := 0) rfl rfl rfl rfl ok157 rfl rfl rfl rfl rfl rfl ?_
    refine m_isIn hs (by omega) ?_
    refine x_if_ne rfl (fun c15 => ?_) (fun c15 => ?_)
    · refine x_iload_n rfl rfl ?_
      refine x_iload_n rfl rfl ?_
      refine x_callS (M' := mi179) (As := [_, _]) (bc1 := 0) (bs1 := 0) (bc2 := 0) (bs2 := 0) rfl rfl rfl rfl ok179 rfl rfl rfl rfl rfl rfl ?_
      refine m_markIn hr (by omega) ?_
      refine x_istore (ls' := [_, _, _, _, _]) rfl rfl rfl ?_
      refine x_iload_n rfl rfl ?_
      refine x_iconstN (q := 4) rfl ?_
      refine x_icmpN_eq rfl (fun c30 => ?_) (fun c30 => ?_)
      · refine x_iload rfl rfl ?_
        refine x_istore_n (ls' := [_, _, _, _, _]) rfl rfl rfl ?_
        refine x_iincN (q := 1) (ls' := [_, _, _, _, _]) rfl rfl rfl rfl ?_
        refine x_goto rfl ?_
        refine ih (i + 1) _ _ (by omega) ?_
        first | (rw [hs1, b1_eq c15]; rfl) | (rw [hs1, if_pos (b1_ne c15), if_pos c30]; first | done | rfl) | (rw [hs1, if_pos (b1_ne c15), if_neg c30, if_pos c36]; first | done | rfl)
      · refine x_iload_n rfl rfl ?_
        refine x_iload rfl rfl ?_
        refine x_icmpN_eq rfl (fun c36 => ?_) (fun c36 => ?_)
        · refine x_iload rfl rfl ?_
          refine x_istore_n (ls' := [_, _, _, _, _]) rfl rfl rfl ?_
          refine x_iincN (q := 1) (ls' := [_, _, _, _, _]) rfl rfl rfl rfl ?_
          refine x_goto rfl ?_
          refine ih (i + 1) _ _ (by omega) ?_
          first | (rw [hs1, b1_eq c15]; rfl) | (rw [hs1, if_pos (b1_ne c15), if_pos c30]; first | done | rfl) | (rw [hs1, if_pos (b1_ne c15), if_neg c30, if_pos c36]; first | done | rfl)
        · refine x_iconst rfl ?_
          refine x_iret rfl rfl ?_
          refine P_i ?_ hP
          have h1 : agr 4 (dg 6 row) s.testBit (i + 1) = none := by rw [hs1, if_pos (b1_ne c15), if_neg c30, if_neg c36]
          have h2 := agr_none h1 (6 - (i + 1))
          rw [show i + 1 + (6 - (i + 1)) = 6 by omega] at h2
          rw [h2]; rfl
    · refine x_goto rfl ?_
      refine x_iincN (q := 1) (ls' := [_, _, _, _, _]) rfl rfl rfl rfl ?_
      refine x_goto rfl ?_
      refine ih (i + 1) _ _ (by omega) ?_
      first | (rw [hs1, b1_eq c15]; rfl) | (rw [hs1, if_pos (b1_ne c15), if_pos c30]; first | done | rfl) | (rw [hs1, if_pos (b1_ne c15), if_neg c30, if_pos c36]; first | done | rfl)
set_option maxRecDepth 20000 in
theorem m_oneMark {lay : HL} {VR : VRT} {row s : Nat} (hr : row < 4096) (hs : s < 2147483648) (hP : P (some (.int (agI (agr 4 (dg 6 row) s.testBit 6)))) lay VI VL VR) : Ex (d + 2) mi177 0 (entL [.int (nI row), .int (nI s)] 5) [] lay VI VL VR 0 0 P := by
  refine x_iconstN (q := 4) rfl ?_
  refine x_istore_n (ls' := [_, _, _, _, _]) rfl rfl rfl ?_
  refine x_iconstN (q := 0) rfl ?_
  refine x_istore_n (ls' := [_, _, _, _, _]) rfl rfl rfl ?_
  exact m_oneMark_loop hr hs hP 6 0 4 _ (by omega) rfl
set_option maxRecDepth 20000 in
theorem m_agreement {K : KT} {r : Nat} (hM : RK (VI 76) K) (hW : WF K) (hr : r < K 94) (hP : P (some (.int (agI (agK K r)))) (LY ++ ext) VI VL (vr G)) : Ex (d + 3) mi182 0 (entL [.ref 74, .int (nI r)] 2) [] (LY ++ ext) VI VL (vr G) 0 0 P := by
  have h8 : K 94 ≤ 8 := hW.2.1
  have h6 := hW.n
  have hlt := Nat.lt_of_lt_of_le (and_lt2 hW hr) (pow6 h6)
  have hd := (hW.roll hr).2.1
  refine x_aload_n rfl rfl ?_
  refine x_aload_n rfl rfl ?_
  refine x_getR (u := .ref _) rfl rfl rfl rfl ?_
  refine x_bipushN (q := 51) rfl ?_
  refine x_iload_n rfl rfl ?_
  refine x_iaddN rfl ?_
  refine x_ialE (j := 51 + r) rfl rfl (rfl) (by omega) (hM.at (51 + r)) ?_
  refine x_callV (M' := mi181) (As := [_]) (bc1 := 0) (bs1 := 0) (bc2 := 0) (bs2 := 0) rfl rfl rfl rfl ok181 rfl rfl (by decide) rfl rfl rfl rfl rfl rfl ?_
  refine m_rowNowK hM hW hd ?_
  refine x_aload_n rfl rfl ?_
  refine x_iload_n rfl rfl ?_
  refine x_callV (M' := mi176) (As := [_]) (bc1 := 0) (bs1 := 0) (bc2 := 0) (bs2 := 0) rfl rfl rfl rfl ok176 rfl rfl (by decide) rfl rfl rfl rfl rfl rfl ?_
  refine m_livingOn hM hW (by omega) ?_
  refine x_callS (M' := mi177) (As := [_, _]) (bc1 := 0) (bs1 := 0) (bc2 := 0) (bs2 := 0) rfl rfl rfl rfl ok177 rfl rfl rfl rfl rfl rfl ?_
  refine m_oneMark (row6_lt h6 (fun p hp => hW.mark hp hd)) (by omega) ?_
  rw [agK_m hW hr]
  refine x_iret rfl rfl ?_
  exact hP
set_option maxRecDepth 20000 in
theorem s_accordK {K : KT} {r : Nat} (hX : RW 3 K VI) (hW : WF K) (hr : r < K 94) (hP : P (some (.int (agI ((agK K r).map z100)))) (LY ++ ext) VI VL (vr G)) : Ex (d + 3) mi107 0 (entL [.ref 3, .int (nI r)] 2) [] (LY ++ ext) VI VL (vr G) 0 0 P := by
  have h6 := hW.n
  have hd := (hW.roll hr).2.1
  have hw := Nat.lt_of_lt_of_le (hW.roll hr).2.2.2 (pow6 h6)
  refine s_accord_in (f := fun p => K (4 * p + K (51 + r))) hX.n h6 hX.rn hW.2.1 hr (hX.rday hr) hd (hX.ron hr) hw hX.lm (fun p hp => ⟨hX.mark hp hd, hW.mark hp hd⟩) ?_
  rw [agK_x hW hr]
  exact hP
set_option maxRecDepth 20000 in
theorem s_bitCount {lay : HL} {VR : VRT} {m : Nat} (hm : m < 256) (hP : P (some (.int (nI (popN m 8)))) lay VI VL VR) : Ex d mi280 0 (entL [.int (nI m)] 1) [] lay VI VL VR 0 0 P := by
  refine x_iload_n rfl rfl ?_
  refine x_iload_n rfl rfl ?_
  refine x_iconst rfl ?_
  refine x_iushr rfl ?_
  refine x_ldc_w rfl ?_
  refine x_iand rfl ?_
  refine x_isub rfl ?_
  refine x_istore_n (ls' := [_]) rfl rfl rfl ?_
  refine x_iload_n rfl rfl ?_
  refine x_ldc_w rfl ?_
  refine x_iand rfl ?_
  refine x_iload_n rfl rfl ?_
  refine x_iconst rfl ?_
  refine x_iushr rfl ?_
  refine x_ldc_w rfl ?_
  refine x_iand rfl ?_
  refine x_iadd rfl ?_
  refine x_istore_n (ls' := [_]) rfl rfl rfl ?_
  refine x_iload_n rfl rfl ?_
  refine x_iload_n rfl rfl ?_
  refine x_iconst rfl ?_
  refine x_iushr rfl ?_
  refine x_iadd rfl ?_
  refine x_ldc_w rfl ?_
  refine x_iand rfl ?_
  refine x_istore_n (ls' := [_]) rfl rfl rfl ?_
  refine x_iload_n rfl rfl ?_
  refine x_iload_n rfl rfl ?_
  refine x_bipush rfl ?_
  refine x_iushr rfl ?_
  refine x_iadd rfl ?_
  refine x_istore_n (ls' := [_]) rfl rfl rfl ?_
  refine x_iload_n rfl rfl ?_
  refine x_iload_n rfl rfl ?_
  refine x_bipush rfl ?_
  refine x_iushr rfl ?_
  refine x_iadd rfl ?_
  refine x_istore_n (ls' := [_]) rfl rfl rfl ?_
  refine x_iload_n rfl rfl ?_
  refine x_bipush rfl ?_
  refine x_iand rfl ?_
  refine x_iret rfl rfl ?_
  refine P_i ?_ hP
  clear hP
  revert hm
  revert m
  decide +kernel
end Reads
