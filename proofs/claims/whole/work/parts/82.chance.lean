/-! ===== what does not matter between two calls ===== -/
def kpP (a k : Nat) : Prop := a = 0 ∨ (3 ≤ a ∧ a ≤ 36) ∨ a = 45 ∨ a = 46 ∨ (a = 63 ∧ k = 6) ∨ a = 65 ∨ (a = 70 ∧ k = 3) ∨ (71 ≤ a ∧ a ≤ 73) ∨ (a = 74 ∧ (k = 0 ∨ k = 6 ∨ k = 13 ∨ k = 14 ∨ k = 32 ∨ k = 42 ∨ k = 50)) ∨ (75 ≤ a ∧ a ≤ 78) ∨ a = 80 ∨ a = 81 ∨ a = 88 ∨ 99 ≤ a
set_option maxRecDepth 20000 in
theorem St.scratch {j : Nat} {ext : HL} {G : VRT} {K : KT} {tn : Nat} {T : Nat → Nat} {u : Nat} {US : Nat → KT} {lg : Nat → Nat} {VI VI' : VIT} (h : St j ext G K tn T u US lg VI) (hF : ∀ a k, kpP a k → VI' a k = VI a k) : St (j + 1) ext G K tn T u US lg VI' := by
  obtain ⟨h1, h2, h3, h4, h5, h6, h7, h8, h9, h10, h11, h12⟩ := h
  have hr : ∀ a, (a = 0 ∨ (3 ≤ a ∧ a ≤ 36) ∨ a = 45 ∨ a = 46 ∨ a = 65 ∨ (71 ≤ a ∧ a ≤ 73) ∨ (75 ≤ a ∧ a ≤ 78) ∨ a = 80 ∨ a = 81 ∨ a = 88 ∨ 99 ≤ a) → VI' a = VI a := fun a q => funext (fun k => hF a k (by unfold kpP; omega))
  have hk : ∀ k, (k = 0 ∨ k = 6 ∨ k = 13 ∨ k = 14 ∨ k = 32 ∨ k = 42 ∨ k = 50) → VI' 74 k = VI 74 k := fun k q => hF 74 k (by unfold kpP; omega)
  refine ⟨h1, h2.same (fun a _ _ => hr a (by omega)), ?_, ?_, ?_, h6.same (by rw [hr 45 (by omega)]) (hk 32 (by omega)) (hr 46 (by omega)) (hr 88 (by omega)), h7.same (hF 70 3 (by unfold kpP; omega)) (hk 50 (by omega)) (hr 71 (by omega)) (hr 99 (by omega)), (h8.same (hF 63 6 (by unfold kpP; omega)) (hr 65 (by omega))).next, h9.same (by rw [hr 0 (by omega)]) (fun a _ _ => hr a (by omega)) (hr 77 (by omega)) (hr 78 (by omega)) (fun a _ => hr a (by omega)), h10.sameV h1.l6 (fun a _ => hr a (by omega)), ?_, h12⟩
  · rw [hr 76 (by omega)]; exact h3
  · obtain ⟨m1, m2, m3, m4, m5⟩ := h4
    refine ⟨?_, ?_, ?_, ?_, fun k hk' => ?_⟩
    · rw [hr 0 (by omega), hk 0 (by omega)]; exact m1
    · rw [hr 0 (by omega), hk 14 (by omega)]; exact m2
    · rw [hr 0 (by omega), hk 6 (by omega)]; exact m3
    · rw [hr 0 (by omega), hk 42 (by omega)]; exact m4
    · rw [hr 73 (by omega), hr 75 (by omega)]; exact m5 k hk'
  · obtain ⟨t1, t2, t3, t4⟩ := h5
    refine ⟨t1, ?_, ?_, ?_⟩
    · rw [hr 0 (by omega)]; exact t2
    · rw [hk 13 (by omega)]; exact t3
    · rw [hr 72 (by omega), hr 81 (by omega)]; exact t4
  · rw [hr 80 (by omega)]; exact h11
/-! ===== chance ===== -/
def lifeN (rt : Nat) : Nat → Nat
  | 0 => 1000000
  | k + 1 => lifeN rt k * (10 - rt) / 10
set_option maxRecDepth 20000 in
theorem lifeN_le (rt : Nat) : ∀ k, lifeN rt k ≤ 1000000
  | 0 => Nat.le_refl _
  | k + 1 => by
    have ih := lifeN_le rt k
    have h1 : lifeN rt k * (10 - rt) ≤ 1000000 * 10 := Nat.mul_le_mul ih (by omega)
    show lifeN rt k * (10 - rt) / 10 ≤ 1000000
    omega
set_option maxRecDepth 20000 in
theorem lifeN_mul (rt k : Nat) : lifeN rt k * (10 - rt) ≤ 10000000 := by
  have ih := lifeN_le rt k
  exact Nat.le_trans (Nat.mul_le_mul ih (show 10 - rt ≤ 10 by omega)) (by decide)
-- an int as a long
def iL (n : Nat) : Int64 := (nI n).toInt64
set_option maxRecDepth 20000 in
theorem iL_toInt {n : Nat} (h : n < 2147483648) : (iL n).toInt = n := by
  unfold iL
  rw [Int32.toInt_toInt64, nI_toInt h]
set_option maxRecDepth 20000 in
theorem iL_sub {n : Nat} (h : n ≤ 1000000) : iL (1000000 - n) = 1000000 - iL n := by
  rw [← Int64.toInt_inj, Int64.toInt_sub, iL_toInt (by omega), iL_toInt (by omega)]
  have e : (1000000 : Int64).toInt = 1000000 := rfl
  rw [e, Int.bmod_def]
  split <;> omega
set_option maxRecDepth 20000 in
theorem iL_step {a b : Nat} (h : a * b ≤ 10000000) (ha : a ≤ 1000000) (hb : b ≤ 10) : iL a * iL b / 10 = iL (a * b / 10) := by
  have e1 : (iL a * iL b).toInt = ((a * b : Nat) : Int) := by
    rw [Int64.toInt_mul, iL_toInt (by omega), iL_toInt (by omega), ← Int.natCast_mul, Int.bmod_def]
    generalize a * b = c at h ⊢
    split <;> omega
  rw [← Int64.toInt_inj, Int64.toInt_div, e1, iL_toInt (by omega)]
  have e : (10 : Int64).toInt = 10 := rfl
  rw [e]
  generalize a * b = c at h ⊢
  rw [show (c : Int).tdiv 10 = ((c / 10 : Nat) : Int) from rfl, Int.bmod_def]
  split <;> omega
-- how likely those of set alone live, of those on it
def chS (on set : Nat) (L : Int64) : Nat → Int64
  | 0 => 1000000
  | k + 1 => if on.testBit k = true then chS on set L k * (if set.testBit k = true then L else 1000000 - L) / 1000000 else chS on set L k
set_option maxRecDepth 20000 in
theorem chS_off {on set : Nat} {L : Int64} {n : Nat} (h : on < 2 ^ n) : ∀ k, chS on set L (n + k) = chS on set L n
  | 0 => rfl
  | k + 1 => by
    show (if on.testBit (n + k) = true then _ else chS on set L (n + k)) = _
    rw [tb_off h (Nat.le_add_right n k)]
    exact chS_off h k
def okS (f : Nat → Nat) (n on s : Nat) : Prop := s &&& (on ^^^ 4294967295) = 0 ∧ agr 4 f s.testBit n ≠ none
def chA (f : Nat → Nat) (n on : Nat) (L : Int64) : Nat → Int64
  | 0 => 0
  | k + 1 => if (k &&& (on ^^^ 4294967295) = 0 ∧ (agr 4 f k.testBit n).isSome) then chA f n on L k + chS on k L 6 else chA f n on L k
set_option maxRecDepth 20000 in
theorem sub_bits : ∀ s, s < 64 → ∀ on, on < 64 → (s &&& (on ^^^ 4294967295) < 64 ∧ (s &&& (on ^^^ 4294967295) = 0 → s ≤ on)) := by decide +kernel
set_option maxRecDepth 20000 in
theorem chA_off {f : Nat → Nat} {n on : Nat} {L : Int64} (ho : on < 64) : ∀ k, on + 1 + k ≤ 64 → chA f n on L (on + 1 + k) = chA f n on L (on + 1)
  | 0, _ => rfl
  | k + 1, h => by
    have := sub_bits (on + 1 + k) (by omega) on ho
    show (if _ then _ else chA f n on L (on + 1 + k)) = _
    rw [if_neg (fun z => by have := this.2 z.1; omega)]
    exact chA_off ho k (by omega)
section Chance
variable {d : Nat} {VI : VIT} {VL : VLT} {G : VRT} {P : Post} {ext : HL} {K : KT} {on s n r : Nat} {L : Int64}
set_option maxRecDepth 20000 in
theorem x_chS_loop {lay : HL} {VR : VRT} (ho : on < 64) (hs : s < 64) (hP : P (some (.long (chS on s L 6))) lay VI VL VR) : ∀ (m i : Nat), i + m = 6 → Ex (d + 0) mi29 8 [.int (nI on), .int (nI s), .long L, .retAddr 8, .long (chS on s L i), .retAddr 8, .int (nI i)] [] lay VI VL VR 0 0 P := by
  intro m
  induction m with
  | zero =>
    intro i hi
    have e : i = 6 := by omega
    subst e
    refine x_iload rfl rfl ?_
    refine x_bipushN (q := 6) rfl ?_
    refine x_icmpN_ge rfl (fun c12 => ?_) (fun c12 => ?_)
    rotate_left
    · exact absurd c12 (by first | decide | omega)
    refine x_lload rfl rfl ?_
    refine x_lret rfl rfl ?_
    exact hP | succ m ih =>
    intro i hi
    have e0 : chS on s L (i + 1) = if on.testBit i = true then chS on s L i * (if s.testBit i = true then L else 1000000 - L) / 1000000 else chS on s L i := rfl
    rw [Nat.testBit_eq_decide_div_mod_eq, Nat.testBit_eq_decide_div_mod_eq] at e0
    by_cases h1 : on / 2 ^ i % 2 = 1
    · rw [decide_eq_true h1, if_pos rfl] at e0
      by_cases h2 : s / 2 ^ i % 2 = 1
      · rw [decide_eq_true h2, if_pos rfl] at e0
        have hk := ih (i + 1) (by omega)
        rw [e0] at hk
        refine x_iload rfl rfl ?_
        refine x_bipushN (q := 6) rfl ?_
        refine x_icmpN_ge rfl (fun c12 => ?_) (fun c12 => ?_)
        · exact absurd c12 (by first | decide | omega)
        refine x_iload_n rfl rfl ?_
        refine x_iload rfl rfl ?_
        refine x_ishrN rfl ?_
        refine x_iconstN (q := 1) rfl ?_
        refine x_iandM1 rfl ?_
        refine x_iconstN (q := 1) rfl ?_
        refine x_icmpN_ne rfl (fun c22 => ?_) (fun c22 => ?_)
        · exact absurd c22 (by first | decide | omega)
        refine x_lload rfl rfl ?_
        refine x_iload_n rfl rfl ?_
        refine x_iload rfl rfl ?_
        refine x_ishrN rfl ?_
        refine x_iconstN (q := 1) rfl ?_
        refine x_iandM1 rfl ?_
        refine x_iconstN (q := 1) rfl ?_
        refine x_icmpN_ne rfl (fun c34 => ?_) (fun c34 => ?_)
        · exact absurd c34 (by first | decide | omega)
        refine x_lload_n rfl rfl ?_
        refine x_goto rfl ?_
        refine x_lmul rfl ?_
        refine x_ldc2 rfl ?_
        refine x_ldiv rfl (by decide) ?_
        refine x_lstore (ls' := [_, _, _, _, _, _, _]) rfl rfl rfl ?_
        refine x_iincN (q := 1) (ls' := [_, _, _, _, _, _, _]) rfl rfl rfl rfl ?_
        refine x_goto rfl ?_
        exact hk
      · rw [decide_eq_false h2, if_neg (by decide)] at e0
        have hk := ih (i + 1) (by omega)
        rw [e0] at hk
        refine x_iload rfl rfl ?_
        refine x_bipushN (q := 6) rfl ?_
        refine x_icmpN_ge rfl (fun c12 => ?_) (fun c12 => ?_)
        · exact absurd c12 (by first | decide | omega)
        refine x_iload_n rfl rfl ?_
        refine x_iload rfl rfl ?_
        refine x_ishrN rfl ?_
        refine x_iconstN (q := 1) rfl ?_
        refine x_iandM1 rfl ?_
        refine x_iconstN (q := 1) rfl ?_
        refine x_icmpN_ne rfl (fun c22 => ?_) (fun c22 => ?_)
        · exact absurd c22 (by first | decide | omega)
        refine x_lload rfl rfl ?_
        refine x_iload_n rfl rfl ?_
        refine x_iload rfl rfl ?_
        refine x_ishrN rfl ?_
        refine x_iconstN (q := 1) rfl ?_
        refine x_iandM1 rfl ?_
        refine x_iconstN (q := 1) rfl ?_
        refine x_icmpN_ne rfl (fun c34 => ?_) (fun c34 => ?_)
        rotate_left
        · exact absurd c34 (by first | decide | omega)
        refine x_ldc2 rfl ?_
        refine x_lload_n rfl rfl ?_
        refine x_lsub rfl ?_
        refine x_lmul rfl ?_
        refine x_ldc2 rfl ?_
        refine x_ldiv rfl (by decide) ?_
        refine x_lstore (ls' := [_, _, _, _, _, _, _]) rfl rfl rfl ?_
        refine x_iincN (q := 1) (ls' := [_, _, _, _, _, _, _]) rfl rfl rfl rfl ?_
        refine x_goto rfl ?_
        exact hk
    · rw [decide_eq_false h1, if_neg (by decide)] at e0
      have hk := ih (i + 1) (by omega)
      rw [e0] at hk
      refine x_iload rfl rfl ?_
      refine x_bipushN (q := 6) rfl ?_
      refine x_icmpN_ge rfl (fun c12 => ?_) (fun c12 => ?_)
      · exact absurd c12 (by first | decide | omega)
      refine x_iload_n rfl rfl ?_
      refine x_iload rfl rfl ?_
      refine x_ishrN rfl ?_
      refine x_iconstN (q := 1) rfl ?_
      refine x_iandM1 rfl ?_
      refine x_iconstN (q := 1) rfl ?_
      refine x_icmpN_ne rfl (fun c22 => ?_) (fun c22 => ?_)
      rotate_left
      · exact absurd c22 (by first | decide | omega)
      refine x_iincN (q := 1) (ls' := [_, _, _, _, _, _, _]) rfl rfl rfl rfl ?_
      refine x_goto rfl ?_
      exact hk
set_option maxRecDepth 20000 in
theorem x_chS {lay : HL} {VR : VRT} (ho : on < 64) (hs : s < 64) (hP : P (some (.long (chS on s L 6))) lay VI VL VR) : Ex d mi29 0 (entL [.int (nI on), .int (nI s), .long L] 7) [] lay VI VL VR 0 0 P := by
  refine x_ldc2 rfl ?_
  refine x_lstore (ls' := [_, _, _, _, _, _, _]) rfl rfl rfl ?_
  refine x_iconstN (q := 0) rfl ?_
  refine x_istore (ls' := [_, _, _, _, _, _, _]) rfl rfl rfl ?_
  exact x_chS_loop ho hs hP 6 0 rfl
set_option maxRecDepth 20000 in
theorem m_part_loop {l : Nat} (hM : RK (VI 76) K) (hW : WF K) (hl : l ≤ 1000000) (ho : on < 64) (hs : s < 64) (hP : P (some (.long (chS on s (iL l) (K 93)))) (LY ++ ext) VI VL (vr G)) : ∀ (m i : Nat), i + m = K 93 → Ex (d + 1) mi266 8 [.ref 74, .int (nI s), .int (nI on), .int (nI l), .long (chS on s (iL l) i), .retAddr 8, .int (nI i)] [] (LY ++ ext) VI VL (vr G) 0 0 P := by
  have h6 := hW.n
  intro m
  induction m with
  | zero =>
    intro i hi
    have e : i = K 93 := by omega
    subst e
    refine x_iload rfl rfl ?_
    refine x_aload_n rfl rfl ?_
    refine x_getR (u := .ref _) rfl rfl rfl rfl ?_
    refine x_bipushN (q := 93) rfl ?_
    refine x_ialE (j := 93) rfl rfl (rfl) (by omega) (hM.at 93) ?_
    refine x_icmpN_ge rfl (fun c17 => ?_) (fun c17 => ?_)
    rotate_left
    · exact absurd c17 (by first | decide | omega)
    refine x_lload rfl rfl ?_
    refine x_lret rfl rfl ?_
    exact hP | succ m ih =>
    intro i hi
    have e0 : chS on s (iL l) (i + 1) = if on.testBit i = true then chS on s (iL l) i * (if s.testBit i = true then iL l else 1000000 - iL l) / 1000000 else chS on s (iL l) i := rfl
    rcases h1 : on.testBit i with _ | _
    · rw [h1, if_neg (by decide)] at e0
      have hk := ih (i + 1) (by omega)
      rw [e0] at hk
      refine x_iload rfl rfl ?_
      refine x_aload_n rfl rfl ?_
      refine x_getR (u := .ref _) rfl rfl rfl rfl ?_
      refine x_bipushN (q := 93) rfl ?_
      refine x_ialE (j := 93) rfl rfl (rfl) (by omega) (hM.at 93) ?_
      refine x_icmpN_ge rfl (fun c17 => ?_) (fun c17 => ?_)
      · exact absurd c17 (by first | decide | omega)
      refine x_iload_n rfl rfl ?_
      refine x_iload rfl rfl ?_
      refine x_callS (M' := mi157) (As := [_, _]) (bc1 := 0) (bs1 := 0) (bc2 := 0) (bs2 := 0) rfl rfl rfl rfl ok157 rfl rfl rfl rfl rfl rfl ?_
      refine m_isIn (by omega) (by omega) ?_
      rw [h1]
      refine x_if_eq rfl (fun c26 => ?_) (fun c26 => ?_)
      rotate_left
      · exact absurd c26 (by first | decide | omega)
      refine x_iincN (q := 1) (ls' := [_, _, _, _, _, _, _]) rfl rfl rfl rfl ?_
      refine x_goto rfl ?_
      exact hk
    · rw [h1, if_pos rfl] at e0
      rcases h2 : s.testBit i with _ | _
      · rw [h2, if_neg (by decide), ← iL_sub hl] at e0
        have hk := ih (i + 1) (by omega)
        rw [e0] at hk
        refine x_iload rfl rfl ?_
        refine x_aload_n rfl rfl ?_
        refine x_getR (u := .ref _) rfl rfl rfl rfl ?_
        refine x_bipushN (q := 93) rfl ?_
        refine x_ialE (j := 93) rfl rfl (rfl) (by omega) (hM.at 93) ?_
        refine x_icmpN_ge rfl (fun c17 => ?_) (fun c17 => ?_)
        · exact absurd c17 (by first | decide | omega)
        refine x_iload_n rfl rfl ?_
        refine x_iload rfl rfl ?_
        refine x_callS (M' := mi157) (As := [_, _]) (bc1 := 0) (bs1 := 0) (bc2 := 0) (bs2 := 0) rfl rfl rfl rfl ok157 rfl rfl rfl rfl rfl rfl ?_
        refine m_isIn (by omega) (by omega) ?_
        rw [h1]
        refine x_if_eq rfl (fun c26 => ?_) (fun c26 => ?_)
        · exact absurd c26 (by first | decide | omega)
        refine x_lload rfl rfl ?_
        refine x_iload_n rfl rfl ?_
        refine x_iload rfl rfl ?_
        refine x_callS (M' := mi157) (As := [_, _]) (bc1 := 0) (bs1 := 0) (bc2 := 0) (bs2 := 0) rfl rfl rfl rfl ok157 rfl rfl rfl rfl rfl rfl ?_
        refine m_isIn (by omega) (by omega) ?_
        rw [h2]
        refine x_if_eq rfl (fun c37 => ?_) (fun c37 => ?_)
        rotate_left
        · exact absurd c37 (by first | decide | omega)
        refine x_ldcN (q := 1000000) rfl ?_
        refine x_iload_n rfl rfl ?_
        refine x_isubN rfl ?_
        refine x_i2l rfl ?_
        refine x_lmul rfl ?_
        refine x_ldc2 rfl ?_
        refine x_ldiv rfl (by decide) ?_
        refine x_lstore (ls' := [_, _, _, _, _, _, _]) rfl rfl rfl ?_
        refine x_iincN (q := 1) (ls' := [_, _, _, _, _, _, _]) rfl rfl rfl rfl ?_
        refine x_goto rfl ?_
        exact hk
      · rw [h2, if_pos rfl] at e0
        have hk := ih (i + 1) (by omega)
        rw [e0] at hk
        refine x_iload rfl rfl ?_
        refine x_aload_n rfl rfl ?_
        refine x_getR (u := .ref _) rfl rfl rfl rfl ?_
        refine x_bipushN (q := 93) rfl ?_
        refine x_ialE (j := 93) rfl rfl (rfl) (by omega) (hM.at 93) ?_
        refine x_icmpN_ge rfl (fun c17 => ?_) (fun c17 => ?_)
        · exact absurd c17 (by first | decide | omega)
        refine x_iload_n rfl rfl ?_
        refine x_iload rfl rfl ?_
        refine x_callS (M' := mi157) (As := [_, _]) (bc1 := 0) (bs1 := 0) (bc2 := 0) (bs2 := 0) rfl rfl rfl rfl ok157 rfl rfl rfl rfl rfl rfl ?_
        refine m_isIn (by omega) (by omega) ?_
        rw [h1]
        refine x_if_eq rfl (fun c26 => ?_) (fun c26 => ?_)
        · exact absurd c26 (by first | decide | omega)
        refine x_lload rfl rfl ?_
        refine x_iload_n rfl rfl ?_
        refine x_iload rfl rfl ?_
        refine x_callS (M' := mi157) (As := [_, _]) (bc1 := 0) (bs1 := 0) (bc2 := 0) (bs2 := 0) rfl rfl rfl rfl ok157 rfl rfl rfl rfl rfl rfl ?_
        refine m_isIn (by omega) (by omega) ?_
        rw [h2]
        refine x_if_eq rfl (fun c37 => ?_) (fun c37 => ?_)
        · exact absurd c37 (by first | decide | omega)
        refine x_iload_n rfl rfl ?_
        refine x_goto rfl ?_
        refine x_i2l rfl ?_
        refine x_lmul rfl ?_
        refine x_ldc2 rfl ?_
        refine x_ldiv rfl (by decide) ?_
        refine x_lstore (ls' := [_, _, _, _, _, _, _]) rfl rfl rfl ?_
        refine x_iincN (q := 1) (ls' := [_, _, _, _, _, _, _]) rfl rfl rfl rfl ?_
        refine x_goto rfl ?_
        exact hk
set_option maxRecDepth 20000 in
theorem m_part {l : Nat} (hM : RK (VI 76) K) (hW : WF K) (hl : l ≤ 1000000) (ho : on < 2 ^ K 93) (hs : s < 64) (hP : P (some (.long (chS on s (iL l) 6))) (LY ++ ext) VI VL (vr G)) : Ex (d + 1) mi266 0 (entL [.ref 74, .int (nI s), .int (nI on), .int (nI l)] 7) [] (LY ++ ext) VI VL (vr G) 0 0 P := by
  have h6 := hW.n
  have hp2 := pow6 h6
  have e := chS_off (set := s) (L := iL l) ho (6 - K 93)
  rw [show K 93 + (6 - K 93) = 6 by omega] at e
  rw [e] at hP
  refine x_ldc2 rfl ?_
  refine x_lstore (ls' := [_, _, _, _, _, _, _]) rfl rfl rfl ?_
  refine x_iconstN (q := 0) rfl ?_
  refine x_istore (ls' := [_, _, _, _, _, _, _]) rfl rfl rfl ?_
  exact m_part_loop hM hW hl (by omega) hs hP (K 93) 0 (by omega)
set_option maxRecDepth 20000 in
theorem m_life_loop (hM : RK (VI 76) K) (hW : WF K) (hn : n ≤ 99) (hP : P (some (.int (nI (lifeN (K 91) n)))) (LY ++ ext) VI VL (vr G)) : ∀ (m i : Nat), i + m = n → Ex (d + 0) mi265 5 [.ref 74, .int (nI n), .int (nI (lifeN (K 91) i)), .int (nI i)] [] (LY ++ ext) VI VL (vr G) 0 0 P := by
  have h9 : K 91 ≤ 10 := hW.2.2.2.2.2.2.1
  intro m
  induction m with
  | zero =>
    intro i hi
    have e : i = n := by omega
    subst e
    refine x_iload_n rfl rfl ?_
    refine x_iload_n rfl rfl ?_
    refine x_icmpN_ge rfl (fun c7 => ?_) (fun c7 => ?_)
    rotate_left
    · exact absurd c7 (by first | decide | omega)
    refine x_iload_n rfl rfl ?_
    refine x_iret rfl rfl ?_
    exact hP | succ m ih =>
    intro i hi
    have h1 := lifeN_mul (K 91) i
    have h2 := lifeN_le (K 91) i
    refine x_iload_n rfl rfl ?_
    refine x_iload_n rfl rfl ?_
    refine x_icmpN_ge rfl (fun c7 => ?_) (fun c7 => ?_)
    · exact absurd c7 (by first | decide | omega)
    refine x_iload_n rfl rfl ?_
    refine x_bipushN (q := 10) rfl ?_
    refine x_aload_n rfl rfl ?_
    refine x_getR (u := .ref _) rfl rfl rfl rfl ?_
    refine x_bipushN (q := 91) rfl ?_
    refine x_ialE (j := 91) rfl rfl (rfl) (by omega) (hM.at 91) ?_
    refine x_isubN rfl ?_
    refine x_imulN rfl ?_
    refine x_bipushN (q := 10) rfl ?_
    refine x_idivN rfl ?_
    refine x_istore_n (ls' := [_, _, _, _]) rfl rfl rfl ?_
    refine x_iincN (q := 1) (ls' := [_, _, _, _]) rfl rfl rfl rfl ?_
    refine x_goto rfl ?_
    exact ih (i + 1) (by omega)
set_option maxRecDepth 20000 in
theorem m_life (hM : RK (VI 76) K) (hW : WF K) (hn : n ≤ 99) (hP : P (some (.int (nI (lifeN (K 91) n)))) (LY ++ ext) VI VL (vr G)) : Ex d mi265 0 (entL [.ref 74, .int (nI n)] 4) [] (LY ++ ext) VI VL (vr G) 0 0 P := by
  refine x_ldcN (q := 1000000) rfl ?_
  refine x_istore_n (ls' := [_, _, _, _]) rfl rfl rfl ?_
  refine x_iconstN (q := 0) rfl ?_
  refine x_istore_n (ls' := [_, _, _, _]) rfl rfl rfl ?_
  exact m_life_loop hM hW hn hP n 0 (by omega)
set_option maxRecDepth 20000 in
theorem x_life_loop (hX : RW 3 K VI) (hW : WF K) (hn : n ≤ 99) (hP : ∀ z : Value, Ex (d + 3) mi28 52 [.ref 70, .int (nI r), .int (nI n), .long (iL (lifeN (K 91) n)), .retAddr 8, z, .retAddr 9, .retAddr 9, .retAddr 9, .retAddr 9] [] (LY ++ ext) VI VL (vr G) 0 0 P) : ∀ (m i : Nat), i + m = n → Ex (d + 3) mi28 20 [.ref 70, .int (nI r), .int (nI n), .long (iL (lifeN (K 91) i)), .retAddr 8, .int (nI i), .retAddr 9, .retAddr 9, .retAddr 9, .retAddr 9] [] (LY ++ ext) VI VL (vr G) 0 0 P := by
  have h9 : K 91 ≤ 10 := hW.2.2.2.2.2.2.1
  intro m
  induction m with
  | zero =>
    intro i hi
    have e : i = n := by omega
    subst e
    refine x_iload rfl rfl ?_
    refine x_iload_n rfl rfl ?_
    refine x_icmpN_ge rfl (fun c23 => ?_) (fun c23 => ?_)
    rotate_left
    · exact absurd c23 (by first | decide | omega)
    exact hP _ | succ m ih =>
    intro i hi
    have h1 := lifeN_mul (K 91) i
    have h2 := lifeN_le (K 91) i
    have hk := ih (i + 1) (by omega)
    rw [show lifeN (K 91) (i + 1) = lifeN (K 91) i * (10 - K 91) / 10 from rfl, ← iL_step h1 h2 (by omega)] at hk
    refine x_iload rfl rfl ?_
    refine x_iload_n rfl rfl ?_
    refine x_icmpN_ge rfl (fun c23 => ?_) (fun c23 => ?_)
    · exact absurd c23 (by first | decide | omega)
    refine x_lload_n rfl rfl ?_
    refine x_bipushN (q := 10) rfl ?_
    refine x_aload_n rfl rfl ?_
    refine x_getR (u := .ref _) rfl rfl rfl rfl ?_
    refine x_getR (u := .ref _) rfl rfl rfl rfl ?_
    refine x_iconstN (q := 1) rfl ?_
    refine x_ialE (j := 1) rfl rfl (rfl) (by omega) (hX.t1) ?_
    refine x_isubN rfl ?_
    refine x_i2l rfl ?_
    refine x_lmul rfl ?_
    refine x_ldc2 rfl ?_
    refine x_ldiv rfl (by decide) ?_
    refine x_lstore_n (ls' := [_, _, _, _, _, _, _, _, _, _]) rfl rfl rfl ?_
    refine x_iincN (q := 1) (ls' := [_, _, _, _, _, _, _, _, _, _]) rfl rfl rfl rfl ?_
    refine x_goto rfl ?_
    exact hk
set_option maxRecDepth 20000 in
theorem ag_sub {f : Nat → Nat} {n s : Nat} (hf : ∀ p, p < n → f p < 4) : agI (agr 100 (dg n (rowN f n)) s.testBit n) = -1 ↔ agr 4 f s.testBit n = none := by
  rw [agr_congr (mk' := f) (fun p hp => dg_row hf p hp), agr_z hf, agI_none]
  · simp
  · intro c hc
    rw [← agr_z hf] at hc
    exact agr_lt (by omega) hf hc
set_option maxRecDepth 20000 in
theorem ag_sub6 {f : Nat → Nat} {n s : Nat} (hn : n ≤ 6) (hs : s < 2 ^ n) (hf : ∀ p, p < n → f p < 4) : agI (agr 4 (dg 6 (rowN f n * 4 ^ (6 - n))) s.testBit 6) = -1 ↔ agr 4 f s.testBit n = none := by
  have e := agr_off (z := 4) (mk := dg 6 (rowN f n * 4 ^ (6 - n))) (on := s.testBit) (n := n) (6 - n) (fun p hp => tb_off hs hp)
  rw [show n + (6 - n) = 6 by omega] at e
  rw [e, agr_congr (mk' := f) (fun p hp => (dg6 hn hp).trans (dg_row hf p hp)), agI_none]
  intro c hc
  exact agr_lt (by omega) hf hc
set_option maxRecDepth 20000 in
theorem neg_iand {a b : Nat} : nI a &&& (nI b ^^^ (-1)) = nI (a &&& (b ^^^ 4294967295)) := by
  rw [show (-1 : Int32) = nI 4294967295 from rfl, nb_xor, nb_and]
set_option maxRecDepth 20000 in
theorem chA_yes {f : Nat → Nat} {i : Nat} (h1 : i &&& (on ^^^ 4294967295) = 0) (h2 : ¬ agr 4 f i.testBit n = none) : chA f n on L (i + 1) = chA f n on L i + chS on i L 6 := if_pos ⟨h1, by cases h : agr 4 f i.testBit n with | none => exact absurd h h2 | some c => rfl⟩
set_option maxRecDepth 20000 in
theorem chA_no {f : Nat → Nat} {i : Nat} (h : ¬ i &&& (on ^^^ 4294967295) = 0 ∨ agr 4 f i.testBit n = none) : chA f n on L (i + 1) = chA f n on L i := if_neg (fun z => by
  rcases h with h | h
  · exact h z.1
  · rw [h] at z; exact absurd z.2 (by decide))
set_option maxRecDepth 20000 in
theorem x_chA_loop {f : Nat → Nat} (hX : RW 3 K VI) (hW : WF K) (ho : on < 2 ^ K 93) (hf : ∀ p, p < K 93 → f p < 4) (hP : P (some (.int ((chA f (K 93) on L 64).toInt32))) (LY ++ ext) VI VL (vr G)) : ∀ (m i : Nat), i + m = 64 → Ex (d + 3) mi28 95 [.ref 70, .int (nI r), .int (nI n), .long L, .retAddr 8, .int (nI on), .int (nI (rowN f (K 93))), .long (chA f (K 93) on L i), .retAddr 8, .int (nI i)] [] (LY ++ ext) VI VL (vr G) 0 0 P := by
  have h6 := hW.n
  have hp2 := pow6 h6
  have hr := rowN_4096 h6 hf
  intro m
  induction m with
  | zero =>
    intro i hi
    have e : i = 64 := by omega
    subst e
    refine x_iload rfl rfl ?_
    refine x_bipushN (q := 64) rfl ?_
    refine x_icmpN_ge rfl (fun c99 => ?_) (fun c99 => ?_)
    rotate_left
    · exact absurd c99 (by first | decide | omega)
    refine x_lload rfl rfl ?_
    refine x_l2i rfl ?_
    refine x_iret rfl rfl ?_
    exact hP | succ m ih =>
    intro i hi
    have hk := ih (i + 1) (by omega)
    have hb := (sub_bits i (by omega) on (by omega)).1
    by_cases h1 : i &&& (on ^^^ 4294967295) = 0
    · by_cases h2 : agr 4 f i.testBit (K 93) = none
      · rw [chA_no (Or.inr h2)] at hk
        refine x_iload rfl rfl ?_
        refine x_bipushN (q := 64) rfl ?_
        refine x_icmpN_ge rfl (fun c99 => ?_) (fun c99 => ?_)
        · exact absurd c99 (by first | decide | omega)
        refine x_iload rfl rfl ?_
        refine x_iload rfl rfl ?_
        refine x_iconst rfl ?_
        refine x_ixor rfl ?_
        refine x_iand rfl ?_
        rw [neg_iand]
        refine x_ifN_ne rfl (fun c109 => ?_) (fun c109 => ?_)
        · exact absurd c109 (by first | decide | omega)
        refine x_aload_n rfl rfl ?_
        refine x_getR (u := .ref _) rfl rfl rfl rfl ?_
        refine x_iload rfl rfl ?_
        refine x_iload rfl rfl ?_
        refine x_callV (M' := mi106) (As := [_, _]) (bc1 := 0) (bs1 := 0) (bc2 := 0) (bs2 := 0) rfl rfl rfl rfl ok106 rfl rfl (by decide) rfl rfl rfl rfl rfl rfl ?_
        refine s_accordInRow hX.n h6 hr (by omega) ?_
        refine x_iconst rfl ?_
        refine x_icmp_eq rfl (fun c124 => ?_) (fun c124 => ?_)
        rotate_left
        · exact absurd ((ag_sub hf).mpr h2) c124
        refine x_iincN (q := 1) (ls' := [_, _, _, _, _, _, _, _, _, _]) rfl rfl rfl rfl ?_
        refine x_goto rfl ?_
        exact hk
      · rw [chA_yes h1 h2] at hk
        refine x_iload rfl rfl ?_
        refine x_bipushN (q := 64) rfl ?_
        refine x_icmpN_ge rfl (fun c99 => ?_) (fun c99 => ?_)
        · exact absurd c99 (by first | decide | omega)
        refine x_iload rfl rfl ?_
        refine x_iload rfl rfl ?_
        refine x_iconst rfl ?_
        refine x_ixor rfl ?_
        refine x_iand rfl ?_
        rw [neg_iand]
        refine x_ifN_ne rfl (fun c109 => ?_) (fun c109 => ?_)
        · exact absurd c109 (by first | decide | omega)
        refine x_aload_n rfl rfl ?_
        refine x_getR (u := .ref _) rfl rfl rfl rfl ?_
        refine x_iload rfl rfl ?_
        refine x_iload rfl rfl ?_
        refine x_callV (M' := mi106) (As := [_, _]) (bc1 := 0) (bs1 := 0) (bc2 := 0) (bs2 := 0) rfl rfl rfl rfl ok106 rfl rfl (by decide) rfl rfl rfl rfl rfl rfl ?_
        refine s_accordInRow hX.n h6 hr (by omega) ?_
        refine x_iconst rfl ?_
        refine x_icmp_eq rfl (fun c124 => ?_) (fun c124 => ?_)
        · exact absurd ((ag_sub hf).mp c124) h2
        refine x_lload rfl rfl ?_
        refine x_iload rfl rfl ?_
        refine x_iload rfl rfl ?_
        refine x_lload_n rfl rfl ?_
        refine x_callS (M' := mi29) (As := [_, _, _]) (bc1 := 0) (bs1 := 0) (bc2 := 0) (bs2 := 0) rfl rfl rfl rfl ok29 rfl rfl rfl rfl rfl rfl ?_
        refine x_chS (by omega) (by omega) ?_
        refine x_ladd rfl ?_
        refine x_lstore (ls' := [_, _, _, _, _, _, _, _, _, _]) rfl rfl rfl ?_
        refine x_iincN (q := 1) (ls' := [_, _, _, _, _, _, _, _, _, _]) rfl rfl rfl rfl ?_
        refine x_goto rfl ?_
        exact hk
    · rw [chA_no (Or.inl h1)] at hk
      refine x_iload rfl rfl ?_
      refine x_bipushN (q := 64) rfl ?_
      refine x_icmpN_ge rfl (fun c99 => ?_) (fun c99 => ?_)
      · exact absurd c99 (by first | decide | omega)
      refine x_iload rfl rfl ?_
      refine x_iload rfl rfl ?_
      refine x_iconst rfl ?_
      refine x_ixor rfl ?_
      refine x_iand rfl ?_
      rw [neg_iand]
      refine x_ifN_ne rfl (fun c109 => ?_) (fun c109 => ?_)
      rotate_left
      · exact absurd c109 (by first | decide | omega)
      refine x_iincN (q := 1) (ls' := [_, _, _, _, _, _, _, _, _, _]) rfl rfl rfl rfl ?_
      refine x_goto rfl ?_
      exact hk
set_option maxRecDepth 20000 in
theorem m_chA_loop {f : Nat → Nat} {l : Nat} (hM : RK (VI 76) K) (hW : WF K) (hl : l ≤ 1000000) (ho : on < 2 ^ K 93) (hf : ∀ p, p < K 93 → f p < 4) (hP : P (some (.int ((chA f (K 93) on (iL l) 64).toInt32))) (LY ++ ext) VI VL (vr G)) : ∀ (m i : Nat), i + m = on + 1 → Ex (d + 3) mi267 54 [.ref 74, .int (nI r), .int (nI n), .int (nI l), .int (nI on), .int (nI (rowN f (K 93) * 4 ^ (6 - K 93))), .long (chA f (K 93) on (iL l) i), .retAddr 8, .int (nI i)] [] (LY ++ ext) VI VL (vr G) 0 0 P := by
  have h6 := hW.n
  have hp2 := pow6 h6
  have hr := row6_lt h6 hf
  have eo := chA_off (f := f) (n := K 93) (on := on) (L := iL l) (by omega) (63 - on) (by omega)
  rw [show on + 1 + (63 - on) = 64 by omega] at eo
  rw [eo] at hP
  intro m
  induction m with
  | zero =>
    intro i hi
    have e : i = on + 1 := by omega
    subst e
    refine x_iload rfl rfl ?_
    refine x_iload rfl rfl ?_
    refine x_icmpN_gt rfl (fun c58 => ?_) (fun c58 => ?_)
    rotate_left
    · exact absurd c58 (by first | decide | omega)
    refine x_lload rfl rfl ?_
    refine x_l2i rfl ?_
    refine x_iret rfl rfl ?_
    exact hP | succ m ih =>
    intro i hi
    have hk := ih (i + 1) (by omega)
    have hb := (sub_bits i (by omega) on (by omega)).1
    by_cases h1 : i &&& (on ^^^ 4294967295) = 0
    · by_cases h2 : agr 4 f i.testBit (K 93) = none
      · rw [chA_no (Or.inr h2)] at hk
        refine x_iload rfl rfl ?_
        refine x_iload rfl rfl ?_
        refine x_icmpN_gt rfl (fun c58 => ?_) (fun c58 => ?_)
        · exact absurd c58 (by first | decide | omega)
        refine x_iload rfl rfl ?_
        refine x_iload rfl rfl ?_
        refine x_iconst rfl ?_
        refine x_ixor rfl ?_
        refine x_iand rfl ?_
        rw [neg_iand]
        refine x_ifN_ne rfl (fun c68 => ?_) (fun c68 => ?_)
        · exact absurd c68 (by first | decide | omega)
        refine x_iload rfl rfl ?_
        refine x_iload rfl rfl ?_
        refine x_callS (M' := mi177) (As := [_, _]) (bc1 := 0) (bs1 := 0) (bc2 := 0) (bs2 := 0) rfl rfl rfl rfl ok177 rfl rfl rfl rfl rfl rfl ?_
        refine m_oneMark hr (by omega) ?_
        refine x_iconst rfl ?_
        refine x_icmp_eq rfl (fun c79 => ?_) (fun c79 => ?_)
        rotate_left
        · exact absurd ((ag_sub6 h6 (by omega) hf).mpr h2) c79
        refine x_iincN (q := 1) (ls' := [_, _, _, _, _, _, _, _, _]) rfl rfl rfl rfl ?_
        refine x_goto rfl ?_
        exact hk
      · rw [chA_yes h1 h2] at hk
        refine x_iload rfl rfl ?_
        refine x_iload rfl rfl ?_
        refine x_icmpN_gt rfl (fun c58 => ?_) (fun c58 => ?_)
        · exact absurd c58 (by first | decide | omega)
        refine x_iload rfl rfl ?_
        refine x_iload rfl rfl ?_
        refine x_iconst rfl ?_
        refine x_ixor rfl ?_
        refine x_iand rfl ?_
        rw [neg_iand]
        refine x_ifN_ne rfl (fun c68 => ?_) (fun c68 => ?_)
        · exact absurd c68 (by first | decide | omega)
        refine x_iload rfl rfl ?_
        refine x_iload rfl rfl ?_
        refine x_callS (M' := mi177) (As := [_, _]) (bc1 := 0) (bs1 := 0) (bc2 := 0) (bs2 := 0) rfl rfl rfl rfl ok177 rfl rfl rfl rfl rfl rfl ?_
        refine m_oneMark hr (by omega) ?_
        refine x_iconst rfl ?_
        refine x_icmp_eq rfl (fun c79 => ?_) (fun c79 => ?_)
        · exact absurd ((ag_sub6 h6 (by omega) hf).mp c79) h2
        refine x_lload rfl rfl ?_
        refine x_aload_n rfl rfl ?_
        refine x_iload rfl rfl ?_
        refine x_iload rfl rfl ?_
        refine x_iload_n rfl rfl ?_
        refine x_callV (M' := mi266) (As := [_, _, _]) (bc1 := 0) (bs1 := 0) (bc2 := 0) (bs2 := 0) rfl rfl rfl rfl ok266 rfl rfl (by decide) rfl rfl rfl rfl rfl rfl ?_
        refine m_part hM hW hl ho (by omega) ?_
        refine x_ladd rfl ?_
        refine x_lstore (ls' := [_, _, _, _, _, _, _, _, _]) rfl rfl rfl ?_
        refine x_iincN (q := 1) (ls' := [_, _, _, _, _, _, _, _, _]) rfl rfl rfl rfl ?_
        refine x_goto rfl ?_
        exact hk
    · rw [chA_no (Or.inl h1)] at hk
      refine x_iload rfl rfl ?_
      refine x_iload rfl rfl ?_
      refine x_icmpN_gt rfl (fun c58 => ?_) (fun c58 => ?_)
      · exact absurd c58 (by first | decide | omega)
      refine x_iload rfl rfl ?_
      refine x_iload rfl rfl ?_
      refine x_iconst rfl ?_
      refine x_ixor rfl ?_
      refine x_iand rfl ?_
      rw [neg_iand]
      refine x_ifN_ne rfl (fun c68 => ?_) (fun c68 => ?_)
      rotate_left
      · exact absurd c68 (by first | decide | omega)
      refine x_iincN (q := 1) (ls' := [_, _, _, _, _, _, _, _, _]) rfl rfl rfl rfl ?_
      refine x_goto rfl ?_
      exact hk
def chK (K : KT) (r n : Nat) : Int32 := (chA (fun p => K (4 * p + K (51 + r))) (K 93) (K (59 + r) &&& lmK K) (iL (lifeN (K 91) n)) 64).toInt32
set_option maxRecDepth 20000 in
theorem x_chanceOf (hX : RW 3 K VI) (hW : WF K) (hr : r < K 94) (hn : n ≤ 99) (hP : P (some (.int (chK K r n))) (LY ++ ext) VI VL (vr G)) : Ex (d + 3) mi28 0 (entL [.ref 70, .int (nI r), .int (nI n)] 10) [] (LY ++ ext) VI VL (vr G) 0 0 P := by
  have h6 := hW.n
  have h8 : K 94 ≤ 8 := hW.2.1
  have hro := hW.roll hr
  have hm : ∀ p, p < K 93 → K (4 * p + K (51 + r)) < 4 := fun p hp => hW.mark hp hro.2.1
  refine x_aload_n rfl rfl ?_
  refine x_getR (u := .ref _) rfl rfl rfl rfl ?_
  refine x_iload_n rfl rfl ?_
  refine x_callV (M' := mi96) (As := [_]) (bc1 := 0) (bs1 := 0) (bc2 := 0) (bs2 := 0) rfl rfl rfl rfl ok96 rfl rfl (by decide) rfl rfl rfl rfl rfl rfl ?_
  refine s_hasRollK hX ?_
  rw [hasF_in hr (by omega)]
  refine x_if_ne rfl (fun c8 => ?_) (fun c8 => ?_)
  rotate_left
  · exact absurd c8 (by first | decide | omega)
  refine x_ldc2 rfl ?_
  refine x_lstore_n (ls' := [_, _, _, _, _, _, _, _, _, _]) rfl rfl rfl ?_
  refine x_iconstN (q := 0) rfl ?_
  refine x_istore (ls' := [_, _, _, _, _, _, _, _, _, _]) rfl rfl rfl ?_
  skip
  refine x_life_loop hX hW hn (fun z => ?_) n 0 (by omega)
  refine x_aload_n rfl rfl ?_
  refine x_getR (u := .ref _) rfl rfl rfl rfl ?_
  refine x_getR (u := .ref _) rfl rfl rfl rfl ?_
  refine x_iload_n rfl rfl ?_
  refine x_ialE (j := r) rfl rfl (rfl) (by omega) (hX.ron hr) ?_
  refine x_aload_n rfl rfl ?_
  refine x_getR (u := .ref _) rfl rfl rfl rfl ?_
  refine x_getE (y := 1) rfl rfl rfl (hX.lm) ?_
  refine x_iandN rfl ?_
  refine x_istore (ls' := [_, _, _, _, _, _, _, _, _, _]) rfl rfl rfl ?_
  refine x_aload_n rfl rfl ?_
  refine x_getR (u := .ref _) rfl rfl rfl rfl ?_
  refine x_aload_n rfl rfl ?_
  refine x_getR (u := .ref _) rfl rfl rfl rfl ?_
  refine x_getR (u := .ref _) rfl rfl rfl rfl ?_
  refine x_iload_n rfl rfl ?_
  refine x_ialE (j := r) rfl rfl (rfl) (by omega) (hX.rday hr) ?_
  refine x_callV (M' := mi105) (As := [_]) (bc1 := 0) (bs1 := 0) (bc2 := 0) (bs2 := 0) rfl rfl rfl rfl ok105 rfl rfl (by decide) rfl rfl rfl rfl rfl rfl ?_
  refine s_rowOf hX.n h6 hro.2.1 (fun p hp => ⟨hX.mark hp hro.2.1, hm p hp⟩) ?_
  refine x_istore (ls' := [_, _, _, _, _, _, _, _, _, _]) rfl rfl rfl ?_
  refine x_lconst rfl ?_
  refine x_lstore (ls' := [_, _, _, _, _, _, _, _, _, _]) rfl rfl rfl ?_
  refine x_iconstN (q := 0) rfl ?_
  refine x_istore (ls' := [_, _, _, _, _, _, _, _, _, _]) rfl rfl rfl ?_
  exact x_chA_loop hX hW (and_lt2 hW hr) hm hP 64 0 rfl
set_option maxRecDepth 20000 in
theorem x_chance (hX : RW 3 K VI) (hW : WF K) (hr : r < K 94) (hn : n ≤ 99) (hP : P (some (.int (chK K r n))) (LY ++ ext) VI VL (vr G)) : Ex (d + 4) mi138 0 (entL [.ref 0, .int (nI r), .int (nI n)] 3) [] (LY ++ ext) VI VL (vr G) 0 0 P := by
  have h8 : K 94 ≤ 8 := hW.2.1
  refine x_aload_n rfl rfl ?_
  refine x_getR (u := .ref _) rfl rfl rfl rfl ?_
  refine x_iload_n rfl rfl ?_
  refine x_callV (M' := mi96) (As := [_]) (bc1 := 0) (bs1 := 0) (bc2 := 0) (bs2 := 0) rfl rfl rfl rfl ok96 rfl rfl (by decide) rfl rfl rfl rfl rfl rfl ?_
  refine s_hasRollK hX ?_
  rw [hasF_in hr (by omega)]
  refine x_if_eq rfl (fun c8 => ?_) (fun c8 => ?_)
  · exact absurd c8 (by first | decide | omega)
  refine x_iload_n rfl rfl ?_
  refine x_ifN_lt rfl ?_
  refine x_iload_n rfl rfl ?_
  refine x_bipushN (q := 99) rfl ?_
  refine x_icmpN_gt rfl (fun c18 => ?_) (fun c18 => ?_)
  · exact absurd c18 (by first | decide | omega)
  refine x_aload_n rfl rfl ?_
  refine x_getR (u := .ref _) rfl rfl rfl rfl ?_
  refine x_iload_n rfl rfl ?_
  refine x_iload_n rfl rfl ?_
  refine x_callV (M' := mi28) (As := [_, _]) (bc1 := 0) (bs1 := 0) (bc2 := 0) (bs2 := 0) rfl rfl rfl rfl ok28 rfl rfl (by decide) rfl rfl rfl rfl rfl rfl ?_
  refine x_chanceOf hX hW hr hn ?_
  refine x_goto rfl ?_
  refine x_iret rfl rfl ?_
  exact hP
set_option maxRecDepth 20000 in
theorem x_chance_d {a b : Int32} (hX : RW 3 K VI) (hW : WF K) (h : hasF (nI (K 94)) a = 0 ∨ liesF b 0 99 = false) (hP : P (some (.int (-1))) (LY ++ ext) VI VL (vr G)) : Ex (d + 4) mi138 0 (entL [.ref 0, .int a, .int b] 3) [] (LY ++ ext) VI VL (vr G) 0 0 P := by
  refine x_aload_n rfl rfl ?_
  refine x_getR (u := .ref _) rfl rfl rfl rfl ?_
  refine x_iload_n rfl rfl ?_
  refine x_callV (M' := mi96) (As := [_]) (bc1 := 0) (bs1 := 0) (bc2 := 0) (bs2 := 0) rfl rfl rfl rfl ok96 rfl rfl (by decide) rfl rfl rfl rfl rfl rfl ?_
  refine s_hasRollK hX ?_
  refine x_if_eq rfl (fun c8 => ?_) (fun c8 => ?_)
  · refine x_iconst rfl ?_
    refine x_iret rfl rfl ?_
    exact hP
  · refine x_iload_n rfl rfl ?_
    refine x_if_lt rfl (fun c12 => ?_) (fun c12 => ?_)
    · refine x_iconst rfl ?_
      refine x_iret rfl rfl ?_
      exact hP
    · refine x_iload_n rfl rfl ?_
      refine x_bipush rfl ?_
      refine x_icmp_gt rfl (fun c18 => ?_) (fun c18 => ?_)
      · refine x_iconst rfl ?_
        refine x_iret rfl rfl ?_
        exact hP
      · (refine absurd h (fun z => ?_); rcases z with z | z <;> simp_all [liesF])
set_option maxRecDepth 20000 in
theorem m_chance (hM : RK (VI 76) K) (hW : WF K) (hr : r < K 94) (hn : n ≤ 99) (hP : P (some (.int (chK K r n))) (LY ++ ext) VI VL (vr G)) : Ex (d + 3) mi267 0 (entL [.ref 74, .int (nI r), .int (nI n)] 9) [] (LY ++ ext) VI VL (vr G) 0 0 P := by
  have h6 := hW.n
  have h8 : K 94 ≤ 8 := hW.2.1
  have hro := hW.roll hr
  have hm : ∀ p, p < K 93 → K (4 * p + K (51 + r)) < 4 := fun p hp => hW.mark hp hro.2.1
  have hl : liesF (nI n) 0 99 = true := by
    simp only [liesF, decide_eq_true_eq]
    exact ⟨nI_pos (by omega), fun h => absurd ((nI_ltI (a := 99) (by omega) (by omega)).mp h) (by omega)⟩
  refine x_aload_n rfl rfl ?_
  refine x_iload_n rfl rfl ?_
  refine x_callV (M' := mi165) (As := [_]) (bc1 := 0) (bs1 := 0) (bc2 := 0) (bs2 := 0) rfl rfl rfl rfl ok165 rfl rfl (by decide) rfl rfl rfl rfl rfl rfl ?_
  refine m_isRollK hM hW ?_
  rw [hasF_in hr (by omega)]
  refine x_if_eq rfl (fun c5 => ?_) (fun c5 => ?_)
  · exact absurd c5 (by first | decide | omega)
  refine x_iload_n rfl rfl ?_
  refine x_iconst rfl ?_
  refine x_bipush rfl ?_
  refine x_callS (M' := mi152) (As := [_, _, _]) (bc1 := 0) (bs1 := 0) (bc2 := 0) (bs2 := 0) rfl rfl rfl rfl ok152 rfl rfl rfl rfl rfl rfl ?_
  refine m_lies ?_
  rw [hl]
  refine x_if_ne rfl (fun c15 => ?_) (fun c15 => ?_)
  rotate_left
  · exact absurd c15 (by first | decide | omega)
  refine x_aload_n rfl rfl ?_
  refine x_iload_n rfl rfl ?_
  refine x_callV (M' := mi265) (As := [_]) (bc1 := 0) (bs1 := 0) (bc2 := 0) (bs2 := 0) rfl rfl rfl rfl ok265 rfl rfl (by decide) rfl rfl rfl rfl rfl rfl ?_
  refine m_life hM hW hn ?_
  refine x_istore_n (ls' := [_, _, _, _, _, _, _, _, _]) rfl rfl rfl ?_
  refine x_aload_n rfl rfl ?_
  refine x_iload_n rfl rfl ?_
  refine x_callV (M' := mi176) (As := [_]) (bc1 := 0) (bs1 := 0) (bc2 := 0) (bs2 := 0) rfl rfl rfl rfl ok176 rfl rfl (by decide) rfl rfl rfl rfl rfl rfl ?_
  refine m_livingOn hM hW (by omega) ?_
  refine x_istore (ls' := [_, _, _, _, _, _, _, _, _]) rfl rfl rfl ?_
  refine x_aload_n rfl rfl ?_
  refine x_aload_n rfl rfl ?_
  refine x_getR (u := .ref _) rfl rfl rfl rfl ?_
  refine x_bipushN (q := 51) rfl ?_
  refine x_iload_n rfl rfl ?_
  refine x_iaddN rfl ?_
  refine x_ialE (j := 51 + r) rfl rfl (rfl) (by omega) (hM.at (51 + r)) ?_
  refine x_callV (M' := mi181) (As := [_]) (bc1 := 0) (bs1 := 0) (bc2 := 0) (bs2 := 0) rfl rfl rfl rfl ok181 rfl rfl (by decide) rfl rfl rfl rfl rfl rfl ?_
  refine m_rowNowK hM hW hro.2.1 ?_
  refine x_istore (ls' := [_, _, _, _, _, _, _, _, _]) rfl rfl rfl ?_
  refine x_lconst rfl ?_
  refine x_lstore (ls' := [_, _, _, _, _, _, _, _, _]) rfl rfl rfl ?_
  refine x_iconstN (q := 0) rfl ?_
  refine x_istore (ls' := [_, _, _, _, _, _, _, _, _]) rfl rfl rfl ?_
  exact m_chA_loop hM hW (lifeN_le _ _) (and_lt2 hW hr) hm hP ((K (59 + r) &&& lmK K) + 1) 0 (by omega)
set_option maxRecDepth 20000 in
theorem m_chance_d {a b : Int32} (hM : RK (VI 76) K) (hW : WF K) (h : hasF (nI (K 94)) a = 0 ∨ liesF b 0 99 = false) (hP : P (some (.int (-1))) (LY ++ ext) VI VL (vr G)) : Ex (d + 3) mi267 0 (entL [.ref 74, .int a, .int b] 9) [] (LY ++ ext) VI VL (vr G) 0 0 P := by
  refine x_aload_n rfl rfl ?_
  refine x_iload_n rfl rfl ?_
  refine x_callV (M' := mi165) (As := [_]) (bc1 := 0) (bs1 := 0) (bc2 := 0) (bs2 := 0) rfl rfl rfl rfl ok165 rfl rfl (by decide) rfl rfl rfl rfl rfl rfl ?_
  refine m_isRollK hM hW ?_
  refine x_if_eq rfl (fun c5 => ?_) (fun c5 => ?_)
  · refine x_iconst rfl ?_
    refine x_iret rfl rfl ?_
    exact hP
  · refine x_iload_n rfl rfl ?_
    refine x_iconst rfl ?_
    refine x_bipush rfl ?_
    refine x_callS (M' := mi152) (As := [_, _, _]) (bc1 := 0) (bs1 := 0) (bc2 := 0) (bs2 := 0) rfl rfl rfl rfl ok152 rfl rfl rfl rfl rfl rfl ?_
    refine m_lies ?_
    refine x_if_ne rfl (fun c15 => ?_) (fun c15 => ?_)
    · (refine absurd h (fun z => ?_); rcases z with z | z; exact c5 z; rw [z] at c15; exact absurd c15 (by decide))
    · refine x_iconst rfl ?_
      refine x_iret rfl rfl ?_
      exact hP
end Chance
section Join10
variable {j : Nat} {lay : HL} {VI : VIT} {VL : VLT} {VR : VRT}
set_option maxRecDepth 20000 in
theorem j_chance {a b : Int32} (h : Inv j lay VI VL VR) : Pr 100 mi138 mi267 [.int a, .int b] lay VI VL VR (Inv (j + 1)) := by
  obtain ⟨ext, G, K, tn, T, u, US, lg, rfl, rfl, hS⟩ := h
  have hI := hS.next.inv (VL := VL)
  obtain ⟨hW, hX, hM, -⟩ := hS
  have h8 : K 94 ≤ 8 := hW.2.1
  rcases has_cases (n := K 94) (by omega) a with h | ⟨i, hi, rfl⟩
  · exact Pr_read (-1) (fun P q => x_chance_d hX hW (Or.inl h) q) (fun P q => m_chance_d hM hW (Or.inl h) q) hI
  · cases hb : liesF b 0 99 with
    | false => exact Pr_read (-1) (fun P q => x_chance_d hX hW (Or.inr hb) q) (fun P q => m_chance_d hM hW (Or.inr hb) q) hI
    | true =>
      simp only [liesF, decide_eq_true_eq] at hb
      obtain ⟨n, q1, rfl⟩ := nI_of2 (M := 99) (n := 99) rfl hb.1 (Int32.not_lt.mp hb.2)
      exact Pr_read (chK K i n) (fun P q => x_chance hX hW hi q1 q) (fun P q => m_chance hM hW hi q1 q) hI
end Join10
