/-! ===== years ===== -/
def dr (sd : Nat) : Nat := (sd * 1103 + 12345) % 1000003
set_option maxRecDepth 20000 in
theorem dr_lt {sd : Nat} : dr sd < 1000003 := Nat.mod_lt _ (by omega)
set_option maxRecDepth 20000 in
theorem dr_v {v : Int64} {x : Nat} (h : v.toInt = x) (hx : x ≤ 2000000000) : (v - v / 1000003 * 1000003).toInt32 = nI (x % 1000003) := by
  have w : (1000003 : Int64).toInt = 1000003 := rfl
  have e1 : (v / 1000003).toInt = ((x / 1000003 : Nat) : Int) := by
    rw [Int64.toInt_div, h, w, show (x : Int).tdiv 1000003 = ((x / 1000003 : Nat) : Int) from rfl, Int.bmod_eq_of_le (by omega) (by omega)]
  have e2 : (v / 1000003 * 1000003).toInt = ((x / 1000003 * 1000003 : Nat) : Int) := by
    rw [Int64.toInt_mul, e1, w, Int.bmod_eq_of_le (by omega) (by omega)]
    omega
  have e3 : (v - v / 1000003 * 1000003).toInt = ((x % 1000003 : Nat) : Int) := by
    rw [Int64.toInt_sub, h, e2, Int.bmod_eq_of_le (by omega) (by omega)]
    omega
  rw [l2i_oI, e3, ← oI_nat]
set_option maxRecDepth 20000 in
theorem dr_x {sd : Nat} (h : sd ≤ 1000003) : ((nI sd).toInt64 * 1103 + 12345).toInt = ((sd * 1103 + 12345 : Nat) : Int) := by
  have a : ((nI sd).toInt64).toInt = (sd : Int) := by rw [Int32.toInt_toInt64, nI_toInt (by omega)]
  have b : ((nI sd).toInt64 * 1103).toInt = (sd : Int) * 1103 := by
    rw [Int64.toInt_mul, a, show (1103 : Int64).toInt = 1103 from rfl, Int.bmod_eq_of_le (by omega) (by omega)]
  rw [Int64.toInt_add, b, show (12345 : Int64).toInt = 12345 from rfl, Int.bmod_eq_of_le (by omega) (by omega)]
  omega
set_option maxRecDepth 20000 in
theorem dr_m {sd : Nat} (h : sd ≤ 1000003) : (1103 * (nI sd).toInt64 + 12345).toInt = ((sd * 1103 + 12345 : Nat) : Int) := by
  rw [Int64.mul_comm]
  exact dr_x h
def yrT (Y : KT) (p q dy : Nat) : KT × Nat := if p ≠ q ∧ Y (24 + p) = 1 ∧ Y (24 + q) = 1 then (outK Y p q dy (Y (4 * p + dy)) (Y (4 * q + dy)) (Y 38)).elim (Y, 0) (fun c => (tkK Y p q dy c, chgN (Y (4 * p + dy) * 4 + Y (4 * q + dy)) c)) else (Y, 0)
abbrev YrS : Type := Nat × KT × Nat
def yrN (n : Nat) (s : YrS) : YrS := (dr (dr (dr s.1)), ku (yrT s.2.1 (dr (dr s.1) % n) (dr (dr (dr s.1)) % n) (dr s.1 % 4)).1 38 (s.2.1 38 + 1), s.2.2 + (yrT s.2.1 (dr (dr s.1) % n) (dr (dr (dr s.1)) % n) (dr s.1 % 4)).2)
def yrL (n : Nat) : Nat → YrS → YrS
  | 0, s => s
  | m + 1, s => if s.2.1 38 < 999 then yrL n m (yrN n s) else s
/-- a row that differs from K by marks and week alone -/
def YOK (K Y : KT) : Prop := WF Y ∧ ∀ i, 24 ≤ i → i ≠ 38 → Y i = K i
set_option maxRecDepth 20000 in
theorem YOK.n {K Y : KT} (h : YOK K Y) : Y 93 = K 93 := h.2 93 (by omega) (by omega)
set_option maxRecDepth 20000 in
theorem yrT_ok {K Y : KT} (h : YOK K Y) {p q dy : Nat} (hp : p < K 93) (hq : q < K 93) (hd : dy < 4) : YOK K (yrT Y p q dy).1 ∧ (yrT Y p q dy).1 38 = Y 38 ∧ (yrT Y p q dy).2 ≤ 2 := by
  have e := h.n
  unfold yrT
  split
  · cases ho : outK Y p q dy (Y (4 * p + dy)) (Y (4 * q + dy)) (Y 38) with
    | none => exact ⟨h, rfl, Nat.zero_le _⟩
    | some c =>
      have hc := outK_lt (h.1.mark (p := p) (by omega) hd) (h.1.mark (p := q) (by omega) hd) ho
      refine ⟨⟨tkK_WF h.1 (by omega) (by omega) hd hc, fun i q1 q2 => ?_⟩, ?_, chgN_le⟩
      · show tkK Y p q dy c i = K i
        rw [tkK_ge h.1 (by omega) (by omega) hd i q1]; exact h.2 i q1 q2
      · exact tkK_ge h.1 (by omega) (by omega) hd 38 (by omega)
  · exact ⟨h, rfl, Nat.zero_le _⟩
set_option maxRecDepth 20000 in
theorem yrN_ok {K : KT} {s : YrS} (h : YOK K s.2.1) (h0 : 0 < K 93) (hw : s.2.1 38 < 999) : YOK K (yrN (K 93) s).2.1 ∧ (yrN (K 93) s).2.1 38 = s.2.1 38 + 1 ∧ (yrN (K 93) s).2.2 ≤ s.2.2 + 2 := by
  obtain ⟨a, b, c⟩ := yrT_ok h (p := dr (dr s.1) % K 93) (q := dr (dr (dr s.1)) % K 93) (dy := dr s.1 % 4) (Nat.mod_lt _ h0) (Nat.mod_lt _ h0) (Nat.mod_lt _ (by omega))
  have eN : (yrN (K 93) s).2.1 = ku (yrT s.2.1 (dr (dr s.1) % K 93) (dr (dr (dr s.1)) % K 93) (dr s.1 % 4)).1 38 (s.2.1 38 + 1) := rfl
  have eC : (yrN (K 93) s).2.2 = s.2.2 + (yrT s.2.1 (dr (dr s.1) % K 93) (dr (dr (dr s.1)) % K 93) (dr s.1 % 4)).2 := rfl
  rw [eN, eC]
  refine ⟨⟨?_, fun i q1 q2 => ?_⟩, ku_same, by omega⟩
  · exact a.1.keep (fun i _ h2 _ _ => ku_ne h2) (by rw [ku_same]; omega) (by rw [ku_ne (by omega)]; exact a.1.2.2.2.2.2.2.1) (by rw [ku_ne (by omega)]; exact a.1.2.2.2.2.2.2.2.1)
  · rw [ku_ne q2]; exact a.2 i q1 q2
set_option maxRecDepth 20000 in
theorem yrL_le {K : KT} (h0 : 0 < K 93) : ∀ (m : Nat) (s : YrS), YOK K s.2.1 → YOK K (yrL (K 93) m s).2.1 ∧ (yrL (K 93) m s).2.2 ≤ s.2.2 + 2 * m
  | 0, s, h => ⟨h, by show s.2.2 ≤ _; omega⟩
  | m + 1, s, h => by
    unfold yrL
    split
    · rename_i hw
      obtain ⟨a, b, c⟩ := yrN_ok h h0 hw
      obtain ⟨d, e⟩ := yrL_le h0 m _ a
      exact ⟨d, by omega⟩
    · exact ⟨h, by omega⟩
/-- the class's outlook holds the marks of Y -/
def YX (K Y : KT) (ext : HL) (G : VRT) (V : VIT) : Prop := RW 3 K V ∧ Laws K 13 (LY ++ ext) V (vr G) ∧ V 70 3 = nI (K 93) ∧ ∀ p q, p < K 93 → q < 4 → V 71 (p * 4 + q) = nI (Y (4 * p + q))
set_option maxRecDepth 20000 in
theorem YX.set {K Y : KT} {ext : HL} {G : VRT} {V V' : VIT} (h : YX K Y ext G V) (hW : WF K) (e : ∀ a k, (3 ≤ a ∧ a ≤ 12) ∨ 100 ≤ a ∨ (a = 70 ∧ k = 3) ∨ a = 71 → V' a k = V a k) : YX K Y ext G V' := by
  obtain ⟨h1, h2, h3, h4⟩ := h
  refine ⟨h1.same (fun a _ _ => funext (fun k => e a k (by omega))), h2.sameV hW.l6 (fun a _ => funext (fun k => e a k (by omega))), by rw [e 70 3 (by omega)]; exact h3, fun p q q1 q2 => by rw [e 71 _ (by omega)]; exact h4 p q q1 q2⟩
def FrY (V0 V : VIT) : Prop := ∀ a k, a ≠ 2 → a ≠ 43 → a ≠ 44 → a ≠ 70 → a ≠ 71 → V a k = V0 a k
section Years
variable {d : Nat} {V0 V : VIT} {VL : VLT} {G : VRT} {P : Post} {ext : HL} {K Y : KT} {p q dy sd : Nat}
set_option maxRecDepth 20000 in
theorem s_draw {many : Nat} (h4 : V 70 4 = nI sd) (hsd : sd ≤ 1000003) (hm : 0 < many) (hm6 : many ≤ 6) (hP : P (some (.int (nI (dr sd % many)))) (LY ++ ext) (up V 70 4 (nI (dr sd))) VL (vr G)) : Ex d mi32 0 (entL [.ref 70, .int (nI many)] 2) [] (LY ++ ext) V VL (vr G) 0 0 P := by
  have hl := dr_lt (sd := sd)
  have e := dr_v (dr_x hsd) (by omega)
  refine x_aload_n rfl rfl ?_
  refine x_aload_n rfl rfl ?_
  refine x_getE (y := 4) rfl rfl rfl h4 ?_
  refine x_i2l rfl ?_
  refine x_ldc2 rfl ?_
  refine x_lmul rfl ?_
  refine x_ldc2 rfl ?_
  refine x_ladd rfl ?_
  refine x_ldc2 rfl ?_
  refine x_lrem rfl (by decide) ?_
  refine x_l2i rfl ?_
  rw [e]
  refine x_putI rfl rfl rfl rfl ?_
  refine x_iload_n rfl rfl ?_
  refine x_ifN_le rfl (fun c23 => ?_) (fun c23 => ?_)
  · exact absurd c23 (by first | decide | omega)
  refine x_aload_n rfl rfl ?_
  refine x_getE (y := 4) rfl rfl rfl (u := nI (dr sd)) up_at ?_
  refine x_iload_n rfl rfl ?_
  refine x_iremN rfl ?_
  refine x_goto rfl ?_
  refine x_iret rfl rfl ?_
  exact hP
set_option maxRecDepth 20000 in
theorem m_draws {many : Nat} (h4 : V 74 51 = nI sd) (hsd : sd ≤ 1000003) (hm : 0 < many) (hm6 : many ≤ 6) (hP : P (some (.int (nI (dr sd % many)))) (LY ++ ext) (up V 74 51 (nI (dr sd))) VL (vr G)) : Ex d mi274 0 (entL [.ref 74, .int (nI many)] 2) [] (LY ++ ext) V VL (vr G) 0 0 P := by
  have hl := dr_lt (sd := sd)
  have e := dr_v (dr_m hsd) (by omega)
  refine x_aload_n rfl rfl ?_
  refine x_ldc2 rfl ?_
  refine x_aload_n rfl rfl ?_
  refine x_getE (y := 51) rfl rfl rfl h4 ?_
  refine x_i2l rfl ?_
  refine x_lmul rfl ?_
  refine x_ldc2 rfl ?_
  refine x_ladd rfl ?_
  refine x_ldc2 rfl ?_
  refine x_lrem rfl (by decide) ?_
  refine x_l2i rfl ?_
  rw [e]
  refine x_putI rfl rfl rfl rfl ?_
  refine x_aload_n rfl rfl ?_
  refine x_getE (y := 51) rfl rfl rfl (u := nI (dr sd)) up_at ?_
  refine x_iload_n rfl rfl ?_
  refine x_iremN rfl ?_
  refine x_iret rfl rfl ?_
  exact hP
set_option maxRecDepth 20000 in
theorem s_top (hA : YX K Y ext G V) (hW : WF K) (hY : YOK K Y) (hp : p < K 93) (hq : q < K 93) (hpq : p ≠ q) (hd4 : dy < 4) (h1 : Y (24 + p) = 1) (h2 : Y (24 + q) = 1) (hP : ∀ V' : VIT, (∀ a k, a ≠ 2 → a ≠ 43 → a ≠ 44 → a ≠ 71 → V' a k = V a k) → YX K (yrT Y p q dy).1 ext G V' → P (some (.int (nI (yrT Y p q dy).2))) (LY ++ ext) V' VL (vr G)) : Ex (d + 4) mi33 0 (entL [.ref 70, .int (nI p), .int (nI q), .int (nI dy), .int (nI (Y 38))] 7) [] (LY ++ ext) V VL (vr G) 0 0 P := by
  have h6 := hW.n
  have e93 := hY.n
  obtain ⟨hX, hL, h3, h71⟩ := hA
  have hm1 : Y (4 * p + dy) < 4 := hY.1.mark (by omega) hd4
  have hm2 : Y (4 * q + dy) < 4 := hY.1.mark (by omega) hd4
  have h38 : Y 38 ≤ 999 := hY.1.2.2.2.2.2.1
  have ed : (Y (4 * p + dy) * 4 + Y (4 * q + dy)) / 4 = Y (4 * p + dy) := by omega
  have em : (Y (4 * p + dy) * 4 + Y (4 * q + dy)) % 4 = Y (4 * q + dy) := by omega
  have eo : outK K p q dy (Y (4 * p + dy)) (Y (4 * q + dy)) (Y 38) = outK Y p q dy (Y (4 * p + dy)) (Y (4 * q + dy)) (Y 38) := outK_congr (fun i hi => (hY.2 i (by omega) (by omega)).symm)
  unfold yrT at hP
  rw [if_pos ⟨hpq, h1, h2⟩] at hP
  refine x_aload_n rfl rfl ?_
  refine x_iload_n rfl rfl ?_
  refine x_iload_n rfl rfl ?_
  refine x_callV (M' := mi31) (As := [_, _]) (bc1 := 0) (bs1 := 0) (bc2 := 0) (bs2 := 0) rfl rfl rfl rfl ok31 rfl rfl (by decide) rfl rfl rfl rfl rfl rfl ?_
  refine x_drawn_in h3 h6 hp hd4 ?_
  rw [h71 p dy hp hd4]
  refine x_iconstN (q := 4) rfl ?_
  refine x_imulN rfl ?_
  refine x_aload_n rfl rfl ?_
  refine x_iload_n rfl rfl ?_
  refine x_iload_n rfl rfl ?_
  refine x_callV (M' := mi31) (As := [_, _]) (bc1 := 0) (bs1 := 0) (bc2 := 0) (bs2 := 0) rfl rfl rfl rfl ok31 rfl rfl (by decide) rfl rfl rfl rfl rfl rfl ?_
  refine x_drawn_in h3 h6 hq hd4 ?_
  rw [h71 q dy hq hd4]
  refine x_iaddN rfl ?_
  refine x_istore (ls' := [_, _, _, _, _, _, _]) rfl rfl rfl ?_
  refine x_aload_n rfl rfl ?_
  refine x_getR (u := .ref _) rfl rfl rfl rfl ?_
  refine x_iload_n rfl rfl ?_
  refine x_iload_n rfl rfl ?_
  refine x_iload_n rfl rfl ?_
  refine x_iload rfl rfl ?_
  refine x_iload rfl rfl ?_
  refine x_callV (M' := mi12) (As := [_, _, _, _, _]) (bc1 := 0) (bs1 := 0) (bc2 := 0) (bs2 := 0) rfl rfl rfl rfl ok12 rfl rfl (by decide) rfl rfl rfl rfl rfl rfl ?_
  refine s_outcome hX hW hL hp hq hd4 (by omega) (by omega) (fun V1 hF => ?_)
  rw [ed, em, eo]
  skip
  have hA1 : YX K Y ext G V1 := YX.set ⟨hX, hL, h3, h71⟩ hW (fun a k z => hF a k (by omega) (by omega) (by omega))
  have hF' : ∀ a k, a ≠ 2 → a ≠ 43 → a ≠ 44 → a ≠ 71 → V1 a k = V a k := fun a k q1 q2 q3 q4 => hF a k q1 q3 (by omega)
  cases ho : outK Y p q dy (Y (4 * p + dy)) (Y (4 * q + dy)) (Y 38) with
  | none =>
    rw [ho] at hP
    refine x_istore (ls' := [_, _, _, _, _, _, _]) rfl rfl rfl ?_
    refine x_iload rfl rfl ?_
    refine x_iconst rfl ?_
    refine x_icmp_ne rfl (fun c36 => ?_) (fun c36 => ?_)
    · exact absurd rfl c36
    refine x_iconstN (q := 0) rfl ?_
    refine x_iret rfl rfl ?_
    exact hP V1 hF' hA1 | some c =>
    rw [ho] at hP
    have hc := outK_lt hm1 hm2 ho
    refine x_istore (ls' := [_, _, _, _, _, _, _]) rfl rfl rfl ?_
    refine x_iload rfl rfl ?_
    refine x_iconst rfl ?_
    refine x_icmp_ne rfl (fun c36 => ?_) (fun c36 => ?_)
    rotate_left
    · exact absurd c36 (nI_m1 (by omega))
    refine x_aload_n rfl rfl ?_
    refine x_getR (u := .ref _) rfl rfl rfl rfl ?_
    refine x_iload_n rfl rfl ?_
    refine x_iconstN (q := 4) rfl ?_
    refine x_imulN rfl ?_
    refine x_iload_n rfl rfl ?_
    refine x_iaddN rfl ?_
    refine x_iload rfl rfl ?_
    refine x_iconstN (q := 4) rfl ?_
    refine x_idivN rfl ?_
    refine x_iasN (j := p * 4 + dy) rfl rfl (rfl) (by omega) ?_
    refine x_aload_n rfl rfl ?_
    refine x_getR (u := .ref _) rfl rfl rfl rfl ?_
    refine x_iload_n rfl rfl ?_
    refine x_iconstN (q := 4) rfl ?_
    refine x_imulN rfl ?_
    refine x_iload_n rfl rfl ?_
    refine x_iaddN rfl ?_
    refine x_iload rfl rfl ?_
    refine x_iconstN (q := 4) rfl ?_
    refine x_iremN rfl ?_
    refine x_iasN (j := q * 4 + dy) rfl rfl (rfl) (by omega) ?_
    refine x_iload rfl rfl ?_
    refine x_iload rfl rfl ?_
    refine x_callS (M' := mi9) (As := [_, _]) (bc1 := 0) (bs1 := 0) (bc2 := 0) (bs2 := 0) rfl rfl rfl rfl ok9 rfl rfl rfl rfl rfl rfl ?_
    refine s_changed (by omega) hc ?_
    refine x_iret rfl rfl ?_
    refine hP _ (fun a k q1 q2 q3 q4 => by rw [up_ne q4, up_ne q4]; exact hF' a k q1 q2 q3 q4) ⟨hA1.1.same (fun a _ _ => by rw [up_ne (by omega), up_ne (by omega)]), hA1.2.1.sameV hW.l6 (fun a _ => by rw [up_ne (by omega), up_ne (by omega)]), by rw [up_ne (by omega), up_ne (by omega)]; exact hA1.2.2.1, fun p' q' z1 z2 => ?_⟩
    show _ = nI (tkK Y p q dy c (4 * p' + q'))
    unfold tkK
    by_cases c1 : p' * 4 + q' = q * 4 + dy
    · rw [c1, up_at, show 4 * p' + q' = 4 * q + dy by omega, ku_same]
    · rw [up_at' c1, ku_ne (by omega)]
      by_cases c2 : p' * 4 + q' = p * 4 + dy
      · rw [c2, up_at, show 4 * p' + q' = 4 * p + dy by omega, ku_same]
      · rw [up_at' c2, ku_ne (by omega)]; exact hA1.2.2.2 p' q' z1 z2
set_option maxRecDepth 20000 in
theorem sy_loop {n sd0 : Nat} (hW : WF K) (h0 : 0 < K 93) (hn : n ≤ 100) : ∀ (m i : Nat) (V : VIT) (s : YrS) (z6 z7 z8 : Value), i + m = n → FrY V0 V → YX K s.2.1 ext G V → YOK K s.2.1 → V 70 4 = nI s.1 → s.1 ≤ 1000003 → s.2.2 ≤ 2 * i → (∀ V' : VIT, FrY V0 V' → YX K (yrL (K 93) m s).2.1 ext G V' → P (some (.int (nI (yrL (K 93) m s).2.2))) (LY ++ ext) V' VL (vr G)) → Ex (d + 5) mi30 53 [.ref 70, .int (nI sd0), .int (nI n), .int (nI s.2.2), .int (nI (s.2.1 38)), .int (nI i), z6, z7, z8] [] (LY ++ ext) V VL (vr G) 0 0 P := by
  have h6 := hW.n
  intro m
  induction m with
  | zero =>
    intro i V s z6 z7 z8 hi hF hA hY hs hs1 hc hP
    have h38 : s.2.1 38 ≤ 999 := hY.1.2.2.2.2.2.1
    refine x_iload rfl rfl ?_
    refine x_iload_n rfl rfl ?_
    refine x_icmpN_ge rfl (fun c56 => ?_) (fun c56 => ?_)
    rotate_left
    · exact absurd c56 (by first | decide | omega)
    refine x_iload_n rfl rfl ?_
    refine x_iret rfl rfl ?_
    exact hP V hF hA | succ m ih =>
    intro i V s z6 z7 z8 hi hF hA hY hs hs1 hc hP
    have h38 : s.2.1 38 ≤ 999 := hY.1.2.2.2.2.2.1
    by_cases c : s.2.1 38 < 999
    · have eL : yrL (K 93) (m + 1) s = yrL (K 93) m (yrN (K 93) s) := if_pos c
      rw [eL] at hP
      obtain ⟨y1, y2, y3⟩ := yrN_ok hY h0 c
      have l1 := dr_lt (sd := s.1)
      have l2 := dr_lt (sd := dr s.1)
      have l3 := dr_lt (sd := dr (dr s.1))
      have e70a : up V 70 4 (nI (dr s.1)) 70 3 = nI (K 93) := (up_at' (by omega)).trans hA.2.2.1
      have e70b : up (up V 70 4 (nI (dr s.1))) 70 4 (nI (dr (dr s.1))) 70 3 = nI (K 93) := (up_at' (by omega)).trans e70a
      have hp : dr (dr s.1) % K 93 < K 93 := Nat.mod_lt _ h0
      have hq : dr (dr (dr s.1)) % K 93 < K 93 := Nat.mod_lt _ h0
      have hd4 : dr s.1 % 4 < 4 := Nat.mod_lt _ (by omega)
      have hA3 : YX K s.2.1 ext G (up (up (up V 70 4 (nI (dr s.1))) 70 4 (nI (dr (dr s.1)))) 70 4 (nI (dr (dr (dr s.1))))) := hA.set hW (fun a k z => by rw [up_ne2 (by omega), up_ne2 (by omega), up_ne2 (by omega)])
      have hF3 : FrY V0 (up (up (up V 70 4 (nI (dr s.1))) 70 4 (nI (dr (dr s.1)))) 70 4 (nI (dr (dr (dr s.1))))) := fun a k q1 q2 q3 q4 q5 => by rw [up_ne q4, up_ne q4, up_ne q4]; exact hF a k q1 q2 q3 q4 q5
      refine x_iload rfl rfl ?_
      refine x_iload_n rfl rfl ?_
      refine x_icmpN_ge rfl (fun c56 => ?_) (fun c56 => ?_)
      · exact absurd c56 (by first | decide | omega)
      refine x_iload rfl rfl ?_
      refine x_sipushN (q := 999) rfl ?_
      refine x_icmpN_ge rfl (fun c64 => ?_) (fun c64 => ?_)
      · exact absurd c64 (by first | decide | omega)
      refine x_aload_n rfl rfl ?_
      refine x_iconstN (q := 4) rfl ?_
      refine x_callV (M' := mi32) (As := [_]) (bc1 := 0) (bs1 := 0) (bc2 := 0) (bs2 := 0) rfl rfl rfl rfl ok32 rfl rfl (by decide) rfl rfl rfl rfl rfl rfl ?_
      refine s_draw (many := 4) hs hs1 (by omega) (by omega) ?_
      refine x_istore (ls' := [_, _, _, _, _, _, _, _, _]) rfl rfl rfl ?_
      refine x_aload_n rfl rfl ?_
      refine x_aload_n rfl rfl ?_
      refine x_getE (y := 3) rfl rfl rfl e70a ?_
      refine x_callV (M' := mi32) (As := [_]) (bc1 := 0) (bs1 := 0) (bc2 := 0) (bs2 := 0) rfl rfl rfl rfl ok32 rfl rfl (by decide) rfl rfl rfl rfl rfl rfl ?_
      refine s_draw up_at (by omega) h0 h6 ?_
      refine x_istore (ls' := [_, _, _, _, _, _, _, _, _]) rfl rfl rfl ?_
      refine x_aload_n rfl rfl ?_
      refine x_aload_n rfl rfl ?_
      refine x_getE (y := 3) rfl rfl rfl e70b ?_
      refine x_callV (M' := mi32) (As := [_]) (bc1 := 0) (bs1 := 0) (bc2 := 0) (bs2 := 0) rfl rfl rfl rfl ok32 rfl rfl (by decide) rfl rfl rfl rfl rfl rfl ?_
      refine s_draw up_at (by omega) h0 h6 ?_
      refine x_istore (ls' := [_, _, _, _, _, _, _, _, _]) rfl rfl rfl ?_
      skip
      have hk : ∀ (V1 : VIT) (ch : Nat), (∀ a k, a ≠ 2 → a ≠ 43 → a ≠ 44 → a ≠ 71 → V1 a k = up (up (up V 70 4 (nI (dr s.1))) 70 4 (nI (dr (dr s.1)))) 70 4 (nI (dr (dr (dr s.1)))) a k) → YX K (yrT s.2.1 (dr (dr s.1) % K 93) (dr (dr (dr s.1)) % K 93) (dr s.1 % 4)).1 ext G V1 → ch = s.2.2 + (yrT s.2.1 (dr (dr s.1) % K 93) (dr (dr (dr s.1)) % K 93) (dr s.1 % 4)).2 → Ex (d + 5) mi30 140 [.ref 70, .int (nI sd0), .int (nI n), .int (nI ch), .int (nI (s.2.1 38)), .int (nI i), .int (nI (dr s.1 % 4)), .int (nI (dr (dr s.1) % K 93)), .int (nI (dr (dr (dr s.1)) % K 93))] [] (LY ++ ext) V1 VL (vr G) 0 0 P := by
        intro V1 ch g1 g2 g3
        rw [show ch = (yrN (K 93) s).2.2 from g3]
        have gA : YX K (yrN (K 93) s).2.1 ext G V1 := ⟨g2.1, g2.2.1, g2.2.2.1, fun p q z1 z2 => by
          rw [show (yrN (K 93) s).2.1 = ku (yrT s.2.1 (dr (dr s.1) % K 93) (dr (dr (dr s.1)) % K 93) (dr s.1 % 4)).1 38 (s.2.1 38 + 1) from rfl, ku_ne (by omega)]
          exact g2.2.2.2 p q z1 z2⟩
        have e38 : nI (s.2.1 38 + 1) = nI ((yrN (K 93) s).2.1 38) := by rw [y2]
        refine x_iincN (q := 1) (ls' := [_, _, _, _, _, _, _, _, _]) rfl rfl rfl rfl ?_
        rw [e38]
        refine x_iincN (q := 1) (ls' := [_, _, _, _, _, _, _, _, _]) rfl rfl rfl rfl ?_
        refine x_goto rfl ?_
        exact ih (i + 1) V1 (yrN (K 93) s) _ _ _ (by omega) (fun a k q1 q2 q3 q4 q5 => (g1 a k q1 q2 q3 q5).trans (hF3 a k q1 q2 q3 q4 q5)) gA y1 ((g1 70 4 (by omega) (by omega) (by omega) (by omega)).trans up_at) (by show dr (dr (dr s.1)) ≤ _; omega) (by omega) hP
      have lp : s.2.1 (24 + dr (dr s.1) % K 93) = K (24 + dr (dr s.1) % K 93) := hY.2 _ (by omega) (by omega)
      have lq : s.2.1 (24 + dr (dr (dr s.1)) % K 93) = K (24 + dr (dr (dr s.1)) % K 93) := hY.2 _ (by omega) (by omega)
      have b1_ := hW.life hp
      have b2_ := hW.life hq
      have hX3 := hA3.1
      by_cases ct : dr (dr s.1) % K 93 ≠ dr (dr (dr s.1)) % K 93 ∧ s.2.1 (24 + dr (dr s.1) % K 93) = 1 ∧ s.2.1 (24 + dr (dr (dr s.1)) % K 93) = 1
      · have t1 := ct.1
        have t2 := ct.2.1
        have t3 := ct.2.2
        refine x_iload rfl rfl ?_
        refine x_iload rfl rfl ?_
        refine x_icmpN_eq rfl (fun c98 => ?_) (fun c98 => ?_)
        · exact absurd c98 (by first | decide | omega)
        refine x_aload_n rfl rfl ?_
        refine x_getR (u := .ref _) rfl rfl rfl rfl ?_
        refine x_iload rfl rfl ?_
        refine x_callV (M' := mi98) (As := [_]) (bc1 := 0) (bs1 := 0) (bc2 := 0) (bs2 := 0) rfl rfl rfl rfl ok98 rfl rfl (by decide) rfl rfl rfl rfl rfl rfl ?_
        refine s_lives_in hX3.n hX3.lm hp h6 hW.lm ?_
        rw [lm_bit hW hp]
        refine x_ifN_eq rfl (fun c110 => ?_) (fun c110 => ?_)
        · exact absurd c110 (by first | decide | omega)
        refine x_aload_n rfl rfl ?_
        refine x_getR (u := .ref _) rfl rfl rfl rfl ?_
        refine x_iload rfl rfl ?_
        refine x_callV (M' := mi98) (As := [_]) (bc1 := 0) (bs1 := 0) (bc2 := 0) (bs2 := 0) rfl rfl rfl rfl ok98 rfl rfl (by decide) rfl rfl rfl rfl rfl rfl ?_
        refine s_lives_in hX3.n hX3.lm hq h6 hW.lm ?_
        rw [lm_bit hW hq]
        refine x_ifN_eq rfl (fun c122 => ?_) (fun c122 => ?_)
        · exact absurd c122 (by first | decide | omega)
        refine x_iload_n rfl rfl ?_
        refine x_aload_n rfl rfl ?_
        refine x_iload rfl rfl ?_
        refine x_iload rfl rfl ?_
        refine x_iload rfl rfl ?_
        refine x_iload rfl rfl ?_
        refine x_callV (M' := mi33) (As := [_, _, _, _]) (bc1 := 0) (bs1 := 0) (bc2 := 0) (bs2 := 0) rfl rfl rfl rfl ok33 rfl rfl (by decide) rfl rfl rfl rfl rfl rfl ?_
        refine s_top hA3 hW hY hp hq t1 hd4 t2 t3 (fun V1 g1 g2 => ?_)
        refine x_iaddN rfl ?_
        refine x_istore_n (ls' := [_, _, _, _, _, _, _, _, _]) rfl rfl rfl ?_
        exact hk V1 _ g1 g2 rfl
      · have eT : yrT s.2.1 (dr (dr s.1) % K 93) (dr (dr (dr s.1)) % K 93) (dr s.1 % 4) = (s.2.1, 0) := if_neg ct
        have hk2 := hk (up (up (up V 70 4 (nI (dr s.1))) 70 4 (nI (dr (dr s.1)))) 70 4 (nI (dr (dr (dr s.1))))) s.2.2 (fun _ _ _ _ _ _ => rfl) (by rw [eT]; exact hA3) (by rw [eT]; rfl)
        refine x_iload rfl rfl ?_
        refine x_iload rfl rfl ?_
        refine x_icmpN_eq rfl (fun c98 => ?_) (fun c98 => ?_)
        · exact hk2
        · refine x_aload_n rfl rfl ?_
          refine x_getR (u := .ref _) rfl rfl rfl rfl ?_
          refine x_iload rfl rfl ?_
          refine x_callV (M' := mi98) (As := [_]) (bc1 := 0) (bs1 := 0) (bc2 := 0) (bs2 := 0) rfl rfl rfl rfl ok98 rfl rfl (by decide) rfl rfl rfl rfl rfl rfl ?_
          refine s_lives_in hX3.n hX3.lm hp h6 hW.lm ?_
          rw [lm_bit hW hp]
          refine x_ifN_eq rfl (fun c110 => ?_) (fun c110 => ?_)
          · exact hk2
          · refine x_aload_n rfl rfl ?_
            refine x_getR (u := .ref _) rfl rfl rfl rfl ?_
            refine x_iload rfl rfl ?_
            refine x_callV (M' := mi98) (As := [_]) (bc1 := 0) (bs1 := 0) (bc2 := 0) (bs2 := 0) rfl rfl rfl rfl ok98 rfl rfl (by decide) rfl rfl rfl rfl rfl rfl ?_
            refine s_lives_in hX3.n hX3.lm hq h6 hW.lm ?_
            rw [lm_bit hW hq]
            refine x_ifN_eq rfl (fun c122 => ?_) (fun c122 => ?_)
            · exact hk2
            · exact absurd ct (by omega)
    · have eL : yrL (K 93) (m + 1) s = s := if_neg c
      rw [eL] at hP
      refine x_iload rfl rfl ?_
      refine x_iload_n rfl rfl ?_
      refine x_icmpN_ge rfl (fun c56 => ?_) (fun c56 => ?_)
      · exact absurd c56 (by first | decide | omega)
      refine x_iload rfl rfl ?_
      refine x_sipushN (q := 999) rfl ?_
      refine x_icmpN_ge rfl (fun c64 => ?_) (fun c64 => ?_)
      rotate_left
      · exact absurd c64 (by first | decide | omega)
      refine x_iload_n rfl rfl ?_
      refine x_iret rfl rfl ?_
      exact hP V hF hA
set_option maxRecDepth 20000 in
theorem s_years {n : Nat} (hX : RW 3 K V) (hW : WF K) (hL : Laws K 13 (LY ++ ext) V (vr G)) (h0 : 0 < K 93) (hsd : sd ≤ 1000000) (hn : n ≤ 100) (hP : ∀ V' : VIT, FrY V V' → YX K (yrL (K 93) n (sd, K, 0)).2.1 ext G V' → P (some (.int (nI (yrL (K 93) n (sd, K, 0)).2.2))) (LY ++ ext) V' VL (vr G)) : Ex (d + 5) mi30 0 (entL [.ref 70, .int (nI sd), .int (nI n)] 9) [] (LY ++ ext) V VL (vr G) 0 0 P := by
  have h6 := hW.n
  have hA : YX K K ext G (up (uw (up V 70 3 (nI (K 93))) 71 (va_cpy (V 6) (V 71) 0 0 24)) 70 4 (nI sd)) := ⟨hX.same (fun a _ _ => by rw [up_ne (by omega), uw_ne (by omega), up_ne (by omega)]), hL.sameV hW.l6 (fun a _ => by rw [up_ne (by omega), uw_ne (by omega), up_ne (by omega)]), rfl, fun p q z1 z2 => by
    rw [up_ne (by omega), uw_same]
    show (if 0 ≤ p * 4 + q ∧ p * 4 + q < 0 + 24 then V 6 (0 + (p * 4 + q - 0)) else V 71 (p * 4 + q)) = _
    rw [if_pos (by omega), Nat.zero_add, Nat.sub_zero]
    exact hX.mark z1 z2⟩
  refine x_aload_n rfl rfl ?_
  refine x_aload_n rfl rfl ?_
  refine x_getR (u := .ref _) rfl rfl rfl rfl ?_
  refine x_getE (y := 0) rfl rfl rfl hX.n ?_
  refine x_putI rfl rfl rfl rfl ?_
  refine x_aload_n rfl rfl ?_
  refine x_getR (u := .ref _) rfl rfl rfl rfl ?_
  refine x_getR (u := .ref _) rfl rfl rfl rfl ?_
  refine x_iconst rfl ?_
  refine x_aload_n rfl rfl ?_
  refine x_getR (u := .ref _) rfl rfl rfl rfl ?_
  refine x_iconst rfl ?_
  refine x_aload_n rfl rfl ?_
  refine x_getR (u := .ref _) rfl rfl rfl rfl ?_
  refine x_alen0 rfl rfl ?_
  refine x_copy rfl rfl rfl (by decide) (by decide) (by decide) (by decide) (by decide) rfl ?_
  refine x_aload_n rfl rfl ?_
  refine x_iload_n rfl rfl ?_
  refine x_putI rfl rfl rfl rfl ?_
  refine x_iconstN (q := 0) rfl ?_
  refine x_istore_n (ls' := [_, _, _, _, _, _, _, _, _]) rfl rfl rfl ?_
  refine x_aload_n rfl rfl ?_
  refine x_getR (u := .ref _) rfl rfl rfl rfl ?_
  refine x_getR (u := .ref _) rfl rfl rfl rfl ?_
  refine x_iconst rfl ?_
  refine x_ialE (j := 0) rfl rfl (rfl) (by omega) (hA.1.t0) ?_
  refine x_istore (ls' := [_, _, _, _, _, _, _, _, _]) rfl rfl rfl ?_
  refine x_iconstN (q := 0) rfl ?_
  refine x_istore (ls' := [_, _, _, _, _, _, _, _, _]) rfl rfl rfl ?_
  exact sy_loop hW h0 hn n 0 _ (sd, K, 0) _ _ _ (by omega) (fun a k q1 q2 q3 q4 q5 => by rw [up_ne q4, uw_ne q5, up_ne q4]) hA ⟨hW, fun _ _ _ => rfl⟩ up_at (by show sd ≤ 1000003; omega) (by show 0 ≤ _; omega) hP
end Years
