/-! ===== RollsAgree$World: what it tells ===== -/
theorem ExS.mono {S : SPr} {d d' : Nat} {M : MI} {pc : Nat} {ls st : List Value} {lay : HL} {VI : VIT} {VL : VLT} {VR : VRT} {bc bs : Nat} {P : Post} (h : ExS S d M pc ls st lay VI VL VR bc bs P) (hd : d ≤ d') : ExS S d' M pc ls st lay VI VL VR bc bs P := by
  intro p l e R s m args below meth c H locs cells slots base sa sv D dA lsC C hH hS hl h1 h2
  have hfr := C.2.2.2.2.2.2.2.2.2.1
  have hlo := C.2.2.2.2.2.2.2.2.2.2.1
  unfold frs at hfr; unfold lcs at hlo
  refine h p l e R s m args below meth c H locs cells slots base sa sv D dA lsC ⟨C.1, C.2.1, C.2.2.1, C.2.2.2.1, C.2.2.2.2.1, C.2.2.2.2.2.1, C.2.2.2.2.2.2.1, C.2.2.2.2.2.2.2.1, C.2.2.2.2.2.2.2.2.1, ?_, ?_, C.2.2.2.2.2.2.2.2.2.2.2⟩ hH hS hl h1 h2
  · unfold frs; omega
  · unfold lcs; omega
def hasF (n p : Int32) : Int32 := if p < 0 then 0 else if n ≤ p then 0 else 1
theorem hasF_in {n p : Nat} (h : p < n) (hn : n < 2147483648) : hasF (nI n) (nI p) = 1 := by
  simp [hasF, nI_pos (show p < 2 ^ 31 by omega), nI_ge h hn]
theorem hasF_neg {n p : Int32} (h : p < 0) : hasF n p = 0 := by simp [hasF, h]
theorem hasF_big {n p : Int32} (h : n ≤ p) : hasF n p = 0 := by simp [hasF, h]
theorem hasF_bigN {n p : Nat} (h : n ≤ p) (hp : p < 2147483648) : hasF (nI n) (nI p) = 0 := hasF_big (nI_le h hp)
theorem hasF_01 (n p : Int32) : hasF n p = 0 ∨ hasF n p = 1 := by
  unfold hasF
  split
  · exact Or.inl rfl
  · split
    · exact Or.inl rfl
    · exact Or.inr rfl
section World
variable {d : Nat} {VI : VIT} {VL : VLT} {G : VRT} {P : Post} {ext : HL} {n : Nat}
theorem s_hasPerson {p : Int32} (hP : P (some (.int (hasF (VI 3 0) p))) (LY ++ ext) VI VL (vr G)) : Ex d mi95 0 (entL [.ref 3, .int p] 2) [] (LY ++ ext) VI VL (vr G) 0 0 P := by
  refine x_iload_n rfl rfl ?_
  refine x_if_lt rfl (fun c1 => ?_) (fun c1 => ?_)
  · refine x_iconst rfl ?_
    refine x_zret rfl rfl (by first | exact Or.inl rfl | exact Or.inr rfl) ?_
    simpa [hasF, *] using hP
  · refine x_iload_n rfl rfl ?_
    refine x_aload_n rfl rfl ?_
    refine x_getI rfl rfl rfl ?_
    refine x_icmp_ge rfl (fun c9 => ?_) (fun c9 => ?_)
    · refine x_iconst rfl ?_
      refine x_zret rfl rfl (by first | exact Or.inl rfl | exact Or.inr rfl) ?_
      simpa [hasF, *] using hP
    · refine x_iconst rfl ?_
      refine x_goto rfl ?_
      refine x_zret rfl rfl (by first | exact Or.inl rfl | exact Or.inr rfl) ?_
      simpa [hasF, *] using hP
theorem s_hasPerson_in {p : Nat} (hn : VI 3 0 = nI n) (hp : p < n) (hn6 : n ≤ 6) (hP : P (some (.int 1)) (LY ++ ext) VI VL (vr G)) : Ex d mi95 0 (entL [.ref 3, .int (nI p)] 2) [] (LY ++ ext) VI VL (vr G) 0 0 P :=
  s_hasPerson (by rw [hn, hasF_in hp (by omega)]; exact hP)
theorem s_hasRoll {p : Int32} (hP : P (some (.int (hasF (VI 3 5) p))) (LY ++ ext) VI VL (vr G)) : Ex d mi96 0 (entL [.ref 3, .int p] 2) [] (LY ++ ext) VI VL (vr G) 0 0 P := by
  refine x_iload_n rfl rfl ?_
  refine x_if_lt rfl (fun c1 => ?_) (fun c1 => ?_)
  · refine x_iconst rfl ?_
    refine x_zret rfl rfl (by first | exact Or.inl rfl | exact Or.inr rfl) ?_
    simpa [hasF, *] using hP
  · refine x_iload_n rfl rfl ?_
    refine x_aload_n rfl rfl ?_
    refine x_getI rfl rfl rfl ?_
    refine x_icmp_ge rfl (fun c9 => ?_) (fun c9 => ?_)
    · refine x_iconst rfl ?_
      refine x_zret rfl rfl (by first | exact Or.inl rfl | exact Or.inr rfl) ?_
      simpa [hasF, *] using hP
    · refine x_iconst rfl ?_
      refine x_goto rfl ?_
      refine x_zret rfl rfl (by first | exact Or.inl rfl | exact Or.inr rfl) ?_
      simpa [hasF, *] using hP
theorem s_hasLaw {p : Int32} (hP : P (some (.int (hasF (VI 3 14) p))) (LY ++ ext) VI VL (vr G)) : Ex d mi97 0 (entL [.ref 3, .int p] 2) [] (LY ++ ext) VI VL (vr G) 0 0 P := by
  refine x_iload_n rfl rfl ?_
  refine x_if_lt rfl (fun c1 => ?_) (fun c1 => ?_)
  · refine x_iconst rfl ?_
    refine x_zret rfl rfl (by first | exact Or.inl rfl | exact Or.inr rfl) ?_
    simpa [hasF, *] using hP
  · refine x_iload_n rfl rfl ?_
    refine x_aload_n rfl rfl ?_
    refine x_getI rfl rfl rfl ?_
    refine x_icmp_ge rfl (fun c9 => ?_) (fun c9 => ?_)
    · refine x_iconst rfl ?_
      refine x_zret rfl rfl (by first | exact Or.inl rfl | exact Or.inr rfl) ?_
      simpa [hasF, *] using hP
    · refine x_iconst rfl ?_
      refine x_goto rfl ?_
      refine x_zret rfl rfl (by first | exact Or.inl rfl | exact Or.inr rfl) ?_
      simpa [hasF, *] using hP
theorem s_isDay {lay : HL} {VR : VRT} {p : Int32} (hP : P (some (.int (hasF 4 p))) lay VI VL VR) : Ex d mi150 0 (entL [.int p] 1) [] lay VI VL VR 0 0 P := by
  refine x_iload_n rfl rfl ?_
  refine x_if_lt rfl (fun c1 => ?_) (fun c1 => ?_)
  · refine x_iconst rfl ?_
    refine x_zret rfl rfl (by first | exact Or.inl rfl | exact Or.inr rfl) ?_
    simpa [hasF, *] using hP
  · refine x_iload_n rfl rfl ?_
    refine x_iconst rfl ?_
    refine x_icmp_ge rfl (fun c6 => ?_) (fun c6 => ?_)
    · refine x_iconst rfl ?_
      refine x_zret rfl rfl (by first | exact Or.inl rfl | exact Or.inr rfl) ?_
      simpa [hasF, *] using hP
    · refine x_iconst rfl ?_
      refine x_goto rfl ?_
      refine x_zret rfl rfl (by first | exact Or.inl rfl | exact Or.inr rfl) ?_
      simpa [hasF, *] using hP
theorem s_isDay_in {lay : HL} {VR : VRT} {p : Nat} (hp : p < 4) (hP : P (some (.int 1)) lay VI VL VR) : Ex d mi150 0 (entL [.int (nI p)] 1) [] lay VI VL VR 0 0 P :=
  s_isDay (by rw [show (4 : Int32) = nI 4 from rfl, hasF_in hp (by omega)]; exact hP)
/-- a bit of a mask -/
theorem bitE (m p : Nat) : (m / 2 ^ p % 2 = 1) ↔ m.testBit p = true := by
  rw [Nat.testBit_eq_decide_div_mod_eq]; simp
def b1 (b : Bool) : Int32 := if b then 1 else 0
theorem b1_01 (b : Bool) : b1 b = 0 ∨ b1 b = 1 := by
  cases b
  · exact Or.inl rfl
  · exact Or.inr rfl
theorem s_lives_in {p m : Nat} (hn : VI 3 0 = nI n) (hm : VI 3 1 = nI m) (hp : p < n) (hn6 : n ≤ 6) (hm6 : m < 64) (hP : P (some (.int (b1 (m.testBit p)))) (LY ++ ext) VI VL (vr G)) : Ex (d + 1) mi98 0 (entL [.ref 3, .int (nI p)] 2) [] (LY ++ ext) VI VL (vr G) 0 0 P := by
  refine x_aload_n rfl rfl ?_
  refine x_iload_n rfl rfl ?_
  refine x_callV (M' := mi95) (As := [_]) (bc1 := 0) (bs1 := 0) (bc2 := 0) (bs2 := 0) rfl rfl rfl rfl ok95 rfl rfl (by decide) rfl rfl rfl rfl rfl rfl ?_
  refine s_hasPerson_in hn hp hn6 ?_
  refine x_if_eq rfl (fun c5 => ?_) (fun c5 => ?_)
  · exact absurd c5 (by first | decide | omega)
  refine x_aload_n rfl rfl ?_
  refine x_getE rfl rfl rfl (hm) ?_
  refine x_iload_n rfl rfl ?_
  refine x_ishrN rfl ?_
  refine x_iconstN (q := 1) rfl ?_
  refine x_iandM1 rfl ?_
  refine x_iconstN (q := 1) rfl ?_
  refine x_icmpN_ne rfl (fun c17 => ?_) (fun c17 => ?_)
  · refine x_iconstN (q := 0) rfl ?_
    refine x_zret rfl rfl (by first | exact Or.inl rfl | exact Or.inr rfl) ?_
    refine P_i ?_ hP; simp only [b1, ← bitE, c17]; rfl
  · refine x_iconstN (q := 1) rfl ?_
    refine x_goto rfl ?_
    refine x_zret rfl rfl (by first | exact Or.inl rfl | exact Or.inr rfl) ?_
    refine P_i ?_ hP; simp only [b1, ← bitE, c17]; rfl
theorem s_lives_out {p : Int32} (h : hasF (VI 3 0) p = 0) (hP : P (some (.int 0)) (LY ++ ext) VI VL (vr G)) : Ex (d + 1) mi98 0 (entL [.ref 3, .int p] 2) [] (LY ++ ext) VI VL (vr G) 0 0 P := by
  refine x_aload_n rfl rfl ?_
  refine x_iload_n rfl rfl ?_
  refine x_callV (M' := mi95) (As := [_]) (bc1 := 0) (bs1 := 0) (bc2 := 0) (bs2 := 0) rfl rfl rfl rfl ok95 rfl rfl (by decide) rfl rfl rfl rfl rfl rfl ?_
  refine s_hasPerson ?_
  refine x_if_eq rfl (fun c5 => ?_) (fun c5 => ?_)
  rotate_left
  · exact absurd h c5
  refine x_iconst rfl ?_
  refine x_zret rfl rfl (by first | exact Or.inl rfl | exact Or.inr rfl) ?_
  exact hP
theorem s_isDone_in {p m rn : Nat} (hn : VI 3 5 = nI rn) (hm : VI 3 6 = nI m) (hp : p < rn) (hn6 : rn ≤ 8) (hm6 : m < 256) (hP : P (some (.int (b1 (m.testBit p)))) (LY ++ ext) VI VL (vr G)) : Ex (d + 1) mi99 0 (entL [.ref 3, .int (nI p)] 2) [] (LY ++ ext) VI VL (vr G) 0 0 P := by
  refine x_aload_n rfl rfl ?_
  refine x_iload_n rfl rfl ?_
  refine x_callV (M' := mi96) (As := [_]) (bc1 := 0) (bs1 := 0) (bc2 := 0) (bs2 := 0) rfl rfl rfl rfl ok96 rfl rfl (by decide) rfl rfl rfl rfl rfl rfl ?_
  refine s_hasRoll ?_
  rw [hn, hasF_in hp (by omega)]
  refine x_if_eq rfl (fun c5 => ?_) (fun c5 => ?_)
  · exact absurd c5 (by first | decide | omega)
  refine x_aload_n rfl rfl ?_
  refine x_getE rfl rfl rfl (hm) ?_
  refine x_iload_n rfl rfl ?_
  refine x_ishrN rfl ?_
  refine x_iconstN (q := 1) rfl ?_
  refine x_iandM1 rfl ?_
  refine x_iconstN (q := 1) rfl ?_
  refine x_icmpN_ne rfl (fun c17 => ?_) (fun c17 => ?_)
  · refine x_iconstN (q := 0) rfl ?_
    refine x_zret rfl rfl (by first | exact Or.inl rfl | exact Or.inr rfl) ?_
    refine P_i ?_ hP; simp only [b1, ← bitE, c17]; rfl
  · refine x_iconstN (q := 1) rfl ?_
    refine x_goto rfl ?_
    refine x_zret rfl rfl (by first | exact Or.inl rfl | exact Or.inr rfl) ?_
    refine P_i ?_ hP; simp only [b1, ← bitE, c17]; rfl
theorem s_markOf_in {p q : Nat} (hn : VI 3 0 = nI n) (hp : p < n) (hn6 : n ≤ 6) (hq : q < 4) (hP : P (some (.int (VI 6 (p * 4 + q)))) (LY ++ ext) VI VL (vr G)) : Ex (d + 1) mi101 0 (entL [.ref 3, .int (nI p), .int (nI q)] 3) [] (LY ++ ext) VI VL (vr G) 0 0 P := by
  refine x_aload_n rfl rfl ?_
  refine x_iload_n rfl rfl ?_
  refine x_callV (M' := mi95) (As := [_]) (bc1 := 0) (bs1 := 0) (bc2 := 0) (bs2 := 0) rfl rfl rfl rfl ok95 rfl rfl (by decide) rfl rfl rfl rfl rfl rfl ?_
  refine s_hasPerson_in hn hp hn6 ?_
  refine x_if_eq rfl (fun c5 => ?_) (fun c5 => ?_)
  · exact absurd c5 (by first | decide | omega)
  refine x_iload_n rfl rfl ?_
  refine x_callN (M' := mi150) (As := [_]) (bc1 := 0) (bs1 := 0) (bc2 := 0) (bs2 := 0) rfl rfl rfl rfl ok150 rfl rfl rfl rfl rfl rfl ?_
  refine s_isDay_in hq ?_
  refine x_if_eq rfl (fun c12 => ?_) (fun c12 => ?_)
  · exact absurd c12 (by first | decide | omega)
  refine x_aload_n rfl rfl ?_
  refine x_getR (u := .ref _) rfl rfl rfl rfl ?_
  refine x_iload_n rfl rfl ?_
  refine x_iconstN (q := 4) rfl ?_
  refine x_imulN rfl ?_
  refine x_iload_n rfl rfl ?_
  refine x_iaddN rfl ?_
  refine x_ialN (j := p * 4 + q) rfl rfl (rfl) (by omega) ?_
  refine x_goto rfl ?_
  refine x_iret rfl rfl ?_
  exact hP
theorem s_markOf_out {p q : Int32} (h : hasF (VI 3 0) p = 0 ∨ hasF 4 q = 0) (hP : P (some (.int (-1))) (LY ++ ext) VI VL (vr G)) : Ex (d + 1) mi101 0 (entL [.ref 3, .int p, .int q] 3) [] (LY ++ ext) VI VL (vr G) 0 0 P := by
  refine x_aload_n rfl rfl ?_
  refine x_iload_n rfl rfl ?_
  refine x_callV (M' := mi95) (As := [_]) (bc1 := 0) (bs1 := 0) (bc2 := 0) (bs2 := 0) rfl rfl rfl rfl ok95 rfl rfl (by decide) rfl rfl rfl rfl rfl rfl ?_
  refine s_hasPerson ?_
  refine x_if_eq rfl (fun c5 => ?_) (fun c5 => ?_)
  · refine x_iconst rfl ?_
    refine x_iret rfl rfl ?_
    exact hP
  · refine x_iload_n rfl rfl ?_
    refine x_callN (M' := mi150) (As := [_]) (bc1 := 0) (bs1 := 0) (bc2 := 0) (bs2 := 0) rfl rfl rfl rfl ok150 rfl rfl rfl rfl rfl rfl ?_
    refine s_isDay ?_
    refine x_if_eq rfl (fun c12 => ?_) (fun c12 => ?_)
    · refine x_iconst rfl ?_
      refine x_iret rfl rfl ?_
      exact hP
    · exact absurd h (by simp [c5, c12])
theorem s_shiftOf_in {p : Nat} (hn : VI 3 0 = nI n) (hp : p < n) (hn6 : n ≤ 6) (hP : P (some (.int (nI (2 * (n - 1 - p))))) (LY ++ ext) VI VL (vr G)) : Ex d mi103 0 (entL [.ref 3, .int (nI p)] 2) [] (LY ++ ext) VI VL (vr G) 0 0 P := by
  refine x_iconstN (q := 2) rfl ?_
  refine x_aload_n rfl rfl ?_
  refine x_getE rfl rfl rfl (hn) ?_
  refine x_iconstN (q := 1) rfl ?_
  refine x_isubN rfl ?_
  refine x_iload_n rfl rfl ?_
  refine x_isubN rfl ?_
  refine x_imulN rfl ?_
  refine x_iret rfl rfl ?_
  exact hP
/-- the mark of a person in a row of n people -/
def dg (n row p : Nat) : Nat := row / 2 ^ (2 * (n - 1 - p)) % 4
theorem and3 (x : Nat) : x &&& 3 = x % 4 := Nat.and_two_pow_sub_one_eq_mod x 2
theorem s_markInRow_in {p row : Nat} (hn : VI 3 0 = nI n) (hp : p < n) (hn6 : n ≤ 6) (hr : row < 4096) (hP : P (some (.int (nI (dg n row p)))) (LY ++ ext) VI VL (vr G)) : Ex (d + 1) mi104 0 (entL [.ref 3, .int (nI row), .int (nI p)] 3) [] (LY ++ ext) VI VL (vr G) 0 0 P := by
  refine x_aload_n rfl rfl ?_
  refine x_iload_n rfl rfl ?_
  refine x_callV (M' := mi95) (As := [_]) (bc1 := 0) (bs1 := 0) (bc2 := 0) (bs2 := 0) rfl rfl rfl rfl ok95 rfl rfl (by decide) rfl rfl rfl rfl rfl rfl ?_
  refine s_hasPerson_in hn hp hn6 ?_
  refine x_if_eq rfl (fun c5 => ?_) (fun c5 => ?_)
  · exact absurd c5 (by first | decide | omega)
  refine x_iload_n rfl rfl ?_
  refine x_aload_n rfl rfl ?_
  refine x_iload_n rfl rfl ?_
  refine x_callV (M' := mi103) (As := [_]) (bc1 := 0) (bs1 := 0) (bc2 := 0) (bs2 := 0) rfl rfl rfl rfl ok103 rfl rfl (by decide) rfl rfl rfl rfl rfl rfl ?_
  refine s_shiftOf_in hn hp hn6 ?_
  refine x_ishrN rfl ?_
  refine x_iconstN (q := 3) rfl ?_
  refine x_iandM3 rfl ?_
  refine x_goto rfl ?_
  refine x_iret rfl rfl ?_
  refine P_i ?_ hP; rfl
theorem s_markInRow_out {p row : Int32} (h : hasF (VI 3 0) p = 0) (hP : P (some (.int (-1))) (LY ++ ext) VI VL (vr G)) : Ex (d + 1) mi104 0 (entL [.ref 3, .int row, .int p] 3) [] (LY ++ ext) VI VL (vr G) 0 0 P := by
  refine x_aload_n rfl rfl ?_
  refine x_iload_n rfl rfl ?_
  refine x_callV (M' := mi95) (As := [_]) (bc1 := 0) (bs1 := 0) (bc2 := 0) (bs2 := 0) rfl rfl rfl rfl ok95 rfl rfl (by decide) rfl rfl rfl rfl rfl rfl ?_
  refine s_hasPerson ?_
  refine x_if_eq rfl (fun c5 => ?_) (fun c5 => ?_)
  rotate_left
  · exact absurd h c5
  refine x_iconst rfl ?_
  refine x_iret rfl rfl ?_
  exact hP
end World
