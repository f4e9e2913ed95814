/-! ===== feed ===== -/
-- the byte of a number at the place s
def byt (a : Int32) (s : Nat) : Nat := a.toBitVec.toNat / 2 ^ s % 256
set_option maxRecDepth 20000 in
theorem byt_lt (a : Int32) (s : Nat) : byt a s < 256 := Nat.mod_lt _ (by omega)
set_option maxRecDepth 20000 in
theorem ush {a : Int32} {s : Nat} (hs : s = 24 ∨ s = 16 ∨ s = 8 ∨ s = 0) : (a.toUInt32 >>> ((nI s).toUInt32 &&& Int32.toUInt32 31)).toInt32 &&& 255 = nI (byt a s) := by
  rw [pk_and _ 8 rfl]
  refine congrArg nI ?_
  show (a.toUInt32 >>> ((nI s).toUInt32 &&& Int32.toUInt32 31)).toNat % 2 ^ 8 = _
  rw [UInt32.toNat_shiftRight, Nat.shiftRight_eq_div_pow]
  rcases hs with rfl | rfl | rfl | rfl <;> rfl
set_option maxRecDepth 20000 in
theorem sb8 {a : Int32} {s : Nat} (hs : s ≤ 24) : (a >>> (nI s &&& 31)).toInt8 = (nI (byt a s)).toInt8 := by
  apply Int8.toBitVec_inj.mp
  rw [Int32.toBitVec_toInt8, Int32.toBitVec_toInt8, Int32.toBitVec_shiftRight, nb_bv]
  apply BitVec.eq_of_getLsbD_eq
  intro i hi
  rw [BitVec.getLsbD_signExtend, BitVec.getLsbD_signExtend, if_pos (show i < 32 by omega), if_pos (show i < 32 by omega)]
  show (decide (i < 8) && (a.toBitVec.sshiftRight ((nI s &&& 31).toBitVec.smod 32).toNat).getLsbD i) = _
  rw [nb_s s (by omega), BitVec.getLsbD_sshiftRight, BitVec.getLsbD_ofNat]
  unfold byt
  rw [show (256 : Nat) = 2 ^ 8 from rfl, Nat.testBit_mod_two_pow, Nat.testBit_div_two_pow]
  have h1 : ¬ 32 ≤ i := by omega
  have h2 : s + i < 32 := by omega
  have h3 : i < 32 := by omega
  simp only [h1, h2, h3, hi, decide_true, decide_false, Bool.not_false, Bool.true_and, if_true, BitVec.getLsbD]
  first | rfl | (rw [Nat.add_comm]; rfl) | rw [Nat.add_comm]
set_option maxRecDepth 20000 in
theorem sbb {a : Int32} {s : Nat} (hs : s ≤ 24) : (a >>> (nI s &&& 31)).toInt8.toInt32.toInt8.toInt32 = (nI (byt a s)).toInt8.toInt32 := by
  rw [sb8 hs]
  simp
def put4 (g : Nat → Int32) (t : Nat) (a : Int32) : Nat → Int32 := fun k => if t ≤ k ∧ k < t + 4 then nI (byt a (24 - 8 * ((k - t) % 4))) else g k
def pf (V : VIT) (t : Nat) (a : Int32) : VIT := uw (up V 0 13 (nI (t + 4))) 72 (put4 (V 72) t a)
set_option maxRecDepth 20000 in
theorem pf_eq {V : VIT} {t : Nat} {a : Int32} : up (up (up (up (up (up (up (up V 72 t (nI (byt a 24))) 0 13 (nI (t + 1))) 72 (t + 1) (nI (byt a 16))) 0 13 (nI (t + 1 + 1))) 72 (t + 2) (nI (byt a 8))) 0 13 (nI (t + 2 + 1))) 72 (t + 3) (nI (byt a 0))) 0 13 (nI (t + 3 + 1)) = pf V t a := by
  funext b k
  by_cases h72 : b = 72
  · subst h72
    show (if k = t + 3 then nI (byt a 0) else if k = t + 2 then nI (byt a 8) else if k = t + 1 then nI (byt a 16) else if k = t then nI (byt a 24) else V 72 k) = put4 (V 72) t a k
    unfold put4
    by_cases hk : t ≤ k ∧ k < t + 4
    · rw [if_pos hk]
      rcases (show k = t ∨ k = t + 1 ∨ k = t + 2 ∨ k = t + 3 by omega) with e | e | e | e <;> subst e
      · rw [if_neg (by omega), if_neg (by omega), if_neg (by omega), if_pos rfl, Nat.sub_self]
      · rw [if_neg (by omega), if_neg (by omega), if_pos rfl, Nat.add_sub_cancel_left]
      · rw [if_neg (by omega), if_pos rfl, Nat.add_sub_cancel_left]
      · rw [if_pos rfl, Nat.add_sub_cancel_left]
    · rw [if_neg hk, if_neg (by omega), if_neg (by omega), if_neg (by omega), if_neg (by omega)]
  · by_cases h0 : b = 0
    · subst h0
      show (if k = 13 then nI (t + 3 + 1) else if k = 13 then nI (t + 2 + 1) else if k = 13 then nI (t + 1 + 1) else if k = 13 then nI (t + 1) else V 0 k) = (if k = 13 then nI (t + 4) else V 0 k)
      by_cases hk : k = 13 <;> simp [hk]
    · simp [up, pf, uw, h72, h0]
set_option maxRecDepth 20000 in
theorem pf_13 {V : VIT} {t : Nat} {a : Int32} : pf V t a 0 13 = nI (t + 4) := rfl
set_option maxRecDepth 20000 in
theorem pf_ne {V : VIT} {t b k : Nat} {a : Int32} (h1 : b ≠ 72) (h2 : ¬ (b = 0 ∧ k = 13)) : pf V t a b k = V b k := by
  unfold pf
  rw [uw_ne h1]
  by_cases e : b = 0
  · subst e; exact up_at' (fun z => h2 ⟨rfl, z⟩)
  · rw [up_ne e]
def mg (g : Nat → Int32) (t : Nat) (xs : Nat → Int32) (n : Nat) : Nat → Int32 := fun i => if t ≤ i ∧ i < t + n then (nI (byt (xs ((i - t) / 4)) (24 - 8 * ((i - t) % 4)))).toInt8.toInt32 else g i
set_option maxRecDepth 20000 in
theorem mg_step {V : VIT} {g : Nat → Int32} {t n : Nat} {xs : Nat → Int32} {x : Int32} (hx : x = (nI (byt (xs (n / 4)) (24 - 8 * (n % 4)))).toInt8.toInt32) : up (uw V 81 (mg g t xs n)) 81 (t + n) x = uw V 81 (mg g t xs (n + 1)) := by
  funext b k
  by_cases h : b = 81
  · subst h
    show (if k = t + n then x else mg g t xs n k) = mg g t xs (n + 1) k
    unfold mg
    by_cases hk : k = t + n
    · subst hk
      rw [if_pos rfl, if_pos (by omega), Nat.add_sub_cancel_left]; exact hx
    · rw [if_neg hk]
      by_cases h2 : t ≤ k ∧ k < t + n
      · rw [if_pos h2, if_pos (by omega)]
      · rw [if_neg h2, if_neg (by omega)]
  · rw [up_ne h, uw_ne h, uw_ne h]
section Feed
variable {d : Nat} {VI : VIT} {VL : VLT} {G : VRT} {P : Post} {ext : HL} {t : Nat}
set_option maxRecDepth 20000 in
theorem s_putFour {a : Int32} (hn : VI 0 13 = nI t) (ht : t + 4 ≤ 400) (hP : P none (LY ++ ext) (pf VI t a) VL (vr G)) : Ex d mi147 0 (entL [.ref 0, .int a] 3) [] (LY ++ ext) VI VL (vr G) 0 0 P := by
  refine x_bipushN (q := 24) rfl ?_
  refine x_istore_n (ls' := [_, _, _]) rfl rfl rfl ?_
  skip
  refine x_iload_n rfl rfl ?_
  refine x_ifN_lt rfl ?_
  refine x_aload_n rfl rfl ?_
  refine x_getE (y := 13) rfl rfl rfl (hn) ?_
  refine x_sipushN (q := 400) rfl ?_
  refine x_icmpN_ge rfl (fun c14 => ?_) (fun c14 => ?_)
  · exact absurd c14 (by first | decide | omega)
  refine x_aload_n rfl rfl ?_
  refine x_getR (u := .ref _) rfl rfl rfl rfl ?_
  refine x_aload_n rfl rfl ?_
  refine x_getE (y := 13) rfl rfl rfl (hn) ?_
  refine x_iload_n rfl rfl ?_
  refine x_iload_n rfl rfl ?_
  refine x_iushr rfl ?_
  refine x_sipush rfl ?_
  refine x_iand rfl ?_
  rw [ush (s := 24) (by omega)]
  refine x_iasN (j := t) rfl rfl (rfl) (by omega) ?_
  refine x_aload_n rfl rfl ?_
  refine x_dup rfl rfl ?_
  refine x_getE (y := 13) rfl rfl rfl (hn) ?_
  refine x_iconstN (q := 1) rfl ?_
  refine x_iaddN rfl ?_
  refine x_putI rfl rfl rfl rfl ?_
  refine x_iinc (ls' := [_, _, _]) rfl rfl rfl rfl ?_
  refine x_goto rfl ?_
  rw [show nI 24 + (-8 : Int32) = nI 16 from by decide +kernel]
  refine x_iload_n rfl rfl ?_
  refine x_ifN_lt rfl ?_
  refine x_aload_n rfl rfl ?_
  refine x_getE (y := 13) rfl rfl rfl (show _ = nI (t + 1) from rfl) ?_
  refine x_sipushN (q := 400) rfl ?_
  refine x_icmpN_ge rfl (fun c14 => ?_) (fun c14 => ?_)
  · exact absurd c14 (by first | decide | omega)
  refine x_aload_n rfl rfl ?_
  refine x_getR (u := .ref _) rfl rfl rfl rfl ?_
  refine x_aload_n rfl rfl ?_
  refine x_getE (y := 13) rfl rfl rfl (show _ = nI (t + 1) from rfl) ?_
  refine x_iload_n rfl rfl ?_
  refine x_iload_n rfl rfl ?_
  refine x_iushr rfl ?_
  refine x_sipush rfl ?_
  refine x_iand rfl ?_
  rw [ush (s := 16) (by omega)]
  refine x_iasN (j := t + 1) rfl rfl (rfl) (by omega) ?_
  refine x_aload_n rfl rfl ?_
  refine x_dup rfl rfl ?_
  refine x_getE (y := 13) rfl rfl rfl (show _ = nI (t + 1) from rfl) ?_
  refine x_iconstN (q := 1) rfl ?_
  refine x_iaddN rfl ?_
  refine x_putI rfl rfl rfl rfl ?_
  refine x_iinc (ls' := [_, _, _]) rfl rfl rfl rfl ?_
  refine x_goto rfl ?_
  rw [show nI 16 + (-8 : Int32) = nI 8 from by decide +kernel]
  refine x_iload_n rfl rfl ?_
  refine x_ifN_lt rfl ?_
  refine x_aload_n rfl rfl ?_
  refine x_getE (y := 13) rfl rfl rfl (show _ = nI (t + 2) from rfl) ?_
  refine x_sipushN (q := 400) rfl ?_
  refine x_icmpN_ge rfl (fun c14 => ?_) (fun c14 => ?_)
  · exact absurd c14 (by first | decide | omega)
  refine x_aload_n rfl rfl ?_
  refine x_getR (u := .ref _) rfl rfl rfl rfl ?_
  refine x_aload_n rfl rfl ?_
  refine x_getE (y := 13) rfl rfl rfl (show _ = nI (t + 2) from rfl) ?_
  refine x_iload_n rfl rfl ?_
  refine x_iload_n rfl rfl ?_
  refine x_iushr rfl ?_
  refine x_sipush rfl ?_
  refine x_iand rfl ?_
  rw [ush (s := 8) (by omega)]
  refine x_iasN (j := t + 2) rfl rfl (rfl) (by omega) ?_
  refine x_aload_n rfl rfl ?_
  refine x_dup rfl rfl ?_
  refine x_getE (y := 13) rfl rfl rfl (show _ = nI (t + 2) from rfl) ?_
  refine x_iconstN (q := 1) rfl ?_
  refine x_iaddN rfl ?_
  refine x_putI rfl rfl rfl rfl ?_
  refine x_iinc (ls' := [_, _, _]) rfl rfl rfl rfl ?_
  refine x_goto rfl ?_
  rw [show nI 8 + (-8 : Int32) = nI 0 from by decide +kernel]
  refine x_iload_n rfl rfl ?_
  refine x_ifN_lt rfl ?_
  refine x_aload_n rfl rfl ?_
  refine x_getE (y := 13) rfl rfl rfl (show _ = nI (t + 3) from rfl) ?_
  refine x_sipushN (q := 400) rfl ?_
  refine x_icmpN_ge rfl (fun c14 => ?_) (fun c14 => ?_)
  · exact absurd c14 (by first | decide | omega)
  refine x_aload_n rfl rfl ?_
  refine x_getR (u := .ref _) rfl rfl rfl rfl ?_
  refine x_aload_n rfl rfl ?_
  refine x_getE (y := 13) rfl rfl rfl (show _ = nI (t + 3) from rfl) ?_
  refine x_iload_n rfl rfl ?_
  refine x_iload_n rfl rfl ?_
  refine x_iushr rfl ?_
  refine x_sipush rfl ?_
  refine x_iand rfl ?_
  rw [ush (s := 0) (by omega)]
  refine x_iasN (j := t + 3) rfl rfl (rfl) (by omega) ?_
  refine x_aload_n rfl rfl ?_
  refine x_dup rfl rfl ?_
  refine x_getE (y := 13) rfl rfl rfl (show _ = nI (t + 3) from rfl) ?_
  refine x_iconstN (q := 1) rfl ?_
  refine x_iaddN rfl ?_
  refine x_putI rfl rfl rfl rfl ?_
  refine x_iinc (ls' := [_, _, _]) rfl rfl rfl rfl ?_
  refine x_goto rfl ?_
  rw [show nI 0 + (-8 : Int32) = -8 from by decide +kernel]
  rw [← pf_eq] at hP
  refine x_iload_n rfl rfl ?_
  refine x_if_lt rfl (fun c4 => ?_) (fun c4 => ?_)
  rotate_left
  · exact absurd c4 (by first | decide | omega)
  refine x_vret rfl rfl ?_
  exact hP
set_option maxRecDepth 20000 in
theorem x_feed_bad {a b c e f : Int32} (hn : VI 0 13 = nI t) (ht : 380 < t) (ht2 : t ≤ 400) (hP : P (some (.int (-1))) (LY ++ ext) VI VL (vr G)) : Ex (d + 1) mi114 0 (entL [.ref 0, .int a, .int b, .int c, .int e, .int f] 6) [] (LY ++ ext) VI VL (vr G) 0 0 P := by
  refine x_aload_n rfl rfl ?_
  refine x_getE (y := 13) rfl rfl rfl (hn) ?_
  refine x_bipushN (q := 20) rfl ?_
  refine x_iaddN rfl ?_
  refine x_sipushN (q := 400) rfl ?_
  refine x_icmpN_le rfl (fun c10 => ?_) (fun c10 => ?_)
  · exact absurd c10 (by first | decide | omega)
  refine x_iconst rfl ?_
  refine x_iret rfl rfl ?_
  exact hP
set_option maxRecDepth 20000 in
theorem m_feed_bad {a b c e f : Int32} (hn : VI 74 13 = nI t) (ht : 380 < t) (ht2 : t ≤ 400) (hP : P (some (.int (-1))) (LY ++ ext) VI VL (vr G)) : Ex d mi188 0 (entL [.ref 74, .int a, .int b, .int c, .int e, .int f] 7) [] (LY ++ ext) VI VL (vr G) 0 0 P := by
  refine x_aload_n rfl rfl ?_
  refine x_getE (y := 13) rfl rfl rfl (hn) ?_
  refine x_bipushN (q := 20) rfl ?_
  refine x_iaddN rfl ?_
  refine x_sipushN (q := 400) rfl ?_
  refine x_icmpN_le rfl (fun c10 => ?_) (fun c10 => ?_)
  · exact absurd c10 (by first | decide | omega)
  refine x_iconst rfl ?_
  refine x_iret rfl rfl ?_
  exact hP
set_option maxRecDepth 20000 in
theorem x_feed_ok {a b c e f : Int32} (hn : VI 0 13 = nI t) (ht : t ≤ 380) (hP : P (some (.int (nI (t + 20)))) (LY ++ ext) (pf (pf (pf (pf (pf VI t a) (t + 4) b) (t + 8) c) (t + 12) e) (t + 16) f) VL (vr G)) : Ex (d + 1) mi114 0 (entL [.ref 0, .int a, .int b, .int c, .int e, .int f] 6) [] (LY ++ ext) VI VL (vr G) 0 0 P := by
  refine x_aload_n rfl rfl ?_
  refine x_getE (y := 13) rfl rfl rfl (hn) ?_
  refine x_bipushN (q := 20) rfl ?_
  refine x_iaddN rfl ?_
  refine x_sipushN (q := 400) rfl ?_
  refine x_icmpN_le rfl (fun c10 => ?_) (fun c10 => ?_)
  rotate_left
  · exact absurd c10 (by first | decide | omega)
  refine x_aload_n rfl rfl ?_
  refine x_iload_n rfl rfl ?_
  refine x_callV (M' := mi147) (As := [_]) (bc1 := 0) (bs1 := 0) (bc2 := 0) (bs2 := 0) rfl rfl rfl rfl ok147 rfl rfl (by decide) rfl rfl rfl rfl rfl rfl ?_
  refine s_putFour hn (by omega) ?_
  refine x_aload_n rfl rfl ?_
  refine x_iload_n rfl rfl ?_
  refine x_callV (M' := mi147) (As := [_]) (bc1 := 0) (bs1 := 0) (bc2 := 0) (bs2 := 0) rfl rfl rfl rfl ok147 rfl rfl (by decide) rfl rfl rfl rfl rfl rfl ?_
  refine s_putFour (t := t + 4) pf_13 (by omega) ?_
  refine x_aload_n rfl rfl ?_
  refine x_iload_n rfl rfl ?_
  refine x_callV (M' := mi147) (As := [_]) (bc1 := 0) (bs1 := 0) (bc2 := 0) (bs2 := 0) rfl rfl rfl rfl ok147 rfl rfl (by decide) rfl rfl rfl rfl rfl rfl ?_
  refine s_putFour (t := t + 8) pf_13 (by omega) ?_
  refine x_aload_n rfl rfl ?_
  refine x_iload rfl rfl ?_
  refine x_callV (M' := mi147) (As := [_]) (bc1 := 0) (bs1 := 0) (bc2 := 0) (bs2 := 0) rfl rfl rfl rfl ok147 rfl rfl (by decide) rfl rfl rfl rfl rfl rfl ?_
  refine s_putFour (t := t + 12) pf_13 (by omega) ?_
  refine x_aload_n rfl rfl ?_
  refine x_iload rfl rfl ?_
  refine x_callV (M' := mi147) (As := [_]) (bc1 := 0) (bs1 := 0) (bc2 := 0) (bs2 := 0) rfl rfl rfl rfl ok147 rfl rfl (by decide) rfl rfl rfl rfl rfl rfl ?_
  refine s_putFour (t := t + 16) pf_13 (by omega) ?_
  skip
  refine x_aload_n rfl rfl ?_
  refine x_getE (y := 13) rfl rfl rfl (pf_13) ?_
  refine x_iret rfl rfl ?_
  exact hP
set_option maxRecDepth 20000 in
theorem m_feed_loop {a b c e f : Int32} (hn : VI 74 13 = nI t) (ht : t ≤ 380) (hP : P (some (.int (nI (t + 20)))) (LY ++ ext) (up (uw VI 81 (mg (VI 81) t (VI 82) 20)) 74 13 (nI (t + 20))) VL (vr G)) : ∀ (m i : Nat), i + m = 20 → Ex (d + 0) mi188 55 [.ref 74, .int a, .int b, .int c, .int e, .int f, .int (nI i)] [] (LY ++ ext) (uw VI 81 (mg (VI 81) t (VI 82) i)) VL (vr G) 0 0 P := by
  intro m
  induction m with
  | zero =>
    intro i hi
    have e1 : i = 20 := by omega
    subst e1
    refine x_iload rfl rfl ?_
    refine x_bipushN (q := 20) rfl ?_
    refine x_icmpN_ge rfl (fun c59 => ?_) (fun c59 => ?_)
    rotate_left
    · exact absurd c59 (by first | decide | omega)
    refine x_aload_n rfl rfl ?_
    refine x_dup rfl rfl ?_
    refine x_getE (y := 13) rfl rfl rfl (hn) ?_
    refine x_bipushN (q := 20) rfl ?_
    refine x_iaddN rfl ?_
    refine x_putI rfl rfl rfl rfl ?_
    skip
    refine x_aload_n rfl rfl ?_
    refine x_getE (y := 13) rfl rfl rfl (up_at) ?_
    refine x_iret rfl rfl ?_
    exact hP | succ m ih =>
    intro i hi
    refine x_iload rfl rfl ?_
    refine x_bipushN (q := 20) rfl ?_
    refine x_icmpN_ge rfl (fun c59 => ?_) (fun c59 => ?_)
    · exact absurd c59 (by first | decide | omega)
    refine x_aload_n rfl rfl ?_
    refine x_getR (u := .ref _) rfl rfl rfl rfl ?_
    refine x_aload_n rfl rfl ?_
    refine x_getE (y := 13) rfl rfl rfl (hn) ?_
    refine x_iload rfl rfl ?_
    refine x_iaddN rfl ?_
    refine x_aload_n rfl rfl ?_
    refine x_getR (u := .ref _) rfl rfl rfl rfl ?_
    refine x_iload rfl rfl ?_
    refine x_iconstN (q := 4) rfl ?_
    refine x_idivN rfl ?_
    refine x_ialN (j := i / 4) rfl rfl (rfl) (by omega) ?_
    refine x_bipushN (q := 24) rfl ?_
    refine x_bipushN (q := 8) rfl ?_
    refine x_iload rfl rfl ?_
    refine x_iconstN (q := 4) rfl ?_
    refine x_iremN rfl ?_
    refine x_imulN rfl ?_
    refine x_isubN rfl ?_
    refine x_ishr rfl ?_
    refine x_i2b rfl ?_
    refine x_basN (j := t + i) rfl rfl (rfl) (by omega) ?_
    refine x_iincN (q := 1) (ls' := [_, _, _, _, _, _, _]) rfl rfl rfl rfl ?_
    refine x_goto rfl ?_
    rw [uw_ne (show (82 : Nat) ≠ 81 by decide), mg_step (xs := VI 82) (sbb (by omega))]
    exact ih (i + 1) (by omega)
set_option maxRecDepth 20000 in
theorem m_feed_ok {a b c e f : Int32} (hn : VI 74 13 = nI t) (ht : t ≤ 380) (hP : P (some (.int (nI (t + 20)))) (LY ++ ext) (up (uw (up (up (up (up (up VI 82 0 a) 82 1 b) 82 2 c) 82 3 e) 82 4 f) 81 (mg (VI 81) t (up (up (up (up (up VI 82 0 a) 82 1 b) 82 2 c) 82 3 e) 82 4 f 82) 20)) 74 13 (nI (t + 20))) VL (vr G)) : Ex d mi188 0 (entL [.ref 74, .int a, .int b, .int c, .int e, .int f] 7) [] (LY ++ ext) VI VL (vr G) 0 0 P := by
  have hl := m_feed_loop (d := d) (VL := VL) (G := G) (P := P) (ext := ext) (VI := up (up (up (up (up VI 82 0 a) 82 1 b) 82 2 c) 82 3 e) 82 4 f) (t := t) (a := a) (b := b) (c := c) (e := e) (f := f) hn ht hP 20 0 (by omega)
  have e0 : uw (up (up (up (up (up VI 82 0 a) 82 1 b) 82 2 c) 82 3 e) 82 4 f) 81 (mg (up (up (up (up (up VI 82 0 a) 82 1 b) 82 2 c) 82 3 e) 82 4 f 81) t (up (up (up (up (up VI 82 0 a) 82 1 b) 82 2 c) 82 3 e) 82 4 f 82) 0) = up (up (up (up (up VI 82 0 a) 82 1 b) 82 2 c) 82 3 e) 82 4 f := by
    refine uw_id ?_
    funext i
    unfold mg
    rw [if_neg (by omega)]
  rw [e0] at hl
  refine x_aload_n rfl rfl ?_
  refine x_getE (y := 13) rfl rfl rfl (hn) ?_
  refine x_bipushN (q := 20) rfl ?_
  refine x_iaddN rfl ?_
  refine x_sipushN (q := 400) rfl ?_
  refine x_icmpN_le rfl (fun c10 => ?_) (fun c10 => ?_)
  rotate_left
  · exact absurd c10 (by first | decide | omega)
  refine x_aload_n rfl rfl ?_
  refine x_getR (u := .ref _) rfl rfl rfl rfl ?_
  refine x_iconstN (q := 0) rfl ?_
  refine x_iload_n rfl rfl ?_
  refine x_iasN (j := 0) rfl rfl (rfl) (by omega) ?_
  refine x_aload_n rfl rfl ?_
  refine x_getR (u := .ref _) rfl rfl rfl rfl ?_
  refine x_iconstN (q := 1) rfl ?_
  refine x_iload_n rfl rfl ?_
  refine x_iasN (j := 1) rfl rfl (rfl) (by omega) ?_
  refine x_aload_n rfl rfl ?_
  refine x_getR (u := .ref _) rfl rfl rfl rfl ?_
  refine x_iconstN (q := 2) rfl ?_
  refine x_iload_n rfl rfl ?_
  refine x_iasN (j := 2) rfl rfl (rfl) (by omega) ?_
  refine x_aload_n rfl rfl ?_
  refine x_getR (u := .ref _) rfl rfl rfl rfl ?_
  refine x_iconstN (q := 3) rfl ?_
  refine x_iload rfl rfl ?_
  refine x_iasN (j := 3) rfl rfl (rfl) (by omega) ?_
  refine x_aload_n rfl rfl ?_
  refine x_getR (u := .ref _) rfl rfl rfl rfl ?_
  refine x_iconstN (q := 4) rfl ?_
  refine x_iload rfl rfl ?_
  refine x_iasN (j := 4) rfl rfl (rfl) (by omega) ?_
  refine x_iconstN (q := 0) rfl ?_
  refine x_istore (ls' := [_, _, _, _, _, _, _]) rfl rfl rfl ?_
  exact hl
end Feed
section Join5
variable {j : Nat} {lay : HL} {VI : VIT} {VL : VLT} {VR : VRT}
set_option maxRecDepth 20000 in
theorem j_feed {a b c d e : Int32} (h : Inv j lay VI VL VR) : Pr 100 mi114 mi188 [.int a, .int b, .int c, .int d, .int e] lay VI VL VR (Inv (j + 1)) := by
  obtain ⟨ext, G, K, tn, T, u, US, lg, rfl, rfl, hS⟩ := h
  have hT := hS.2.2.2.2.1
  have ht4 := hT.1
  by_cases hb : 380 < tn
  · exact Pr_read (-1) (fun P z => x_feed_bad hT.2.1 hb hT.1 z) (fun P z => m_feed_bad hT.2.2.1 hb hT.1 z) hS.next.inv
  · have hx : ∀ i, i < 5 → (up (up (up (up (up (pf (pf (pf (pf (pf VI tn a) (tn + 4) b) (tn + 8) c) (tn + 12) d) (tn + 16) e) 82 0 a) 82 1 b) 82 2 c) 82 3 d) 82 4 e) 82 i = [a, b, c, d, e].getD i 0 := by
      intro i hi
      match i, hi with
      | 0, _ => rfl
      | 1, _ => rfl
      | 2, _ => rfl
      | 3, _ => rfl
      | 4, _ => rfl
      | n + 5, h => exact absurd h (by omega)
    refine ExS.budget (bc := 0) (bs := 0) (x_feed_ok hT.2.1 (by omega) ⟨_, ext, rfl, rfl, m_feed_ok (t := tn) hT.2.2.1 (by omega) ⟨rfl, St.inv (hS.tape (tn' := tn + 20) (T' := fun k => if k < tn then T k else byt ([a, b, c, d, e].getD ((k - tn) / 4) 0) (24 - 8 * ((k - tn) % 4))) ?_ ?_)⟩⟩) (by omega) (by omega)
    · intro b' k hw
      have g0 : ¬ (b' = 0 ∧ k = 13) := by rintro ⟨rfl, rfl⟩; exact absurd hw (by decide)
      have g1 : ¬ (b' = 74 ∧ k = 13) := by rintro ⟨rfl, rfl⟩; exact absurd hw (by decide)
      have g2 : b' ≠ 72 := by rintro rfl; cases hw
      have g3 : b' ≠ 81 := by rintro rfl; cases hw
      have g4 : b' ≠ 82 := by rintro rfl; cases hw
      have e1 : ∀ V : VIT, up V 74 13 (nI (tn + 20)) b' k = V b' k := fun V => by
        by_cases z : b' = 74
        · subst z; exact up_at' (fun y => g1 ⟨rfl, y⟩)
        · rw [up_ne z]
      rw [e1, uw_ne g3, up_ne g4, up_ne g4, up_ne g4, up_ne g4, up_ne g4, pf_ne g2 g0, pf_ne g2 g0, pf_ne g2 g0, pf_ne g2 g0, pf_ne g2 g0]
    · refine ⟨by omega, rfl, rfl, fun k hk => ?_⟩
      by_cases c1 : k < tn
      · obtain ⟨q1, q2, q3⟩ := hT.2.2.2 k c1
        simp only [if_pos c1]
        refine ⟨q1, ?_, ?_⟩
        · show put4 (put4 (put4 (put4 (put4 (VI 72) tn a) (tn + 4) b) (tn + 8) c) (tn + 12) d) (tn + 16) e k = _
          unfold put4
          rw [if_neg (by omega), if_neg (by omega), if_neg (by omega), if_neg (by omega), if_neg (by omega)]
          exact q2
        · show mg (VI 81) tn _ 20 k = _
          unfold mg
          rw [if_neg (by omega)]
          exact q3
      · simp only [if_neg c1]
        refine ⟨byt_lt _ _, ?_, ?_⟩
        · show put4 (put4 (put4 (put4 (put4 (VI 72) tn a) (tn + 4) b) (tn + 8) c) (tn + 12) d) (tn + 16) e k = _
          unfold put4
          rcases (show (k - tn) / 4 = 0 ∨ (k - tn) / 4 = 1 ∨ (k - tn) / 4 = 2 ∨ (k - tn) / 4 = 3 ∨ (k - tn) / 4 = 4 by omega) with z | z | z | z | z
          · rw [z, if_neg (by omega), if_neg (by omega), if_neg (by omega), if_neg (by omega), if_pos (by omega)]; rfl
          · rw [z, if_neg (by omega), if_neg (by omega), if_neg (by omega), if_pos (by omega), show (k - (tn + 4)) % 4 = (k - tn) % 4 by omega]; rfl
          · rw [z, if_neg (by omega), if_neg (by omega), if_pos (by omega), show (k - (tn + 8)) % 4 = (k - tn) % 4 by omega]; rfl
          · rw [z, if_neg (by omega), if_pos (by omega), show (k - (tn + 12)) % 4 = (k - tn) % 4 by omega]; rfl
          · rw [z, if_pos (by omega), show (k - (tn + 16)) % 4 = (k - tn) % 4 by omega]; rfl
        · show mg (VI 81) tn _ 20 k = _
          unfold mg
          rw [if_pos (by omega), hx _ (by omega)]
end Join5
