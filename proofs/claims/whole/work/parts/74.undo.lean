/-! ===== undo ===== -/
set_option maxRecDepth 20000 in
theorem RW.mark1 {K : KT} {V : VIT} {p q x : Nat} (h : RW 3 K V) (hW : WF K) (hp : p < K 93) (hq : q < 4) : RW 3 (ku K (4 * p + q) x) (up V 6 (p * 4 + q) (nI x)) := by
  have h6 := hW.n
  have h8 : K 94 ≤ 8 := hW.2.1
  have h95 : K 95 ≤ 8 := hW.2.2.1
  obtain ⟨w1, w2, w3, w4, w5, w6, w7, w8, w9, w10, w11, w12⟩ := h
  have e : ∀ i, 24 ≤ i → ku K (4 * p + q) x i = K i := fun i hi => ku_ne (by omega)
  have hlm : lmK (ku K (4 * p + q) x) = lmK K := by
    show mskN (fun r => ku K (4 * p + q) x (24 + r)) (ku K (4 * p + q) x 93) = _
    rw [e 93 (by omega), mskN_congr (g := fun r => K (24 + r)) (fun r hr => e _ (by omega))]
  have hdm : dmK (ku K (4 * p + q) x) = dmK K := by
    show mskN (fun r => ku K (4 * p + q) x (30 + r)) (ku K (4 * p + q) x 94) = _
    rw [e 94 (by omega), mskN_congr (g := fun r => K (30 + r)) (fun r hr => e _ (by omega))]
  unfold RW
  rw [hlm, hdm, e 93 (by omega), e 94 (by omega), e 95 (by omega), e 96 (by omega), e 97 (by omega), e 38 (by omega), e 91 (by omega), e 92 (by omega)]
  refine ⟨w1, w2, w3, w4, w5, w6, w7, fun p' hp' => ?_, fun p' q' hp' hq' => ?_, fun r hr => ?_, fun k hk => ?_, w12⟩
  · rw [e _ (by omega), e _ (by omega)]; exact w8 p' hp'
  · show (if p' * 4 + q' = p * 4 + q then nI x else V 6 (p' * 4 + q')) = _
    by_cases c : p' * 4 + q' = p * 4 + q
    · rw [if_pos c, show 4 * p' + q' = 4 * p + q by omega, ku_same]
    · rw [if_neg c, ku_ne (by omega)]; exact w9 p' q' hp' hq'
  · rw [e _ (by omega), e _ (by omega)]; exact w10 r hr
  · rw [e _ (by omega), e _ (by omega), e _ (by omega)]; exact w11 k hk
set_option maxRecDepth 20000 in
theorem WF.mark1 {K : KT} {p q x : Nat} (h : WF K) (hp : p < K 93) (hq : q < 4) (hx : x < 4) : WF (ku K (4 * p + q) x) := by
  have h6 := h.n
  obtain ⟨w1, w2, w3, w4, w5, w6, w7, w8, w9, w10, w11, w12⟩ := h
  have e : ∀ i, 24 ≤ i → ku K (4 * p + q) x i = K i := fun i hi => ku_ne (by omega)
  unfold WF
  rw [e 93 (by omega), e 94 (by omega), e 95 (by omega), e 96 (by omega), e 97 (by omega), e 38 (by omega), e 91 (by omega), e 92 (by omega)]
  refine ⟨w1, w2, w3, w4, w5, w6, w7, w8, fun p' hp' => ?_, fun p' q' hp' hq' => ?_, fun r hr => ?_, fun k hk => ?_⟩
  · rw [e _ (by omega), e _ (by omega), e _ (by omega)]; exact w9 p' hp'
  · unfold ku
    split
    · exact hx
    · exact w10 p' q' hp' hq'
  · rw [e _ (by omega), e _ (by omega), e _ (by omega)]; exact w11 r hr
  · rw [e _ (by omega), e _ (by omega), e _ (by omega)]; exact w12 k hk
-- the row with its moving part from B
def mvK (K B : KT) : KT := fun i => if i < 39 then B i else K i
set_option maxRecDepth 20000 in
theorem cp0_step {V : VIT} {a : Nat} {g f : Nat → Int32} {n : Nat} {x : Int32} (hx : x = f n) : up (uw V a (cp g 0 f n)) a n x = uw V a (cp g 0 f (n + 1)) := by
  have := cp_step (V := V) (a := a) (g := g) (f := f) (t := 0) (n := n) hx
  rw [Nat.zero_add] at this
  exact this
section Undo
variable {d : Nat} {VI : VIT} {VL : VLT} {G : VRT} {P : Post} {ext : HL} {K : KT} {u g : Nat}
set_option maxRecDepth 20000 in
theorem s_setMark {n p q x : Nat} (hn : VI 3 0 = nI n) (hp : p < n) (hn6 : n ≤ 6) (hq : q < 4) (hP : P none (LY ++ ext) (up VI 6 (p * 4 + q) (nI x)) VL (vr G)) : Ex (d + 1) mi102 0 (entL [.ref 3, .int (nI p), .int (nI q), .int (nI x)] 4) [] (LY ++ ext) VI VL (vr G) 0 0 P := by
  refine x_aload_n rfl rfl ?_
  refine x_iload_n rfl rfl ?_
  refine x_callV (M' := mi95) (As := [_]) (bc1 := 0) (bs1 := 0) (bc2 := 0) (bs2 := 0) rfl rfl rfl rfl ok95 rfl rfl (by decide) rfl rfl rfl rfl rfl rfl ?_
  refine s_hasPerson_in hn hp hn6 ?_
  refine x_if_eq rfl (fun c5 => ?_) (fun c5 => ?_)
  · exact absurd c5 (by first | decide | omega)
  refine x_iload_n rfl rfl ?_
  refine x_callN (M' := mi150) (As := [_]) (bc1 := 0) (bs1 := 0) (bc2 := 0) (bs2 := 0) rfl rfl rfl rfl ok150 rfl rfl rfl rfl rfl rfl ?_
  refine s_isDay_in hq ?_
  refine x_if_eq rfl (fun c12 => ?_) (fun c12 => ?_)
  · exact absurd c12 (by first | decide | omega)
  refine x_aload_n rfl rfl ?_
  refine x_getR (u := .ref _) rfl rfl rfl rfl ?_
  refine x_iload_n rfl rfl ?_
  refine x_iconstN (q := 4) rfl ?_
  refine x_imulN rfl ?_
  refine x_iload_n rfl rfl ?_
  refine x_iaddN rfl ?_
  refine x_iload_n rfl rfl ?_
  refine x_iasN (j := p * 4 + q) rfl rfl (rfl) (by omega) ?_
  refine x_vret rfl rfl ?_
  exact hP
set_option maxRecDepth 20000 in
theorem s_undo_no (hu : VI 45 2 = nI 0) (hP : P (some (.int (-3))) (LY ++ ext) VI VL (vr G)) : Ex (d + 2) mi5 0 (entL [.ref 45] 4) [] (LY ++ ext) VI VL (vr G) 0 0 P := by
  refine x_aload_n rfl rfl ?_
  refine x_getE (y := 2) rfl rfl rfl (hu) ?_
  refine x_ifN_le rfl (fun c4 => ?_) (fun c4 => ?_)
  rotate_left
  · exact absurd c4 (by first | decide | omega)
  refine x_bipush rfl ?_
  refine x_iret rfl rfl ?_
  exact hP
set_option maxRecDepth 20000 in
theorem s_undo_talk {n dy p q m : Nat} (hu : VI 45 2 = nI u) (hu0 : 0 < u) (hu16 : u ≤ 16) (hl : VI 46 (u - 1) = nI g) (hg : g < 65536) (hn : VI 3 0 = nI n) (hn6 : n ≤ 6) (h4 : g % 4 = 0) (hdy : dy < 4) (hp : p < n) (hq : q < n) (hm : m < 16) (he : g / 4 = ((dy * 8 + p) * 8 + q) * 16 + m) (hP : P (some (.int (nI 0))) (LY ++ ext) (up (up (up VI 45 2 (nI (u - 1))) 6 (p * 4 + dy) (nI (m / 4))) 6 (q * 4 + dy) (nI (m % 4))) VL (vr G)) : Ex (d + 2) mi5 0 (entL [.ref 45] 4) [] (LY ++ ext) VI VL (vr G) 0 0 P := by
  refine x_aload_n rfl rfl ?_
  refine x_getE (y := 2) rfl rfl rfl (hu) ?_
  refine x_ifN_le rfl (fun c4 => ?_) (fun c4 => ?_)
  · exact absurd c4 (by first | decide | omega)
  refine x_aload_n rfl rfl ?_
  refine x_getE (y := 2) rfl rfl rfl (hu) ?_
  refine x_bipushN (q := 16) rfl ?_
  refine x_icmpN_le rfl (fun c13 => ?_) (fun c13 => ?_)
  rotate_left
  · exact absurd c13 (by first | decide | omega)
  refine x_aload_n rfl rfl ?_
  refine x_dup rfl rfl ?_
  refine x_getE (y := 2) rfl rfl rfl (hu) ?_
  refine x_iconstN (q := 1) rfl ?_
  refine x_isubN rfl ?_
  refine x_putI rfl rfl rfl rfl ?_
  skip
  refine x_aload_n rfl rfl ?_
  refine x_getR (u := .ref _) rfl rfl rfl rfl ?_
  refine x_aload_n rfl rfl ?_
  refine x_getE (y := 2) rfl rfl rfl (show _ = nI (u - 1) from rfl) ?_
  refine x_ialE (j := u - 1) rfl rfl (rfl) (by omega) (hl) ?_
  refine x_iconstN (q := 4) rfl ?_
  refine x_iremN rfl ?_
  refine x_istore_n (ls' := [_, _, _, _]) rfl rfl rfl ?_
  refine x_aload_n rfl rfl ?_
  refine x_getR (u := .ref _) rfl rfl rfl rfl ?_
  refine x_aload_n rfl rfl ?_
  refine x_getE (y := 2) rfl rfl rfl (show _ = nI (u - 1) from rfl) ?_
  refine x_ialE (j := u - 1) rfl rfl (rfl) (by omega) (hl) ?_
  refine x_iconstN (q := 4) rfl ?_
  refine x_idivN rfl ?_
  refine x_istore_n (ls' := [_, _, _, _]) rfl rfl rfl ?_
  skip
  have e1 : g / 4 / 2 ^ 10 % 4 = dy := by omega
  have e2 : g / 4 / 2 ^ 7 % 8 = p := by omega
  have e3 : g / 4 / 2 ^ 2 % 4 = m / 4 := by omega
  have e4 : g / 4 / 2 ^ 4 % 8 = q := by omega
  have e5 : g / 4 % 4 = m % 4 := by omega
  rw [h4]
  refine x_iload_n rfl rfl ?_
  refine x_ifN_ne rfl (fun c54 => ?_) (fun c54 => ?_)
  · exact absurd c54 (by first | decide | omega)
  refine x_iload_n rfl rfl ?_
  refine x_bipushN (q := 10) rfl ?_
  refine x_ishrN rfl ?_
  refine x_iconstN (q := 3) rfl ?_
  refine x_iandM3 rfl ?_
  rw [e1]
  refine x_istore_n (ls' := [_, _, _, _]) rfl rfl rfl ?_
  refine x_aload_n rfl rfl ?_
  refine x_getR (u := .ref _) rfl rfl rfl rfl ?_
  refine x_iload_n rfl rfl ?_
  refine x_bipushN (q := 7) rfl ?_
  refine x_ishrN rfl ?_
  refine x_bipushN (q := 7) rfl ?_
  refine x_iandM7 rfl ?_
  rw [e2]
  refine x_iload_n rfl rfl ?_
  refine x_iload_n rfl rfl ?_
  refine x_iconstN (q := 2) rfl ?_
  refine x_ishrN rfl ?_
  refine x_iconstN (q := 3) rfl ?_
  refine x_iandM3 rfl ?_
  rw [e3]
  refine x_callV (M' := mi102) (As := [_, _, _]) (bc1 := 0) (bs1 := 0) (bc2 := 0) (bs2 := 0) rfl rfl rfl rfl ok102 rfl rfl (by decide) rfl rfl rfl rfl rfl rfl ?_
  refine s_setMark hn hp hn6 hdy ?_
  refine x_aload_n rfl rfl ?_
  refine x_getR (u := .ref _) rfl rfl rfl rfl ?_
  refine x_iload_n rfl rfl ?_
  refine x_iconstN (q := 4) rfl ?_
  refine x_ishrN rfl ?_
  refine x_bipushN (q := 7) rfl ?_
  refine x_iandM7 rfl ?_
  rw [e4]
  refine x_iload_n rfl rfl ?_
  refine x_iload_n rfl rfl ?_
  refine x_iconstN (q := 3) rfl ?_
  refine x_iandM3 rfl ?_
  rw [e5]
  refine x_callV (M' := mi102) (As := [_, _, _]) (bc1 := 0) (bs1 := 0) (bc2 := 0) (bs2 := 0) rfl rfl rfl rfl ok102 rfl rfl (by decide) rfl rfl rfl rfl rfl rfl ?_
  refine s_setMark hn hq hn6 hdy ?_
  refine x_goto rfl ?_
  refine x_iload_n rfl rfl ?_
  refine x_iret rfl rfl ?_
  exact hP
set_option maxRecDepth 20000 in
theorem s_undo_develop {dm r : Nat} (hu : VI 45 2 = nI u) (hu0 : 0 < u) (hu16 : u ≤ 16) (hl : VI 46 (u - 1) = nI g) (hg : g < 65536) (h4 : g % 4 = 1) (hr : g / 4 = r) (hr8 : r < 8) (hdm : VI 3 6 = nI dm) (hP : P (some (.int (nI 1))) (LY ++ ext) (up (up VI 45 2 (nI (u - 1))) 3 6 (nI (dm &&& (1 * 2 ^ r ^^^ 4294967295)))) VL (vr G)) : Ex (d + 2) mi5 0 (entL [.ref 45] 4) [] (LY ++ ext) VI VL (vr G) 0 0 P := by
  refine x_aload_n rfl rfl ?_
  refine x_getE (y := 2) rfl rfl rfl (hu) ?_
  refine x_ifN_le rfl (fun c4 => ?_) (fun c4 => ?_)
  · exact absurd c4 (by first | decide | omega)
  refine x_aload_n rfl rfl ?_
  refine x_getE (y := 2) rfl rfl rfl (hu) ?_
  refine x_bipushN (q := 16) rfl ?_
  refine x_icmpN_le rfl (fun c13 => ?_) (fun c13 => ?_)
  rotate_left
  · exact absurd c13 (by first | decide | omega)
  refine x_aload_n rfl rfl ?_
  refine x_dup rfl rfl ?_
  refine x_getE (y := 2) rfl rfl rfl (hu) ?_
  refine x_iconstN (q := 1) rfl ?_
  refine x_isubN rfl ?_
  refine x_putI rfl rfl rfl rfl ?_
  skip
  refine x_aload_n rfl rfl ?_
  refine x_getR (u := .ref _) rfl rfl rfl rfl ?_
  refine x_aload_n rfl rfl ?_
  refine x_getE (y := 2) rfl rfl rfl (show _ = nI (u - 1) from rfl) ?_
  refine x_ialE (j := u - 1) rfl rfl (rfl) (by omega) (hl) ?_
  refine x_iconstN (q := 4) rfl ?_
  refine x_iremN rfl ?_
  refine x_istore_n (ls' := [_, _, _, _]) rfl rfl rfl ?_
  refine x_aload_n rfl rfl ?_
  refine x_getR (u := .ref _) rfl rfl rfl rfl ?_
  refine x_aload_n rfl rfl ?_
  refine x_getE (y := 2) rfl rfl rfl (show _ = nI (u - 1) from rfl) ?_
  refine x_ialE (j := u - 1) rfl rfl (rfl) (by omega) (hl) ?_
  refine x_iconstN (q := 4) rfl ?_
  refine x_idivN rfl ?_
  refine x_istore_n (ls' := [_, _, _, _]) rfl rfl rfl ?_
  skip
  have hp2 := pow8 (show r ≤ 8 by omega)
  have eI : nI dm &&& (nI (1 * 2 ^ r) ^^^ (-1)) = nI (dm &&& (1 * 2 ^ r ^^^ 4294967295)) := by
    rw [show (-1 : Int32) = nI 4294967295 from rfl, nb_xor, nb_and]
  rw [h4, hr]
  refine x_iload_n rfl rfl ?_
  refine x_ifN_ne rfl (fun c54 => ?_) (fun c54 => ?_)
  rotate_left
  · exact absurd c54 (by first | decide | omega)
  refine x_iload_n rfl rfl ?_
  refine x_iconstN (q := 1) rfl ?_
  refine x_icmpN_ne rfl (fun c106 => ?_) (fun c106 => ?_)
  · exact absurd c106 (by first | decide | omega)
  refine x_aload_n rfl rfl ?_
  refine x_getR (u := .ref _) rfl rfl rfl rfl ?_
  refine x_dup rfl rfl ?_
  refine x_getE (y := 6) rfl rfl rfl (hdm) ?_
  refine x_iconstN (q := 1) rfl ?_
  refine x_iload_n rfl rfl ?_
  refine x_ishlN rfl ?_
  refine x_iconst rfl ?_
  refine x_ixor rfl ?_
  refine x_iand rfl ?_
  rw [eI]
  refine x_putI rfl rfl rfl rfl ?_
  refine x_goto rfl ?_
  refine x_iload_n rfl rfl ?_
  refine x_iret rfl rfl ?_
  exact hP
set_option maxRecDepth 20000 in
theorem s_undo_bury {lm r : Nat} (hu : VI 45 2 = nI u) (hu0 : 0 < u) (hu16 : u ≤ 16) (hl : VI 46 (u - 1) = nI g) (hg : g < 65536) (h4 : g % 4 = 2) (hr : g / 4 = r) (hr8 : r < 6) (hlm : VI 3 1 = nI lm) (hP : P (some (.int (nI 2))) (LY ++ ext) (up (up VI 45 2 (nI (u - 1))) 3 1 (nI (lm ||| 1 * 2 ^ r))) VL (vr G)) : Ex (d + 2) mi5 0 (entL [.ref 45] 4) [] (LY ++ ext) VI VL (vr G) 0 0 P := by
  refine x_aload_n rfl rfl ?_
  refine x_getE (y := 2) rfl rfl rfl (hu) ?_
  refine x_ifN_le rfl (fun c4 => ?_) (fun c4 => ?_)
  · exact absurd c4 (by first | decide | omega)
  refine x_aload_n rfl rfl ?_
  refine x_getE (y := 2) rfl rfl rfl (hu) ?_
  refine x_bipushN (q := 16) rfl ?_
  refine x_icmpN_le rfl (fun c13 => ?_) (fun c13 => ?_)
  rotate_left
  · exact absurd c13 (by first | decide | omega)
  refine x_aload_n rfl rfl ?_
  refine x_dup rfl rfl ?_
  refine x_getE (y := 2) rfl rfl rfl (hu) ?_
  refine x_iconstN (q := 1) rfl ?_
  refine x_isubN rfl ?_
  refine x_putI rfl rfl rfl rfl ?_
  skip
  refine x_aload_n rfl rfl ?_
  refine x_getR (u := .ref _) rfl rfl rfl rfl ?_
  refine x_aload_n rfl rfl ?_
  refine x_getE (y := 2) rfl rfl rfl (show _ = nI (u - 1) from rfl) ?_
  refine x_ialE (j := u - 1) rfl rfl (rfl) (by omega) (hl) ?_
  refine x_iconstN (q := 4) rfl ?_
  refine x_iremN rfl ?_
  refine x_istore_n (ls' := [_, _, _, _]) rfl rfl rfl ?_
  refine x_aload_n rfl rfl ?_
  refine x_getR (u := .ref _) rfl rfl rfl rfl ?_
  refine x_aload_n rfl rfl ?_
  refine x_getE (y := 2) rfl rfl rfl (show _ = nI (u - 1) from rfl) ?_
  refine x_ialE (j := u - 1) rfl rfl (rfl) (by omega) (hl) ?_
  refine x_iconstN (q := 4) rfl ?_
  refine x_idivN rfl ?_
  refine x_istore_n (ls' := [_, _, _, _]) rfl rfl rfl ?_
  skip
  have hp2 := pow6 (show r ≤ 6 by omega)
  rw [h4, hr]
  refine x_iload_n rfl rfl ?_
  refine x_ifN_ne rfl (fun c54 => ?_) (fun c54 => ?_)
  rotate_left
  · exact absurd c54 (by first | decide | omega)
  refine x_iload_n rfl rfl ?_
  refine x_iconstN (q := 1) rfl ?_
  refine x_icmpN_ne rfl (fun c106 => ?_) (fun c106 => ?_)
  rotate_left
  · exact absurd c106 (by first | decide | omega)
  refine x_iload_n rfl rfl ?_
  refine x_iconstN (q := 2) rfl ?_
  refine x_icmpN_ne rfl (fun c131 => ?_) (fun c131 => ?_)
  · exact absurd c131 (by first | decide | omega)
  refine x_aload_n rfl rfl ?_
  refine x_getR (u := .ref _) rfl rfl rfl rfl ?_
  refine x_dup rfl rfl ?_
  refine x_getE (y := 1) rfl rfl rfl (hlm) ?_
  refine x_iconstN (q := 1) rfl ?_
  refine x_iload_n rfl rfl ?_
  refine x_ishlN rfl ?_
  refine x_iorN rfl ?_
  refine x_putI rfl rfl rfl rfl ?_
  refine x_goto rfl ?_
  refine x_iload_n rfl rfl ?_
  refine x_iret rfl rfl ?_
  exact hP
set_option maxRecDepth 20000 in
theorem s_undo_pass {w : Nat} (hu : VI 45 2 = nI u) (hu0 : 0 < u) (hu16 : u ≤ 16) (hl : VI 46 (u - 1) = nI g) (hg : g < 65536) (h4 : g % 4 = 3) (hw : VI 12 0 = nI (w + 1)) (hP : P (some (.int (nI 3))) (LY ++ ext) (up (up VI 45 2 (nI (u - 1))) 12 0 (nI w)) VL (vr G)) : Ex (d + 2) mi5 0 (entL [.ref 45] 4) [] (LY ++ ext) VI VL (vr G) 0 0 P := by
  refine x_aload_n rfl rfl ?_
  refine x_getE (y := 2) rfl rfl rfl (hu) ?_
  refine x_ifN_le rfl (fun c4 => ?_) (fun c4 => ?_)
  · exact absurd c4 (by first | decide | omega)
  refine x_aload_n rfl rfl ?_
  refine x_getE (y := 2) rfl rfl rfl (hu) ?_
  refine x_bipushN (q := 16) rfl ?_
  refine x_icmpN_le rfl (fun c13 => ?_) (fun c13 => ?_)
  rotate_left
  · exact absurd c13 (by first | decide | omega)
  refine x_aload_n rfl rfl ?_
  refine x_dup rfl rfl ?_
  refine x_getE (y := 2) rfl rfl rfl (hu) ?_
  refine x_iconstN (q := 1) rfl ?_
  refine x_isubN rfl ?_
  refine x_putI rfl rfl rfl rfl ?_
  skip
  refine x_aload_n rfl rfl ?_
  refine x_getR (u := .ref _) rfl rfl rfl rfl ?_
  refine x_aload_n rfl rfl ?_
  refine x_getE (y := 2) rfl rfl rfl (show _ = nI (u - 1) from rfl) ?_
  refine x_ialE (j := u - 1) rfl rfl (rfl) (by omega) (hl) ?_
  refine x_iconstN (q := 4) rfl ?_
  refine x_iremN rfl ?_
  refine x_istore_n (ls' := [_, _, _, _]) rfl rfl rfl ?_
  refine x_aload_n rfl rfl ?_
  refine x_getR (u := .ref _) rfl rfl rfl rfl ?_
  refine x_aload_n rfl rfl ?_
  refine x_getE (y := 2) rfl rfl rfl (show _ = nI (u - 1) from rfl) ?_
  refine x_ialE (j := u - 1) rfl rfl (rfl) (by omega) (hl) ?_
  refine x_iconstN (q := 4) rfl ?_
  refine x_idivN rfl ?_
  refine x_istore_n (ls' := [_, _, _, _]) rfl rfl rfl ?_
  skip
  rw [h4]
  refine x_iload_n rfl rfl ?_
  refine x_ifN_ne rfl (fun c54 => ?_) (fun c54 => ?_)
  rotate_left
  · exact absurd c54 (by first | decide | omega)
  refine x_iload_n rfl rfl ?_
  refine x_iconstN (q := 1) rfl ?_
  refine x_icmpN_ne rfl (fun c106 => ?_) (fun c106 => ?_)
  rotate_left
  · exact absurd c106 (by first | decide | omega)
  refine x_iload_n rfl rfl ?_
  refine x_iconstN (q := 2) rfl ?_
  refine x_icmpN_ne rfl (fun c131 => ?_) (fun c131 => ?_)
  rotate_left
  · exact absurd c131 (by first | decide | omega)
  refine x_aload_n rfl rfl ?_
  refine x_getR (u := .ref _) rfl rfl rfl rfl ?_
  refine x_getR (u := .ref _) rfl rfl rfl rfl ?_
  refine x_iconstN (q := 0) rfl ?_
  refine x_dup2 rfl rfl rfl ?_
  refine x_ialE (j := 0) rfl rfl (rfl) (by omega) (hw) ?_
  refine x_iconstN (q := 1) rfl ?_
  refine x_isubN rfl ?_
  rw [Nat.add_sub_cancel]
  refine x_iasN (j := 0) rfl rfl (rfl) (by omega) ?_
  refine x_iload_n rfl rfl ?_
  refine x_iret rfl rfl ?_
  exact hP
set_option maxRecDepth 20000 in
theorem m_undo_no (hu : VI 74 32 = nI 0) (hP : P (some (.int (-3))) (LY ++ ext) (up (up VI 74 0 (-3)) 75 3 (VI 75 3 + 1)) VL (vr G)) : Ex (d + 1) mi236 0 (entL [.ref 74] 3) [] (LY ++ ext) VI VL (vr G) 0 0 P := by
  refine x_aload_n rfl rfl ?_
  refine x_getE (y := 32) rfl rfl rfl (hu) ?_
  refine x_ifN_ne rfl (fun c4 => ?_) (fun c4 => ?_)
  · exact absurd c4 (by first | decide | omega)
  refine x_aload_n rfl rfl ?_
  refine x_bipush rfl ?_
  refine x_callV (M' := mi154) (As := [_]) (bc1 := 0) (bs1 := 0) (bc2 := 0) (bs2 := 0) rfl rfl rfl rfl ok154 rfl rfl (by decide) rfl rfl rfl rfl rfl rfl ?_
  refine m_refuses 3 rfl (by decide) ?_
  refine x_iret rfl rfl ?_
  exact hP
set_option maxRecDepth 20000 in
theorem m_undo_loop {t z : Nat} (ht : t + 39 < 640) (hz : VI 88 (t + 39) = nI z) (hP : P (some (.int (nI z))) (LY ++ ext) (up (uw VI 76 (cp (VI 76) 0 (fun k => VI 88 (t + k)) 39)) 74 0 0) VL (vr G)) : ∀ (m i : Nat), i + m = 39 → Ex (d + 1) mi236 34 [.ref 74, .int (nI t), .int (nI i)] [] (LY ++ ext) (uw VI 76 (cp (VI 76) 0 (fun k => VI 88 (t + k)) i)) VL (vr G) 0 0 P := by
  intro m
  induction m with
  | zero =>
    intro i hi
    have e : i = 39 := by omega
    subst e
    refine x_iload_n rfl rfl ?_
    refine x_bipushN (q := 39) rfl ?_
    refine x_icmpN_ge rfl (fun c37 => ?_) (fun c37 => ?_)
    rotate_left
    · exact absurd c37 (by first | decide | omega)
    refine x_aload_n rfl rfl ?_
    refine x_aload_n rfl rfl ?_
    refine x_getR (u := .ref _) rfl rfl rfl rfl ?_
    refine x_iload_n rfl rfl ?_
    refine x_bipushN (q := 39) rfl ?_
    refine x_iaddN rfl ?_
    refine x_ialE (j := t + 39) rfl rfl (rfl) (by omega) (hz) ?_
    refine x_callV (M' := mi155) (As := [_]) (bc1 := 0) (bs1 := 0) (bc2 := 0) (bs2 := 0) rfl rfl rfl rfl ok155 rfl rfl (by decide) rfl rfl rfl rfl rfl rfl ?_
    refine m_good ?_
    refine x_iret rfl rfl ?_
    exact hP | succ m ih =>
    intro i hi
    refine x_iload_n rfl rfl ?_
    refine x_bipushN (q := 39) rfl ?_
    refine x_icmpN_ge rfl (fun c37 => ?_) (fun c37 => ?_)
    · exact absurd c37 (by first | decide | omega)
    refine x_aload_n rfl rfl ?_
    refine x_getR (u := .ref _) rfl rfl rfl rfl ?_
    refine x_iload_n rfl rfl ?_
    refine x_aload_n rfl rfl ?_
    refine x_getR (u := .ref _) rfl rfl rfl rfl ?_
    refine x_iload_n rfl rfl ?_
    refine x_iload_n rfl rfl ?_
    refine x_iaddN rfl ?_
    refine x_ialN (j := t + i) rfl rfl (rfl) (by omega) ?_
    refine x_iasN (j := i) rfl rfl (rfl) (by omega) ?_
    refine x_iincN (q := 1) (ls' := [_, _, _]) rfl rfl rfl rfl ?_
    refine x_goto rfl ?_
    rw [uw_ne (show (88 : Nat) ≠ 76 by decide), cp0_step (f := fun k => VI 88 (t + k)) rfl]
    exact ih (i + 1) (by omega)
set_option maxRecDepth 20000 in
theorem m_undo_ok {z : Nat} (hu : VI 74 32 = nI u) (hu0 : 0 < u) (hu16 : u ≤ 16) (hz : VI 88 (40 * (u - 1) + 39) = nI z) (hP : P (some (.int (nI z))) (LY ++ ext) (up (uw (up VI 74 32 (nI (u - 1))) 76 (cp (VI 76) 0 (fun k => VI 88 (40 * (u - 1) + k)) 39)) 74 0 0) VL (vr G)) : Ex (d + 1) mi236 0 (entL [.ref 74] 3) [] (LY ++ ext) VI VL (vr G) 0 0 P := by
  have hl := m_undo_loop (d := d) (VI := up VI 74 32 (nI (u - 1))) (VL := VL) (G := G) (P := P) (ext := ext) (t := 40 * (u - 1)) (z := z) (by omega) hz hP 39 0 (by omega)
  rw [cp_0] at hl
  refine x_aload_n rfl rfl ?_
  refine x_getE (y := 32) rfl rfl rfl (hu) ?_
  refine x_ifN_ne rfl (fun c4 => ?_) (fun c4 => ?_)
  rotate_left
  · exact absurd c4 (by first | decide | omega)
  refine x_aload_n rfl rfl ?_
  refine x_dup rfl rfl ?_
  refine x_getE (y := 32) rfl rfl rfl (hu) ?_
  refine x_iconstN (q := 1) rfl ?_
  refine x_isubN rfl ?_
  refine x_putI rfl rfl rfl rfl ?_
  skip
  refine x_bipushN (q := 40) rfl ?_
  refine x_aload_n rfl rfl ?_
  refine x_getE (y := 32) rfl rfl rfl (show _ = nI (u - 1) from rfl) ?_
  refine x_imulN rfl ?_
  refine x_istore_n (ls' := [_, _, _]) rfl rfl rfl ?_
  refine x_iconstN (q := 0) rfl ?_
  refine x_istore_n (ls' := [_, _, _]) rfl rfl rfl ?_
  exact hl
set_option maxRecDepth 20000 in
theorem x_undo_no (hu : VI 45 2 = nI 0) (hP : P (some (.int (-3))) (LY ++ ext) (up (up VI 0 17 (-3)) 73 2 (VI 73 2 + 1)) VL (vr G)) : Ex (d + 3) mi128 0 (entL [.ref 0] 1) [] (LY ++ ext) VI VL (vr G) 0 0 P := by
  refine x_aload_n rfl rfl ?_
  refine x_aload_n rfl rfl ?_
  refine x_getR (u := .ref _) rfl rfl rfl rfl ?_
  refine x_callV (M' := mi5) (As := []) (bc1 := 0) (bs1 := 0) (bc2 := 0) (bs2 := 0) rfl rfl rfl rfl ok5 rfl rfl (by decide) rfl rfl rfl rfl rfl rfl ?_
  refine s_undo_no hu ?_
  refine x_callV (M' := mi145) (As := [_]) (bc1 := 0) (bs1 := 0) (bc2 := 0) (bs2 := 0) rfl rfl rfl rfl ok145 rfl rfl (by decide) rfl rfl rfl rfl rfl rfl ?_
  refine s_settled_ref 2 rfl (by decide) ?_
  refine x_iret rfl rfl ?_
  exact hP
set_option maxRecDepth 20000 in
theorem x_undoC {a : Nat} {V' : VIT} (ha : a < 2147483648) (h : ∀ P' : Post, P' (some (.int (nI a))) (LY ++ ext) V' VL (vr G) → Ex (d + 2) mi5 0 (entL [.ref 45] 4) [] (LY ++ ext) VI VL (vr G) 0 0 P') (hP : P (some (.int (nI a))) (LY ++ ext) (up V' 0 17 0) VL (vr G)) : Ex (d + 3) mi128 0 (entL [.ref 0] 1) [] (LY ++ ext) VI VL (vr G) 0 0 P := by
  refine x_aload_n rfl rfl ?_
  refine x_aload_n rfl rfl ?_
  refine x_getR (u := .ref _) rfl rfl rfl rfl ?_
  refine x_callV (M' := mi5) (As := []) (bc1 := 0) (bs1 := 0) (bc2 := 0) (bs2 := 0) rfl rfl rfl rfl ok5 rfl rfl (by decide) rfl rfl rfl rfl rfl rfl ?_
  refine h _ ?_
  refine x_callV (M' := mi145) (As := [_]) (bc1 := 0) (bs1 := 0) (bc2 := 0) (bs2 := 0) rfl rfl rfl rfl ok145 rfl rfl (by decide) rfl rfl rfl rfl rfl rfl ?_
  refine s_settled_ok ha ?_
  refine x_iret rfl rfl ?_
  exact hP
end Undo
set_option maxRecDepth 20000 in
theorem mvK_RK {f h : Nat → Int32} {K B : KT} (hM : RK f K) (hb : ∀ k, k < 39 → h k = nI (B k)) : RK (cp f 0 h 39) (mvK K B) := by
  refine hM.set (fun i hi hn => ?_) (Or.inl ⟨?_, ?_⟩)
  · unfold cp mvK
    by_cases c : i < 39
    · refine Or.inr ?_
      rw [if_pos (by omega), if_pos c, Nat.sub_zero]; exact hb i c
    · refine Or.inl ⟨?_, if_neg c⟩
      rw [if_neg (by omega)]
  · unfold cp
    rw [if_neg (by omega)]
  · exact if_neg (by omega)
set_option maxRecDepth 20000 in
theorem mvK_ge {K B : KT} {i : Nat} (h : 39 ≤ i) : mvK K B i = K i := if_neg (by omega)
set_option maxRecDepth 20000 in
theorem St.undo {j : Nat} {ext : HL} {G : VRT} {K : KT} {tn : Nat} {T : Nat → Nat} {u : Nat} {US : Nat → KT} {lg : Nat → Nat} {VI V1 : VIT} (h : St j ext G K tn T u US lg VI) (hu0 : 0 < u) (hW : WF (mvK K (US (u - 1)))) (hX : RW 3 (mvK K (US (u - 1))) V1) (hv : V1 45 2 = nI (u - 1)) (hF : ∀ a k, (a < 3 ∨ 12 < a) → ¬ (a = 45 ∧ k = 2) → V1 a k = VI a k) : St (j + 1) ext G (mvK K (US (u - 1))) tn T (u - 1) US lg (up (uw (up (up V1 0 17 0) 74 32 (nI (u - 1))) 76 (cp (VI 76) 0 (fun k => VI 88 (40 * (u - 1) + k)) 39)) 74 0 0) := by
  have h0 := h
  obtain ⟨h1, h2, h3, h4, h5, ⟨u1, u2, u3, u4, u5⟩, h7⟩ := h
  have r46 : V1 46 = VI 46 := funext (fun k => hF 46 k (by omega) (by omega))
  have r88 : V1 88 = VI 88 := funext (fun k => hF 88 k (by omega) (by omega))
  refine h0.write ?_ hW ?_ ?_ ⟨by omega, ?_, ?_, fun k hk => ?_, fun i hi => ?_⟩ ?_ (mvK_ge (by omega)) (fun i hi => mvK_ge (by omega))
  · intro a k hw
    have g0 : ¬ (a = 74 ∧ k = 0) := by rintro ⟨rfl, rfl⟩; exact absurd hw (by decide)
    have g1 : ¬ (a = 74 ∧ k = 32) := by rintro ⟨rfl, rfl⟩; exact absurd hw (by decide)
    have g3 : a ≠ 76 := by rintro rfl; cases hw
    have g4 : ¬ (a = 0 ∧ k = 17) := by rintro ⟨rfl, rfl⟩; exact absurd hw (by decide)
    have g6 : a ≠ 45 := by rintro rfl; cases hw
    have g7 : a < 3 ∨ 12 < a := by
      by_cases c : 3 ≤ a ∧ a ≤ 12
      · rcases (show a = 3 ∨ a = 4 ∨ a = 5 ∨ a = 6 ∨ a = 7 ∨ a = 8 ∨ a = 9 ∨ a = 10 ∨ a = 11 ∨ a = 12 by omega) with e | e | e | e | e | e | e | e | e | e <;> subst e <;> cases hw
      · omega
    rw [up_ne2 g0, uw_ne g3, up_ne2 g1, up_ne2 g4, hF a k g7 (fun z => g6 z.1)]
  · refine hX.same (fun a q1 q2 => ?_)
    rw [up_ne (by omega), uw_ne (by omega), up_ne (by omega), up_ne (by omega)]
  · rw [up_ne (by omega), uw_same]
    exact mvK_RK h3 (fun k hk => (u5 (u - 1) (by omega)).2.2.2.1 k hk)
  · rw [up_ne (by omega), uw_ne (by omega), up_ne (by omega), up_ne (by omega)]; exact hv
  · rfl
  · exact (if_pos hk).symm
  · rw [mvK_ge (by omega), mvK_ge (by omega)]
    obtain ⟨g1, g2, g3, g4, g5⟩ := u5 i (by omega)
    refine ⟨?_, g2, ?_, fun k hk => ?_, g5⟩
    · rw [up_ne (by omega), uw_ne (by omega), up_ne (by omega), up_ne (by omega), r46]; exact g1
    · rw [up_ne (by omega), uw_ne (by omega), up_ne (by omega), up_ne (by omega), r88]; exact g3
    · rw [up_ne (by omega), uw_ne (by omega), up_ne (by omega), up_ne (by omega), r88]; exact g4 k hk
  · rfl
section Join7
variable {j : Nat} {lay : HL} {VI : VIT} {VL : VLT} {VR : VRT}
set_option maxRecDepth 20000 in
theorem j_undo (h : Inv j lay VI VL VR) : Pr 100 mi128 mi236 [] lay VI VL VR (Inv (j + 1)) := by
  obtain ⟨ext, G, K, tn, T, u, US, lg, rfl, rfl, hS⟩ := h
  have hW := hS.1
  have hX := hS.2.1
  have hM := hS.2.2.1
  have hU := hS.2.2.2.2.2.1
  have h6 := hW.n
  have h8 : K 94 ≤ 8 := hW.2.1
  have h95 : K 95 ≤ 8 := hW.2.2.1
  have h38 : K 38 ≤ 999 := hW.2.2.2.2.2.1
  obtain ⟨u1, u2, u3, u4, u5⟩ := hU
  by_cases hb : u = 0
  · subst hb
    exact Pr_ref hS 2 (by omega) (-3) (fun P z => x_undo_no u2 z) (fun P z => m_undo_no u3 z)
  · have hu0 : 0 < u := by omega
    obtain ⟨g1, g2, g3, g4, g5⟩ := u5 (u - 1) (by omega)
    rw [show u - 1 + 1 = u by omega] at g5
    have key : ∀ (V1 : VIT) (a : Nat), a < 4 → a = lg (u - 1) % 4 → (∀ P' : Post, P' (some (.int (nI a))) (LY ++ ext) V1 VL (vr G) → Ex 99 mi5 0 (entL [.ref 45] 4) [] (LY ++ ext) VI VL (vr G) 0 0 P') → WF (mvK K (US (u - 1))) → RW 3 (mvK K (US (u - 1))) V1 → V1 45 2 = nI (u - 1) → (∀ a k, (a < 3 ∨ 12 < a) → ¬ (a = 45 ∧ k = 2) → V1 a k = VI a k) → Pr 100 mi128 mi236 [] (LY ++ ext) VI VL (vr G) (Inv (j + 1)) := by
      intro V1 a ha hae hx hW1 hX1 hv hF
      have r88 : V1 88 = VI 88 := funext (fun k => hF 88 k (by omega) (by omega))
      have r76 : V1 76 = VI 76 := funext (fun k => hF 76 k (by omega) (by omega))
      refine ExS.budget (bc := 0) (bs := 0) (x_undoC (d := 97) (a := a) (V' := V1) (by omega) hx ⟨_, ext, rfl, rfl, m_undo_ok (u := u) (z := a) ?_ hu0 u1 ?_ ⟨rfl, ?_⟩⟩) (by omega) (by omega)
      · rw [up_ne (by omega), hF 74 32 (by omega) (by omega)]; exact u3
      · rw [up_ne (by omega), r88, hae]; exact g3
      · have := (hS.undo hu0 hW1 hX1 hv hF).inv (VL := VL)
        rw [show (up V1 0 17 0) 76 = VI 76 from r76, show (up V1 0 17 0) 88 = VI 88 from r88]
        exact this
    rcases g5 with ⟨q1, dy, p, q, m, a1, a2, a3, a4, a5, a6, a7, a8, a9⟩ | ⟨q1, a1, a2, a3, a4⟩ | ⟨q1, a1, a2, a3, a4⟩ | ⟨q1, a1, a2⟩
    · have eK : mvK K (US (u - 1)) = ku (ku K (4 * p + dy) (m / 4)) (4 * q + dy) (m % 4) := by
        funext i
        unfold mvK ku
        by_cases c1 : i = 4 * q + dy
        · subst c1; rw [if_pos (by omega), if_pos rfl]; exact a8
        · rw [if_neg c1]
          by_cases c2 : i = 4 * p + dy
          · subst c2; rw [if_pos (by omega), if_pos rfl]; exact a7
          · rw [if_neg c2]
            by_cases c : i < 39
            · rw [if_pos c, a9 i c c2 c1, u4 i c]
            · rw [if_neg c]
      have hW1 : WF (ku K (4 * p + dy) (m / 4)) := hW.mark1 a2 a1 (by omega)
      refine key _ 0 (by omega) q1.symm (fun P' z => s_undo_talk (d := 97) u2 hu0 u1 g1 g2 hX.n h6 q1 a1 a2 a3 a5 a6 z) ?_ ?_ rfl (fun a k c1 c2 => ?_)
      · rw [eK]; exact hW1.mark1 (by rw [ku_ne (by omega)]; exact a3) a1 (Nat.mod_lt _ (by omega))
      · rw [eK]
        exact ((hX.same (fun a _ _ => up_ne (by omega))).mark1 hW a2 a1).mark1 hW1 (by rw [ku_ne (by omega)]; exact a3) a1
      · rw [up_ne (by omega), up_ne (by omega), up_ne2 c2]
    · have eK : mvK K (US (u - 1)) = ku K (30 + lg (u - 1) / 4) 0 := by
        funext i
        unfold mvK ku
        by_cases c1 : i = 30 + lg (u - 1) / 4
        · subst c1; rw [if_pos (by omega), if_pos rfl]; exact a3
        · rw [if_neg c1]
          by_cases c : i < 39
          · rw [if_pos c, a4 i c c1, u4 i c]
          · rw [if_neg c]
      refine key _ 1 (by omega) q1.symm (fun P' z => s_undo_develop (d := 97) u2 hu0 u1 g1 g2 q1 rfl (by omega) hX.dm z) ?_ ?_ rfl (fun a k c1 c2 => ?_)
      · rw [eK]; exact hW.bits (fun i _ hi => ku_ne (by omega)) (fun p hp => by rw [ku_ne (by omega)]; exact hW.life hp) (fun q hq => by unfold ku; split <;> first | omega | exact (hW.roll hq).1)
      · rw [eK]
        refine (hX.same (VI' := up VI 45 2 (nI (u - 1))) (fun a _ _ => up_ne (by omega))).bits h6 h8 h95 (fun i _ hi => ku_ne (by omega)) ?_ ?_ (fun k _ hk => up_at' hk) (fun a ha _ => up_ne (by omega))
        · rw [show lmK (ku K (30 + lg (u - 1) / 4) 0) = lmK K from by show mskN (fun i => ku K (30 + lg (u - 1) / 4) 0 (24 + i)) (ku K (30 + lg (u - 1) / 4) 0 93) = _; rw [ku_ne (by omega), mskN_congr (g := fun i => K (24 + i)) (fun i hi => ku_ne (by omega))]]
          exact hX.lm
        · rw [dm_set0 hW a1]; exact up_at
      · rw [up_ne (by omega), up_ne2 c2]
    · have eK : mvK K (US (u - 1)) = ku K (24 + lg (u - 1) / 4) 1 := by
        funext i
        unfold mvK ku
        by_cases c1 : i = 24 + lg (u - 1) / 4
        · subst c1; rw [if_pos (by omega), if_pos rfl]; exact a3
        · rw [if_neg c1]
          by_cases c : i < 39
          · rw [if_pos c, a4 i c c1, u4 i c]
          · rw [if_neg c]
      refine key _ 2 (by omega) q1.symm (fun P' z => s_undo_bury (d := 97) u2 hu0 u1 g1 g2 q1 rfl (by omega) hX.lm z) ?_ ?_ rfl (fun a k c1 c2 => ?_)
      · rw [eK]; exact hW.bits (fun i _ hi => ku_ne (by omega)) (fun p hp => by unfold ku; split <;> first | omega | exact hW.life hp) (fun q hq => by rw [ku_ne (by omega)]; exact (hW.roll hq).1)
      · rw [eK]
        refine (hX.same (VI' := up VI 45 2 (nI (u - 1))) (fun a _ _ => up_ne (by omega))).bits h6 h8 h95 (fun i _ hi => ku_ne (by omega)) ?_ ?_ (fun k hk _ => up_at' hk) (fun a ha _ => up_ne (by omega))
        · rw [lm_set1 hW a1]; exact up_at
        · rw [show dmK (ku K (24 + lg (u - 1) / 4) 1) = dmK K from by show mskN (fun i => ku K (24 + lg (u - 1) / 4) 1 (30 + i)) (ku K (24 + lg (u - 1) / 4) 1 94) = _; rw [ku_ne (by omega), mskN_congr (g := fun i => K (30 + i)) (fun i hi => ku_ne (by omega))]]
          exact hX.dm
      · rw [up_ne (by omega), up_ne2 c2]
    · have e38 : K 38 = US (u - 1) 38 + 1 := by rw [← u4 38 (by omega)]; exact a1
      have eK : mvK K (US (u - 1)) = ku K 38 (US (u - 1) 38) := by
        funext i
        unfold mvK ku
        by_cases c1 : i = 38
        · subst c1; rw [if_pos (by omega), if_pos rfl]
        · rw [if_neg c1]
          by_cases c : i < 39
          · rw [if_pos c, a2 i (by omega), u4 i c]
          · rw [if_neg c]
      refine key _ 3 (by omega) (by rw [q1]) (fun P' z => s_undo_pass (d := 97) (w := US (u - 1) 38) u2 hu0 u1 g1 g2 (by rw [q1]) (by rw [← e38]; exact hX.t0) z) ?_ ?_ rfl (fun a k c1 c2 => ?_)
      · rw [eK]; exact hW.keep (fun i _ h2 _ _ => ku_ne h2) (by rw [ku_same]; omega) (by rw [ku_ne (by omega)]; exact hW.2.2.2.2.2.2.1) (by rw [ku_ne (by omega)]; exact hW.2.2.2.2.2.2.2.1)
      · rw [eK]
        refine hX.keep h6 h8 h95 (fun i _ h2 _ _ => ku_ne h2) (fun a _ _ => ?_) ?_ ?_ ?_
        · rw [up_ne (by omega), up_ne (by omega)]
        · rw [ku_same]; exact up_at
        · rw [ku_ne (by omega), up_at' (by omega)]; exact hX.t1
        · rw [ku_ne (by omega), up_at' (by omega)]; exact hX.t2
      · rw [up_ne (by omega), up_ne2 c2]
end Join7
