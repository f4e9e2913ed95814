/-! ===== asks, talk ===== -/
section Asks
variable {d : Nat} {V : VIT} {VL : VLT} {G : VRT} {P : Post} {ext : HL} {K : KT} {p q dy : Nat}
set_option maxRecDepth 20000 in
theorem s_hearNow (hX : RW 3 K V) (hW : WF K) (hL : Laws K 13 (LY ++ ext) V (vr G)) (hp : p < K 93) (hq : q < K 93) (hd4 : dy < 4) (hP : ∀ V' : VIT, FrH V V' → V' 43 4 = nI (swN K p q dy (K (4 * p + dy)) (K (4 * q + dy)) (K 38)) → V' 43 5 = nI (brN K p q dy (K (4 * p + dy)) (K (4 * q + dy)) (K 38)) → ((V' 43 3 = -1 ∧ ∀ w, w ≤ 3 → tkN K p q dy (K (4 * p + dy)) (K (4 * q + dy)) (K 38) w = w) ∨ ∃ k, k ≤ 3 ∧ V' 43 3 = nI k ∧ ∀ w, w ≤ 3 → tkN K p q dy (K (4 * p + dy)) (K (4 * q + dy)) (K 38) w = k) → P none (LY ++ ext) V' VL (vr G)) : Ex (d + 3) mi16 0 (entL [.ref 43, .int (nI p), .int (nI q), .int (nI dy)] 5) [] (LY ++ ext) V VL (vr G) 0 0 P := by
  have h6 := hW.n
  have hm1 := hW.mark hp hd4
  have hm2 := hW.mark hq hd4
  have h38 : K 38 ≤ 999 := hW.2.2.2.2.2.1
  have ed : ((K (4 * p + dy)) * 4 + (K (4 * q + dy))) / 4 = (K (4 * p + dy)) := by omega
  have em : ((K (4 * p + dy)) * 4 + (K (4 * q + dy))) % 4 = (K (4 * q + dy)) := by omega
  refine x_aload_n rfl rfl ?_
  refine x_getR (u := .ref _) rfl rfl rfl rfl ?_
  refine x_iload_n rfl rfl ?_
  refine x_iload_n rfl rfl ?_
  refine x_callV (M' := mi101) (As := [_, _]) (bc1 := 0) (bs1 := 0) (bc2 := 0) (bs2 := 0) rfl rfl rfl rfl ok101 rfl rfl (by decide) rfl rfl rfl rfl rfl rfl ?_
  refine s_markOf_in hX.n hp h6 hd4 ?_
  rw [show V 6 (p * 4 + dy) = nI (K (4 * p + dy)) from hX.mark hp hd4]
  refine x_iconstN (q := 4) rfl ?_
  refine x_imulN rfl ?_
  refine x_aload_n rfl rfl ?_
  refine x_getR (u := .ref _) rfl rfl rfl rfl ?_
  refine x_iload_n rfl rfl ?_
  refine x_iload_n rfl rfl ?_
  refine x_callV (M' := mi101) (As := [_, _]) (bc1 := 0) (bs1 := 0) (bc2 := 0) (bs2 := 0) rfl rfl rfl rfl ok101 rfl rfl (by decide) rfl rfl rfl rfl rfl rfl ?_
  refine s_markOf_in hX.n hq h6 hd4 ?_
  rw [show V 6 (q * 4 + dy) = nI (K (4 * q + dy)) from hX.mark hq hd4]
  refine x_iaddN rfl ?_
  refine x_istore (ls' := [_, _, _, _, _]) rfl rfl rfl ?_
  refine x_aload_n rfl rfl ?_
  refine x_iload_n rfl rfl ?_
  refine x_iload_n rfl rfl ?_
  refine x_iload_n rfl rfl ?_
  refine x_iload rfl rfl ?_
  refine x_aload_n rfl rfl ?_
  refine x_getR (u := .ref _) rfl rfl rfl rfl ?_
  refine x_getR (u := .ref _) rfl rfl rfl rfl ?_
  refine x_iconstN (q := 0) rfl ?_
  refine x_ialE (j := 0) rfl rfl (rfl) (by omega) (hX.t0) ?_
  refine x_callV (M' := mi17) (As := [_, _, _, _, _]) (bc1 := 0) (bs1 := 0) (bc2 := 0) (bs2 := 0) rfl rfl rfl rfl ok17 rfl rfl (by decide) rfl rfl rfl rfl rfl rfl ?_
  refine s_hearS hX hW hL hp hq hd4 (by omega) (by omega) (fun V1 hF g4 g5 g3 => ?_)
  skip
  rw [ed, em] at g4 g5 g3
  refine x_vret rfl rfl ?_
  exact hP V1 hF g4 g5 g3
set_option maxRecDepth 20000 in
theorem s_takenBy (hX : RW 3 K V) (hW : WF K) (hL : Laws K 13 (LY ++ ext) V (vr G)) (hp : p < K 93) (hq : q < K 93) (hd4 : dy < 4) (hP : ∀ V' : VIT, FrH V V' → P (some (.int (nI (tkN K p q dy (K (4 * p + dy)) (K (4 * q + dy)) (K 38) (prv K p q dy (K (4 * p + dy)) (K (4 * q + dy)) (K 38)))))) (LY ++ ext) V' VL (vr G)) : Ex (d + 4) mi13 0 (entL [.ref 43, .int (nI p), .int (nI q), .int (nI dy)] 6) [] (LY ++ ext) V VL (vr G) 0 0 P := by
  have h6 := hW.n
  have hm1 := hW.mark hp hd4
  have hm2 := hW.mark hq hd4
  have l1 := swN_lt hW (q := q) (dy := dy) (m1 := (K (4 * p + dy))) (m2 := (K (4 * q + dy))) (wk := K 38) hp
  have l2 := swN_lt hW (q := p) (dy := dy) (m1 := (K (4 * q + dy))) (m2 := (K (4 * p + dy))) (wk := K 38) hq
  have hpv := prv_lt (K := K) (p := p) (q := q) (dy := dy) (wk := K 38) hm1 hm2
  refine x_aload_n rfl rfl ?_
  refine x_iload_n rfl rfl ?_
  refine x_iload_n rfl rfl ?_
  refine x_iload_n rfl rfl ?_
  refine x_callV (M' := mi16) (As := [_, _, _]) (bc1 := 0) (bs1 := 0) (bc2 := 0) (bs2 := 0) rfl rfl rfl rfl ok16 rfl rfl (by decide) rfl rfl rfl rfl rfl rfl ?_
  refine s_hearNow hX hW hL hq hp hd4 (fun V1 hF1 g4 g5 g3 => ?_)
  refine x_aload_n rfl rfl ?_
  refine x_getE (y := 4) rfl rfl rfl g4 ?_
  refine x_istore (ls' := [_, _, _, _, _, _]) rfl rfl rfl ?_
  refine x_aload_n rfl rfl ?_
  refine x_iload_n rfl rfl ?_
  refine x_iload_n rfl rfl ?_
  refine x_iload_n rfl rfl ?_
  refine x_callV (M' := mi16) (As := [_, _, _]) (bc1 := 0) (bs1 := 0) (bc2 := 0) (bs2 := 0) rfl rfl rfl rfl ok16 rfl rfl (by decide) rfl rfl rfl rfl rfl rfl ?_
  refine s_hearNow (hF1.RW hX) hW (hF1.Laws hW hL) hp hq hd4 (fun V2 hF2 k4 k5 k3 => ?_)
  skip
  have hF := hF1.trans hF2
  have hX2 := hF.RW hX
  rcases k3 with ⟨z1, z2⟩ | ⟨k, z1, z2, z3⟩
  · have hP2 := hP V2 hF
    rw [z2 _ hpv] at hP2
    by_cases c : swN K p q dy (K (4 * p + dy)) (K (4 * q + dy)) (K 38) < swN K q p dy (K (4 * q + dy)) (K (4 * p + dy)) (K 38) ∨ (swN K q p dy (K (4 * q + dy)) (K (4 * p + dy)) (K 38) = swN K p q dy (K (4 * p + dy)) (K (4 * q + dy)) (K 38) ∧ p < q)
    · have ew : prv K p q dy (K (4 * p + dy)) (K (4 * q + dy)) (K 38) = (K (4 * q + dy)) := if_pos c
      rw [ew] at hP2
      by_cases c1 : swN K p q dy (K (4 * p + dy)) (K (4 * q + dy)) (K 38) < swN K q p dy (K (4 * q + dy)) (K (4 * p + dy)) (K 38)
      · refine x_aload_n rfl rfl ?_
        refine x_getE (y := 3) rfl rfl rfl z1 ?_
        refine x_iconst rfl ?_
        refine x_icmp_eq rfl (fun c25 => ?_) (fun c25 => ?_)
        rotate_left
        · exact absurd rfl c25
        refine x_iload rfl rfl ?_
        refine x_aload_n rfl rfl ?_
        refine x_getE (y := 4) rfl rfl rfl (k4) ?_
        refine x_icmpN_gt rfl (fun c39 => ?_) (fun c39 => ?_)
        rotate_left
        · exact absurd c39 (by first | decide | omega)
        refine x_iconstN (q := 1) rfl ?_
        refine x_goto rfl ?_
        refine x_istore (ls' := [_, _, _, _, _, _]) rfl rfl rfl ?_
        refine x_aload_n rfl rfl ?_
        refine x_getR (u := .ref _) rfl rfl rfl rfl ?_
        refine x_iload rfl rfl ?_
        refine x_ifN_eq rfl (fun c69 => ?_) (fun c69 => ?_)
        · exact absurd c69 (by first | decide | omega)
        refine x_iload_n rfl rfl ?_
        refine x_goto rfl ?_
        refine x_iload_n rfl rfl ?_
        refine x_callV (M' := mi101) (As := [_, _]) (bc1 := 0) (bs1 := 0) (bc2 := 0) (bs2 := 0) rfl rfl rfl rfl ok101 rfl rfl (by decide) rfl rfl rfl rfl rfl rfl ?_
        refine s_markOf_in hX2.n hq h6 hd4 ?_
        rw [show V2 6 (q * 4 + dy) = nI (K (4 * q + dy)) from hX2.mark hq hd4]
        refine x_iret rfl rfl ?_
        exact hP2
      · refine x_aload_n rfl rfl ?_
        refine x_getE (y := 3) rfl rfl rfl z1 ?_
        refine x_iconst rfl ?_
        refine x_icmp_eq rfl (fun c25 => ?_) (fun c25 => ?_)
        rotate_left
        · exact absurd rfl c25
        refine x_iload rfl rfl ?_
        refine x_aload_n rfl rfl ?_
        refine x_getE (y := 4) rfl rfl rfl (k4) ?_
        refine x_icmpN_gt rfl (fun c39 => ?_) (fun c39 => ?_)
        · exact absurd c39 (by first | decide | omega)
        refine x_iload rfl rfl ?_
        refine x_aload_n rfl rfl ?_
        refine x_getE (y := 4) rfl rfl rfl (k4) ?_
        refine x_icmpN_ne rfl (fun c48 => ?_) (fun c48 => ?_)
        · exact absurd c48 (by first | decide | omega)
        refine x_iload_n rfl rfl ?_
        refine x_iload_n rfl rfl ?_
        refine x_icmpN_le rfl (fun c53 => ?_) (fun c53 => ?_)
        · exact absurd c53 (by first | decide | omega)
        refine x_iconstN (q := 1) rfl ?_
        refine x_goto rfl ?_
        refine x_istore (ls' := [_, _, _, _, _, _]) rfl rfl rfl ?_
        refine x_aload_n rfl rfl ?_
        refine x_getR (u := .ref _) rfl rfl rfl rfl ?_
        refine x_iload rfl rfl ?_
        refine x_ifN_eq rfl (fun c69 => ?_) (fun c69 => ?_)
        · exact absurd c69 (by first | decide | omega)
        refine x_iload_n rfl rfl ?_
        refine x_goto rfl ?_
        refine x_iload_n rfl rfl ?_
        refine x_callV (M' := mi101) (As := [_, _]) (bc1 := 0) (bs1 := 0) (bc2 := 0) (bs2 := 0) rfl rfl rfl rfl ok101 rfl rfl (by decide) rfl rfl rfl rfl rfl rfl ?_
        refine s_markOf_in hX2.n hq h6 hd4 ?_
        rw [show V2 6 (q * 4 + dy) = nI (K (4 * q + dy)) from hX2.mark hq hd4]
        refine x_iret rfl rfl ?_
        exact hP2
    · have ew : prv K p q dy (K (4 * p + dy)) (K (4 * q + dy)) (K 38) = (K (4 * p + dy)) := if_neg c
      rw [ew] at hP2
      by_cases c1 : swN K q p dy (K (4 * q + dy)) (K (4 * p + dy)) (K 38) = swN K p q dy (K (4 * p + dy)) (K (4 * q + dy)) (K 38)
      · refine x_aload_n rfl rfl ?_
        refine x_getE (y := 3) rfl rfl rfl z1 ?_
        refine x_iconst rfl ?_
        refine x_icmp_eq rfl (fun c25 => ?_) (fun c25 => ?_)
        rotate_left
        · exact absurd rfl c25
        refine x_iload rfl rfl ?_
        refine x_aload_n rfl rfl ?_
        refine x_getE (y := 4) rfl rfl rfl (k4) ?_
        refine x_icmpN_gt rfl (fun c39 => ?_) (fun c39 => ?_)
        · exact absurd c39 (by first | decide | omega)
        refine x_iload rfl rfl ?_
        refine x_aload_n rfl rfl ?_
        refine x_getE (y := 4) rfl rfl rfl (k4) ?_
        refine x_icmpN_ne rfl (fun c48 => ?_) (fun c48 => ?_)
        · exact absurd c48 (by first | decide | omega)
        refine x_iload_n rfl rfl ?_
        refine x_iload_n rfl rfl ?_
        refine x_icmpN_le rfl (fun c53 => ?_) (fun c53 => ?_)
        rotate_left
        · exact absurd c53 (by first | decide | omega)
        refine x_iconstN (q := 0) rfl ?_
        refine x_istore (ls' := [_, _, _, _, _, _]) rfl rfl rfl ?_
        refine x_aload_n rfl rfl ?_
        refine x_getR (u := .ref _) rfl rfl rfl rfl ?_
        refine x_iload rfl rfl ?_
        refine x_ifN_eq rfl (fun c69 => ?_) (fun c69 => ?_)
        rotate_left
        · exact absurd c69 (by first | decide | omega)
        refine x_iload_n rfl rfl ?_
        refine x_iload_n rfl rfl ?_
        refine x_callV (M' := mi101) (As := [_, _]) (bc1 := 0) (bs1 := 0) (bc2 := 0) (bs2 := 0) rfl rfl rfl rfl ok101 rfl rfl (by decide) rfl rfl rfl rfl rfl rfl ?_
        refine s_markOf_in hX2.n hp h6 hd4 ?_
        rw [show V2 6 (p * 4 + dy) = nI (K (4 * p + dy)) from hX2.mark hp hd4]
        refine x_iret rfl rfl ?_
        exact hP2
      · refine x_aload_n rfl rfl ?_
        refine x_getE (y := 3) rfl rfl rfl z1 ?_
        refine x_iconst rfl ?_
        refine x_icmp_eq rfl (fun c25 => ?_) (fun c25 => ?_)
        rotate_left
        · exact absurd rfl c25
        refine x_iload rfl rfl ?_
        refine x_aload_n rfl rfl ?_
        refine x_getE (y := 4) rfl rfl rfl (k4) ?_
        refine x_icmpN_gt rfl (fun c39 => ?_) (fun c39 => ?_)
        · exact absurd c39 (by first | decide | omega)
        refine x_iload rfl rfl ?_
        refine x_aload_n rfl rfl ?_
        refine x_getE (y := 4) rfl rfl rfl (k4) ?_
        refine x_icmpN_ne rfl (fun c48 => ?_) (fun c48 => ?_)
        rotate_left
        · exact absurd c48 (by first | decide | omega)
        refine x_iconstN (q := 0) rfl ?_
        refine x_istore (ls' := [_, _, _, _, _, _]) rfl rfl rfl ?_
        refine x_aload_n rfl rfl ?_
        refine x_getR (u := .ref _) rfl rfl rfl rfl ?_
        refine x_iload rfl rfl ?_
        refine x_ifN_eq rfl (fun c69 => ?_) (fun c69 => ?_)
        rotate_left
        · exact absurd c69 (by first | decide | omega)
        refine x_iload_n rfl rfl ?_
        refine x_iload_n rfl rfl ?_
        refine x_callV (M' := mi101) (As := [_, _]) (bc1 := 0) (bs1 := 0) (bc2 := 0) (bs2 := 0) rfl rfl rfl rfl ok101 rfl rfl (by decide) rfl rfl rfl rfl rfl rfl ?_
        refine s_markOf_in hX2.n hp h6 hd4 ?_
        rw [show V2 6 (p * 4 + dy) = nI (K (4 * p + dy)) from hX2.mark hp hd4]
        refine x_iret rfl rfl ?_
        exact hP2
  · have hP2 := hP V2 hF
    rw [z3 _ hpv] at hP2
    refine x_aload_n rfl rfl ?_
    refine x_getE (y := 3) rfl rfl rfl z2 ?_
    refine x_iconst rfl ?_
    refine x_icmp_eq rfl (fun c25 => ?_) (fun c25 => ?_)
    · exact absurd c25 (nI_m1 (by omega))
    refine x_aload_n rfl rfl ?_
    refine x_getE (y := 3) rfl rfl rfl z2 ?_
    refine x_iret rfl rfl ?_
    exact hP2
set_option maxRecDepth 20000 in
theorem s_swayOf (hX : RW 3 K V) (hW : WF K) (hL : Laws K 13 (LY ++ ext) V (vr G)) (hp : p < K 93) (hq : q < K 93) (hd4 : dy < 4) (hP : ∀ V' : VIT, FrH V V' → P (some (.int (nI (swN K p q dy (K (4 * p + dy)) (K (4 * q + dy)) (K 38))))) (LY ++ ext) V' VL (vr G)) : Ex (d + 4) mi14 0 (entL [.ref 43, .int (nI p), .int (nI q), .int (nI dy)] 4) [] (LY ++ ext) V VL (vr G) 0 0 P := by
  refine x_aload_n rfl rfl ?_
  refine x_iload_n rfl rfl ?_
  refine x_iload_n rfl rfl ?_
  refine x_iload_n rfl rfl ?_
  refine x_callV (M' := mi16) (As := [_, _, _]) (bc1 := 0) (bs1 := 0) (bc2 := 0) (bs2 := 0) rfl rfl rfl rfl ok16 rfl rfl (by decide) rfl rfl rfl rfl rfl rfl ?_
  refine s_hearNow hX hW hL hp hq hd4 (fun V1 hF1 g4 g5 g3 => ?_)
  refine x_aload_n rfl rfl ?_
  refine x_getE (y := 4) rfl rfl rfl g4 ?_
  refine x_iret rfl rfl ?_
  exact hP V1 hF1
set_option maxRecDepth 20000 in
theorem s_isBarred (hX : RW 3 K V) (hW : WF K) (hL : Laws K 13 (LY ++ ext) V (vr G)) (hp : p < K 93) (hq : q < K 93) (hd4 : dy < 4) (hP : ∀ V' : VIT, FrH V V' → P (some (.int (nI (brN K p q dy (K (4 * p + dy)) (K (4 * q + dy)) (K 38))))) (LY ++ ext) V' VL (vr G)) : Ex (d + 4) mi15 0 (entL [.ref 43, .int (nI p), .int (nI q), .int (nI dy)] 4) [] (LY ++ ext) V VL (vr G) 0 0 P := by
  have hb := brN_lt (K := K) (p := p) (q := q) (dy := dy) (m1 := (K (4 * p + dy))) (m2 := (K (4 * q + dy))) (wk := K 38)
  refine x_aload_n rfl rfl ?_
  refine x_iload_n rfl rfl ?_
  refine x_iload_n rfl rfl ?_
  refine x_iload_n rfl rfl ?_
  refine x_callV (M' := mi16) (As := [_, _, _]) (bc1 := 0) (bs1 := 0) (bc2 := 0) (bs2 := 0) rfl rfl rfl rfl ok16 rfl rfl (by decide) rfl rfl rfl rfl rfl rfl ?_
  refine s_hearNow hX hW hL hp hq hd4 (fun V1 hF1 g4 g5 g3 => ?_)
  refine x_aload_n rfl rfl ?_
  refine x_getE (y := 5) rfl rfl rfl g5 ?_
  refine x_zret rfl rfl (nI01 hb) ?_
  exact hP V1 hF1
set_option maxRecDepth 20000 in
theorem x_asks_bad {a b c w : Int32} (hX : RW 3 K V) (h : hasF (nI (K 93)) a = 0 ∨ hasF (nI (K 93)) b = 0 ∨ a = b ∨ hasF 4 c = 0) (hP : P (some (.int (-1))) (LY ++ ext) V VL (vr G)) : Ex (d + 5) mi123 0 (entL [.ref 0, .int a, .int b, .int c, .int w] 5) [] (LY ++ ext) V VL (vr G) 0 0 P := by
  refine x_aload_n rfl rfl ?_
  refine x_getR (u := .ref _) rfl rfl rfl rfl ?_
  refine x_iload_n rfl rfl ?_
  refine x_callV (M' := mi95) (As := [_]) (bc1 := 0) (bs1 := 0) (bc2 := 0) (bs2 := 0) rfl rfl rfl rfl ok95 rfl rfl (by decide) rfl rfl rfl rfl rfl rfl ?_
  refine s_hasPersonK hX ?_
  refine x_if_eq rfl (fun c8 => ?_) (fun c8 => ?_)
  · refine x_iconst rfl ?_
    refine x_iret rfl rfl ?_
    exact hP
  · refine x_aload_n rfl rfl ?_
    refine x_getR (u := .ref _) rfl rfl rfl rfl ?_
    refine x_iload_n rfl rfl ?_
    refine x_callV (M' := mi95) (As := [_]) (bc1 := 0) (bs1 := 0) (bc2 := 0) (bs2 := 0) rfl rfl rfl rfl ok95 rfl rfl (by decide) rfl rfl rfl rfl rfl rfl ?_
    refine s_hasPersonK hX ?_
    refine x_if_eq rfl (fun c19 => ?_) (fun c19 => ?_)
    · refine x_iconst rfl ?_
      refine x_iret rfl rfl ?_
      exact hP
    · refine x_iload_n rfl rfl ?_
      refine x_iload_n rfl rfl ?_
      refine x_icmp_eq rfl (fun c24 => ?_) (fun c24 => ?_)
      · refine x_iconst rfl ?_
        refine x_iret rfl rfl ?_
        exact hP
      · refine x_iload_n rfl rfl ?_
        refine x_callS (M' := mi150) (As := [_]) (bc1 := 0) (bs1 := 0) (bc2 := 0) (bs2 := 0) rfl rfl rfl rfl ok150 rfl rfl rfl rfl rfl rfl ?_
        refine s_isDay ?_
        refine x_if_ne rfl (fun c31 => ?_) (fun c31 => ?_)
        · exact absurd h (fun z => z.elim c8 (fun z => z.elim c19 (fun z => z.elim c24 c31)))
        · refine x_iconst rfl ?_
          refine x_iret rfl rfl ?_
          exact hP
set_option maxRecDepth 20000 in
theorem m_asks_bad {a b c w : Int32} (hM : RK (V 76) K) (hW : WF K) (h : hasF (nI (K 93)) a = 0 ∨ hasF (nI (K 93)) b = 0 ∨ a = b ∨ hasF 4 c = 0) (hP : P (some (.int (-1))) (LY ++ ext) V VL (vr G)) : Ex (d + 44) mi231 0 (entL [.ref 74, .int a, .int b, .int c, .int w] 7) [] (LY ++ ext) V VL (vr G) 0 0 P := by
  refine x_iload_n rfl rfl ?_
  refine x_iload_n rfl rfl ?_
  refine x_icmp_eq rfl (fun c2 => ?_) (fun c2 => ?_)
  · refine x_iconst rfl ?_
    refine x_iret rfl rfl ?_
    exact hP
  · refine x_aload_n rfl rfl ?_
    refine x_iload_n rfl rfl ?_
    refine x_callV (M' := mi164) (As := [_]) (bc1 := 0) (bs1 := 0) (bc2 := 0) (bs2 := 0) rfl rfl rfl rfl ok164 rfl rfl (by decide) rfl rfl rfl rfl rfl rfl ?_
    refine m_isPersonK hM hW ?_
    refine x_if_eq rfl (fun c10 => ?_) (fun c10 => ?_)
    · refine x_iconst rfl ?_
      refine x_iret rfl rfl ?_
      exact hP
    · refine x_aload_n rfl rfl ?_
      refine x_iload_n rfl rfl ?_
      refine x_callV (M' := mi164) (As := [_]) (bc1 := 0) (bs1 := 0) (bc2 := 0) (bs2 := 0) rfl rfl rfl rfl ok164 rfl rfl (by decide) rfl rfl rfl rfl rfl rfl ?_
      refine m_isPersonK hM hW ?_
      refine x_if_eq rfl (fun c18 => ?_) (fun c18 => ?_)
      · refine x_iconst rfl ?_
        refine x_iret rfl rfl ?_
        exact hP
      · refine x_iload_n rfl rfl ?_
        refine x_callS (M' := mi166) (As := [_]) (bc1 := 0) (bs1 := 0) (bc2 := 0) (bs2 := 0) rfl rfl rfl rfl ok166 rfl rfl rfl rfl rfl rfl ?_
        refine m_isDayK ?_
        refine x_if_ne rfl (fun c25 => ?_) (fun c25 => ?_)
        · exact absurd h (fun z => z.elim c10 (fun z => z.elim c18 (fun z => z.elim c2 c25)))
        · refine x_iconst rfl ?_
          refine x_iret rfl rfl ?_
          exact hP
set_option maxRecDepth 20000 in
theorem x_asks0 (hX : RW 3 K V) (hW : WF K) (hL : Laws K 13 (LY ++ ext) V (vr G)) (hp : p < K 93) (hq : q < K 93) (hpq : p ≠ q) (hd4 : dy < 4) (hP : ∀ V' : VIT, FrH V V' → P (some (.int (nI (tkN K p q dy (K (4 * p + dy)) (K (4 * q + dy)) (K 38) (prv K p q dy (K (4 * p + dy)) (K (4 * q + dy)) (K 38)))))) (LY ++ ext) V' VL (vr G)) : Ex (d + 5) mi123 0 (entL [.ref 0, .int (nI p), .int (nI q), .int (nI dy), .int 0] 5) [] (LY ++ ext) V VL (vr G) 0 0 P := by
  have h6 := hW.n
  refine x_aload_n rfl rfl ?_
  refine x_getR (u := .ref _) rfl rfl rfl rfl ?_
  refine x_iload_n rfl rfl ?_
  refine x_callV (M' := mi95) (As := [_]) (bc1 := 0) (bs1 := 0) (bc2 := 0) (bs2 := 0) rfl rfl rfl rfl ok95 rfl rfl (by decide) rfl rfl rfl rfl rfl rfl ?_
  refine s_hasPerson_in hX.n hp h6 ?_
  refine x_if_eq rfl (fun c8 => ?_) (fun c8 => ?_)
  · exact absurd c8 (by first | decide | omega)
  refine x_aload_n rfl rfl ?_
  refine x_getR (u := .ref _) rfl rfl rfl rfl ?_
  refine x_iload_n rfl rfl ?_
  refine x_callV (M' := mi95) (As := [_]) (bc1 := 0) (bs1 := 0) (bc2 := 0) (bs2 := 0) rfl rfl rfl rfl ok95 rfl rfl (by decide) rfl rfl rfl rfl rfl rfl ?_
  refine s_hasPerson_in hX.n hq h6 ?_
  refine x_if_eq rfl (fun c19 => ?_) (fun c19 => ?_)
  · exact absurd c19 (by first | decide | omega)
  refine x_iload_n rfl rfl ?_
  refine x_iload_n rfl rfl ?_
  refine x_icmpN_eq rfl (fun c24 => ?_) (fun c24 => ?_)
  · exact absurd c24 (by first | decide | omega)
  refine x_iload_n rfl rfl ?_
  refine x_callS (M' := mi150) (As := [_]) (bc1 := 0) (bs1 := 0) (bc2 := 0) (bs2 := 0) rfl rfl rfl rfl ok150 rfl rfl rfl rfl rfl rfl ?_
  refine s_isDay_in hd4 ?_
  refine x_if_ne rfl (fun c31 => ?_) (fun c31 => ?_)
  rotate_left
  · exact absurd c31 (by first | decide | omega)
  refine x_iload rfl rfl ?_
  skip
  refine x_swIn (tgt := 64) rfl (by decide) (by decide) rfl rfl ?_
  refine x_aload_n rfl rfl ?_
  refine x_getR (u := .ref _) rfl rfl rfl rfl ?_
  refine x_iload_n rfl rfl ?_
  refine x_iload_n rfl rfl ?_
  refine x_iload_n rfl rfl ?_
  refine x_callV (M' := mi13) (As := [_, _, _]) (bc1 := 0) (bs1 := 0) (bc2 := 0) (bs2 := 0) rfl rfl rfl rfl ok13 rfl rfl (by decide) rfl rfl rfl rfl rfl rfl ?_
  refine s_takenBy hX hW hL hp hq hd4 (fun V1 hF => ?_)
  refine x_iret rfl rfl ?_
  exact hP V1 hF
set_option maxRecDepth 20000 in
theorem x_asks1 (hX : RW 3 K V) (hW : WF K) (hL : Laws K 13 (LY ++ ext) V (vr G)) (hp : p < K 93) (hq : q < K 93) (hpq : p ≠ q) (hd4 : dy < 4) (hP : ∀ V' : VIT, FrH V V' → P (some (.int (nI (swN K p q dy (K (4 * p + dy)) (K (4 * q + dy)) (K 38))))) (LY ++ ext) V' VL (vr G)) : Ex (d + 5) mi123 0 (entL [.ref 0, .int (nI p), .int (nI q), .int (nI dy), .int 1] 5) [] (LY ++ ext) V VL (vr G) 0 0 P := by
  have h6 := hW.n
  refine x_aload_n rfl rfl ?_
  refine x_getR (u := .ref _) rfl rfl rfl rfl ?_
  refine x_iload_n rfl rfl ?_
  refine x_callV (M' := mi95) (As := [_]) (bc1 := 0) (bs1 := 0) (bc2 := 0) (bs2 := 0) rfl rfl rfl rfl ok95 rfl rfl (by decide) rfl rfl rfl rfl rfl rfl ?_
  refine s_hasPerson_in hX.n hp h6 ?_
  refine x_if_eq rfl (fun c8 => ?_) (fun c8 => ?_)
  · exact absurd c8 (by first | decide | omega)
  refine x_aload_n rfl rfl ?_
  refine x_getR (u := .ref _) rfl rfl rfl rfl ?_
  refine x_iload_n rfl rfl ?_
  refine x_callV (M' := mi95) (As := [_]) (bc1 := 0) (bs1 := 0) (bc2 := 0) (bs2 := 0) rfl rfl rfl rfl ok95 rfl rfl (by decide) rfl rfl rfl rfl rfl rfl ?_
  refine s_hasPerson_in hX.n hq h6 ?_
  refine x_if_eq rfl (fun c19 => ?_) (fun c19 => ?_)
  · exact absurd c19 (by first | decide | omega)
  refine x_iload_n rfl rfl ?_
  refine x_iload_n rfl rfl ?_
  refine x_icmpN_eq rfl (fun c24 => ?_) (fun c24 => ?_)
  · exact absurd c24 (by first | decide | omega)
  refine x_iload_n rfl rfl ?_
  refine x_callS (M' := mi150) (As := [_]) (bc1 := 0) (bs1 := 0) (bc2 := 0) (bs2 := 0) rfl rfl rfl rfl ok150 rfl rfl rfl rfl rfl rfl ?_
  refine s_isDay_in hd4 ?_
  refine x_if_ne rfl (fun c31 => ?_) (fun c31 => ?_)
  rotate_left
  · exact absurd c31 (by first | decide | omega)
  refine x_iload rfl rfl ?_
  skip
  refine x_swIn (tgt := 75) rfl (by decide) (by decide) rfl rfl ?_
  refine x_aload_n rfl rfl ?_
  refine x_getR (u := .ref _) rfl rfl rfl rfl ?_
  refine x_iload_n rfl rfl ?_
  refine x_iload_n rfl rfl ?_
  refine x_iload_n rfl rfl ?_
  refine x_callV (M' := mi14) (As := [_, _, _]) (bc1 := 0) (bs1 := 0) (bc2 := 0) (bs2 := 0) rfl rfl rfl rfl ok14 rfl rfl (by decide) rfl rfl rfl rfl rfl rfl ?_
  refine s_swayOf hX hW hL hp hq hd4 (fun V1 hF => ?_)
  refine x_iret rfl rfl ?_
  exact hP V1 hF
set_option maxRecDepth 20000 in
theorem x_asks2 (hX : RW 3 K V) (hW : WF K) (hL : Laws K 13 (LY ++ ext) V (vr G)) (hp : p < K 93) (hq : q < K 93) (hpq : p ≠ q) (hd4 : dy < 4) (hP : ∀ V' : VIT, FrH V V' → P (some (.int (nI (brN K p q dy (K (4 * p + dy)) (K (4 * q + dy)) (K 38))))) (LY ++ ext) V' VL (vr G)) : Ex (d + 5) mi123 0 (entL [.ref 0, .int (nI p), .int (nI q), .int (nI dy), .int 2] 5) [] (LY ++ ext) V VL (vr G) 0 0 P := by
  have h6 := hW.n
  have hb := brN_lt (K := K) (p := p) (q := q) (dy := dy) (m1 := (K (4 * p + dy))) (m2 := (K (4 * q + dy))) (wk := K 38)
  refine x_aload_n rfl rfl ?_
  refine x_getR (u := .ref _) rfl rfl rfl rfl ?_
  refine x_iload_n rfl rfl ?_
  refine x_callV (M' := mi95) (As := [_]) (bc1 := 0) (bs1 := 0) (bc2 := 0) (bs2 := 0) rfl rfl rfl rfl ok95 rfl rfl (by decide) rfl rfl rfl rfl rfl rfl ?_
  refine s_hasPerson_in hX.n hp h6 ?_
  refine x_if_eq rfl (fun c8 => ?_) (fun c8 => ?_)
  · exact absurd c8 (by first | decide | omega)
  refine x_aload_n rfl rfl ?_
  refine x_getR (u := .ref _) rfl rfl rfl rfl ?_
  refine x_iload_n rfl rfl ?_
  refine x_callV (M' := mi95) (As := [_]) (bc1 := 0) (bs1 := 0) (bc2 := 0) (bs2 := 0) rfl rfl rfl rfl ok95 rfl rfl (by decide) rfl rfl rfl rfl rfl rfl ?_
  refine s_hasPerson_in hX.n hq h6 ?_
  refine x_if_eq rfl (fun c19 => ?_) (fun c19 => ?_)
  · exact absurd c19 (by first | decide | omega)
  refine x_iload_n rfl rfl ?_
  refine x_iload_n rfl rfl ?_
  refine x_icmpN_eq rfl (fun c24 => ?_) (fun c24 => ?_)
  · exact absurd c24 (by first | decide | omega)
  refine x_iload_n rfl rfl ?_
  refine x_callS (M' := mi150) (As := [_]) (bc1 := 0) (bs1 := 0) (bc2 := 0) (bs2 := 0) rfl rfl rfl rfl ok150 rfl rfl rfl rfl rfl rfl ?_
  refine s_isDay_in hd4 ?_
  refine x_if_ne rfl (fun c31 => ?_) (fun c31 => ?_)
  rotate_left
  · exact absurd c31 (by first | decide | omega)
  refine x_iload rfl rfl ?_
  skip
  refine x_swIn (tgt := 86) rfl (by decide) (by decide) rfl rfl ?_
  refine x_aload_n rfl rfl ?_
  refine x_getR (u := .ref _) rfl rfl rfl rfl ?_
  refine x_iload_n rfl rfl ?_
  refine x_iload_n rfl rfl ?_
  refine x_iload_n rfl rfl ?_
  refine x_callV (M' := mi15) (As := [_, _, _]) (bc1 := 0) (bs1 := 0) (bc2 := 0) (bs2 := 0) rfl rfl rfl rfl ok15 rfl rfl (by decide) rfl rfl rfl rfl rfl rfl ?_
  refine s_isBarred hX hW hL hp hq hd4 (fun V1 hF => ?_)
  refine x_ifN_eq rfl (fun c96 => ?_) (fun c96 => ?_)
  · refine x_iconstN (q := 0) rfl ?_
    refine x_iret rfl rfl ?_
    exact P_i (congrArg nI (by omega)) (hP V1 hF)
  · refine x_iconstN (q := 1) rfl ?_
    refine x_goto rfl ?_
    refine x_iret rfl rfl ?_
    exact P_i (congrArg nI (by omega)) (hP V1 hF)
set_option maxRecDepth 20000 in
theorem x_asks_d {w : Int32} (hw : w.toInt < 0 ∨ 2 < w.toInt) (hX : RW 3 K V) (hW : WF K) (hp : p < K 93) (hq : q < K 93) (hpq : p ≠ q) (hd4 : dy < 4) (hP : P (some (.int (-1))) (LY ++ ext) V VL (vr G)) : Ex (d + 5) mi123 0 (entL [.ref 0, .int (nI p), .int (nI q), .int (nI dy), .int w] 5) [] (LY ++ ext) V VL (vr G) 0 0 P := by
  have h6 := hW.n
  refine x_aload_n rfl rfl ?_
  refine x_getR (u := .ref _) rfl rfl rfl rfl ?_
  refine x_iload_n rfl rfl ?_
  refine x_callV (M' := mi95) (As := [_]) (bc1 := 0) (bs1 := 0) (bc2 := 0) (bs2 := 0) rfl rfl rfl rfl ok95 rfl rfl (by decide) rfl rfl rfl rfl rfl rfl ?_
  refine s_hasPerson_in hX.n hp h6 ?_
  refine x_if_eq rfl (fun c8 => ?_) (fun c8 => ?_)
  · exact absurd c8 (by first | decide | omega)
  refine x_aload_n rfl rfl ?_
  refine x_getR (u := .ref _) rfl rfl rfl rfl ?_
  refine x_iload_n rfl rfl ?_
  refine x_callV (M' := mi95) (As := [_]) (bc1 := 0) (bs1 := 0) (bc2 := 0) (bs2 := 0) rfl rfl rfl rfl ok95 rfl rfl (by decide) rfl rfl rfl rfl rfl rfl ?_
  refine s_hasPerson_in hX.n hq h6 ?_
  refine x_if_eq rfl (fun c19 => ?_) (fun c19 => ?_)
  · exact absurd c19 (by first | decide | omega)
  refine x_iload_n rfl rfl ?_
  refine x_iload_n rfl rfl ?_
  refine x_icmpN_eq rfl (fun c24 => ?_) (fun c24 => ?_)
  · exact absurd c24 (by first | decide | omega)
  refine x_iload_n rfl rfl ?_
  refine x_callS (M' := mi150) (As := [_]) (bc1 := 0) (bs1 := 0) (bc2 := 0) (bs2 := 0) rfl rfl rfl rfl ok150 rfl rfl rfl rfl rfl rfl ?_
  refine s_isDay_in hd4 ?_
  refine x_if_ne rfl (fun c31 => ?_) (fun c31 => ?_)
  rotate_left
  · exact absurd c31 (by first | decide | omega)
  refine x_iload rfl rfl ?_
  skip
  refine x_swOut (tgt := 105) rfl hw rfl ?_
  refine x_iconst rfl ?_
  refine x_iret rfl rfl ?_
  exact hP
set_option maxRecDepth 20000 in
theorem m_asks0 (hM : RK (V 76) K) (hW : WF K) (hL : LwK K) (hp : p < K 93) (hq : q < K 93) (hpq : p ≠ q) (hd4 : dy < 4) (hP : ∀ V' : VIT, FrT V V' → P (some (.int (nI (tkN K p q dy (K (4 * p + dy)) (K (4 * q + dy)) (K 38) (prv K p q dy (K (4 * p + dy)) (K (4 * q + dy)) (K 38)))))) (LY ++ ext) V' VL (vr G)) : Ex (d + 44) mi231 0 (entL [.ref 74, .int (nI p), .int (nI q), .int (nI dy), .int 0] 7) [] (LY ++ ext) V VL (vr G) 0 0 P := by
  have h6 := hW.n
  refine x_iload_n rfl rfl ?_
  refine x_iload_n rfl rfl ?_
  refine x_icmpN_eq rfl (fun c2 => ?_) (fun c2 => ?_)
  · exact absurd c2 (by first | decide | omega)
  refine x_aload_n rfl rfl ?_
  refine x_iload_n rfl rfl ?_
  refine x_callV (M' := mi164) (As := [_]) (bc1 := 0) (bs1 := 0) (bc2 := 0) (bs2 := 0) rfl rfl rfl rfl ok164 rfl rfl (by decide) rfl rfl rfl rfl rfl rfl ?_
  refine m_isPersonK hM hW ?_
  rw [hasF_in hp (by omega)]
  refine x_if_eq rfl (fun c10 => ?_) (fun c10 => ?_)
  · exact absurd c10 (by first | decide | omega)
  refine x_aload_n rfl rfl ?_
  refine x_iload_n rfl rfl ?_
  refine x_callV (M' := mi164) (As := [_]) (bc1 := 0) (bs1 := 0) (bc2 := 0) (bs2 := 0) rfl rfl rfl rfl ok164 rfl rfl (by decide) rfl rfl rfl rfl rfl rfl ?_
  refine m_isPersonK hM hW ?_
  rw [hasF_in hq (by omega)]
  refine x_if_eq rfl (fun c18 => ?_) (fun c18 => ?_)
  · exact absurd c18 (by first | decide | omega)
  refine x_iload_n rfl rfl ?_
  refine x_callS (M' := mi166) (As := [_]) (bc1 := 0) (bs1 := 0) (bc2 := 0) (bs2 := 0) rfl rfl rfl rfl ok166 rfl rfl rfl rfl rfl rfl ?_
  refine m_isDayK ?_
  rw [show (4 : Int32) = nI 4 from rfl, hasF_in hd4 (by omega)]
  refine x_if_ne rfl (fun c25 => ?_) (fun c25 => ?_)
  rotate_left
  · exact absurd c25 (by first | decide | omega)
  refine x_aload_n rfl rfl ?_
  refine x_iload_n rfl rfl ?_
  refine x_iload_n rfl rfl ?_
  refine x_callV (M' := mi168) (As := [_, _]) (bc1 := 0) (bs1 := 0) (bc2 := 0) (bs2 := 0) rfl rfl rfl rfl ok168 rfl rfl (by decide) rfl rfl rfl rfl rfl rfl ?_
  refine m_markOf (by omega) hd4 ?_
  rw [hM.at (4 * p + dy)]
  refine x_istore (ls' := [_, _, _, _, _, _, _]) rfl rfl rfl ?_
  refine x_aload_n rfl rfl ?_
  refine x_iload_n rfl rfl ?_
  refine x_iload_n rfl rfl ?_
  refine x_callV (M' := mi168) (As := [_, _]) (bc1 := 0) (bs1 := 0) (bc2 := 0) (bs2 := 0) rfl rfl rfl rfl ok168 rfl rfl (by decide) rfl rfl rfl rfl rfl rfl ?_
  refine m_markOf (by omega) hd4 ?_
  rw [hM.at (4 * q + dy)]
  refine x_istore (ls' := [_, _, _, _, _, _, _]) rfl rfl rfl ?_
  refine x_iload rfl rfl ?_
  skip
  refine x_swIn (tgt := 76) rfl (by decide) (by decide) rfl rfl ?_
  refine x_aload_n rfl rfl ?_
  refine x_iload_n rfl rfl ?_
  refine x_iload_n rfl rfl ?_
  refine x_iload_n rfl rfl ?_
  refine x_iload rfl rfl ?_
  refine x_iload rfl rfl ?_
  refine x_callV (M' := mi229) (As := [_, _, _, _, _]) (bc1 := 0) (bs1 := 0) (bc2 := 0) (bs2 := 0) rfl rfl rfl rfl ok229 rfl rfl (by decide) rfl rfl rfl rfl rfl rfl ?_
  refine m_takesBy hM hW hL hp hq hd4 (hW.mark hp hd4) (hW.mark hq hd4) rfl (fun V1 hF => ?_)
  refine x_iret rfl rfl ?_
  exact hP V1 hF
set_option maxRecDepth 20000 in
theorem m_asks1 (hM : RK (V 76) K) (hW : WF K) (hL : LwK K) (hp : p < K 93) (hq : q < K 93) (hpq : p ≠ q) (hd4 : dy < 4) (hP : ∀ V' : VIT, FrT V V' → P (some (.int (nI (swN K p q dy (K (4 * p + dy)) (K (4 * q + dy)) (K 38))))) (LY ++ ext) V' VL (vr G)) : Ex (d + 44) mi231 0 (entL [.ref 74, .int (nI p), .int (nI q), .int (nI dy), .int 1] 7) [] (LY ++ ext) V VL (vr G) 0 0 P := by
  have h6 := hW.n
  refine x_iload_n rfl rfl ?_
  refine x_iload_n rfl rfl ?_
  refine x_icmpN_eq rfl (fun c2 => ?_) (fun c2 => ?_)
  · exact absurd c2 (by first | decide | omega)
  refine x_aload_n rfl rfl ?_
  refine x_iload_n rfl rfl ?_
  refine x_callV (M' := mi164) (As := [_]) (bc1 := 0) (bs1 := 0) (bc2 := 0) (bs2 := 0) rfl rfl rfl rfl ok164 rfl rfl (by decide) rfl rfl rfl rfl rfl rfl ?_
  refine m_isPersonK hM hW ?_
  rw [hasF_in hp (by omega)]
  refine x_if_eq rfl (fun c10 => ?_) (fun c10 => ?_)
  · exact absurd c10 (by first | decide | omega)
  refine x_aload_n rfl rfl ?_
  refine x_iload_n rfl rfl ?_
  refine x_callV (M' := mi164) (As := [_]) (bc1 := 0) (bs1 := 0) (bc2 := 0) (bs2 := 0) rfl rfl rfl rfl ok164 rfl rfl (by decide) rfl rfl rfl rfl rfl rfl ?_
  refine m_isPersonK hM hW ?_
  rw [hasF_in hq (by omega)]
  refine x_if_eq rfl (fun c18 => ?_) (fun c18 => ?_)
  · exact absurd c18 (by first | decide | omega)
  refine x_iload_n rfl rfl ?_
  refine x_callS (M' := mi166) (As := [_]) (bc1 := 0) (bs1 := 0) (bc2 := 0) (bs2 := 0) rfl rfl rfl rfl ok166 rfl rfl rfl rfl rfl rfl ?_
  refine m_isDayK ?_
  rw [show (4 : Int32) = nI 4 from rfl, hasF_in hd4 (by omega)]
  refine x_if_ne rfl (fun c25 => ?_) (fun c25 => ?_)
  rotate_left
  · exact absurd c25 (by first | decide | omega)
  refine x_aload_n rfl rfl ?_
  refine x_iload_n rfl rfl ?_
  refine x_iload_n rfl rfl ?_
  refine x_callV (M' := mi168) (As := [_, _]) (bc1 := 0) (bs1 := 0) (bc2 := 0) (bs2 := 0) rfl rfl rfl rfl ok168 rfl rfl (by decide) rfl rfl rfl rfl rfl rfl ?_
  refine m_markOf (by omega) hd4 ?_
  rw [hM.at (4 * p + dy)]
  refine x_istore (ls' := [_, _, _, _, _, _, _]) rfl rfl rfl ?_
  refine x_aload_n rfl rfl ?_
  refine x_iload_n rfl rfl ?_
  refine x_iload_n rfl rfl ?_
  refine x_callV (M' := mi168) (As := [_, _]) (bc1 := 0) (bs1 := 0) (bc2 := 0) (bs2 := 0) rfl rfl rfl rfl ok168 rfl rfl (by decide) rfl rfl rfl rfl rfl rfl ?_
  refine m_markOf (by omega) hd4 ?_
  rw [hM.at (4 * q + dy)]
  refine x_istore (ls' := [_, _, _, _, _, _, _]) rfl rfl rfl ?_
  refine x_iload rfl rfl ?_
  skip
  refine x_swIn (tgt := 88) rfl (by decide) (by decide) rfl rfl ?_
  refine x_aload_n rfl rfl ?_
  refine x_iload_n rfl rfl ?_
  refine x_iload_n rfl rfl ?_
  refine x_iload_n rfl rfl ?_
  refine x_iload rfl rfl ?_
  refine x_iload rfl rfl ?_
  refine x_callV (M' := mi228) (As := [_, _, _, _, _]) (bc1 := 0) (bs1 := 0) (bc2 := 0) (bs2 := 0) rfl rfl rfl rfl ok228 rfl rfl (by decide) rfl rfl rfl rfl rfl rfl ?_
  refine m_swaysBy hM hW hL hp hq hd4 (hW.mark hp hd4) (hW.mark hq hd4) rfl (fun V1 hF => ?_)
  refine x_iret rfl rfl ?_
  exact hP V1 hF
set_option maxRecDepth 20000 in
theorem m_asks2 (hM : RK (V 76) K) (hW : WF K) (hL : LwK K) (hp : p < K 93) (hq : q < K 93) (hpq : p ≠ q) (hd4 : dy < 4) (hP : ∀ V' : VIT, FrT V V' → P (some (.int (nI (brN K p q dy (K (4 * p + dy)) (K (4 * q + dy)) (K 38))))) (LY ++ ext) V' VL (vr G)) : Ex (d + 44) mi231 0 (entL [.ref 74, .int (nI p), .int (nI q), .int (nI dy), .int 2] 7) [] (LY ++ ext) V VL (vr G) 0 0 P := by
  have h6 := hW.n
  have hb := brN_lt (K := K) (p := p) (q := q) (dy := dy) (m1 := (K (4 * p + dy))) (m2 := (K (4 * q + dy))) (wk := K 38)
  refine x_iload_n rfl rfl ?_
  refine x_iload_n rfl rfl ?_
  refine x_icmpN_eq rfl (fun c2 => ?_) (fun c2 => ?_)
  · exact absurd c2 (by first | decide | omega)
  refine x_aload_n rfl rfl ?_
  refine x_iload_n rfl rfl ?_
  refine x_callV (M' := mi164) (As := [_]) (bc1 := 0) (bs1 := 0) (bc2 := 0) (bs2 := 0) rfl rfl rfl rfl ok164 rfl rfl (by decide) rfl rfl rfl rfl rfl rfl ?_
  refine m_isPersonK hM hW ?_
  rw [hasF_in hp (by omega)]
  refine x_if_eq rfl (fun c10 => ?_) (fun c10 => ?_)
  · exact absurd c10 (by first | decide | omega)
  refine x_aload_n rfl rfl ?_
  refine x_iload_n rfl rfl ?_
  refine x_callV (M' := mi164) (As := [_]) (bc1 := 0) (bs1 := 0) (bc2 := 0) (bs2 := 0) rfl rfl rfl rfl ok164 rfl rfl (by decide) rfl rfl rfl rfl rfl rfl ?_
  refine m_isPersonK hM hW ?_
  rw [hasF_in hq (by omega)]
  refine x_if_eq rfl (fun c18 => ?_) (fun c18 => ?_)
  · exact absurd c18 (by first | decide | omega)
  refine x_iload_n rfl rfl ?_
  refine x_callS (M' := mi166) (As := [_]) (bc1 := 0) (bs1 := 0) (bc2 := 0) (bs2 := 0) rfl rfl rfl rfl ok166 rfl rfl rfl rfl rfl rfl ?_
  refine m_isDayK ?_
  rw [show (4 : Int32) = nI 4 from rfl, hasF_in hd4 (by omega)]
  refine x_if_ne rfl (fun c25 => ?_) (fun c25 => ?_)
  rotate_left
  · exact absurd c25 (by first | decide | omega)
  refine x_aload_n rfl rfl ?_
  refine x_iload_n rfl rfl ?_
  refine x_iload_n rfl rfl ?_
  refine x_callV (M' := mi168) (As := [_, _]) (bc1 := 0) (bs1 := 0) (bc2 := 0) (bs2 := 0) rfl rfl rfl rfl ok168 rfl rfl (by decide) rfl rfl rfl rfl rfl rfl ?_
  refine m_markOf (by omega) hd4 ?_
  rw [hM.at (4 * p + dy)]
  refine x_istore (ls' := [_, _, _, _, _, _, _]) rfl rfl rfl ?_
  refine x_aload_n rfl rfl ?_
  refine x_iload_n rfl rfl ?_
  refine x_iload_n rfl rfl ?_
  refine x_callV (M' := mi168) (As := [_, _]) (bc1 := 0) (bs1 := 0) (bc2 := 0) (bs2 := 0) rfl rfl rfl rfl ok168 rfl rfl (by decide) rfl rfl rfl rfl rfl rfl ?_
  refine m_markOf (by omega) hd4 ?_
  rw [hM.at (4 * q + dy)]
  refine x_istore (ls' := [_, _, _, _, _, _, _]) rfl rfl rfl ?_
  refine x_iload rfl rfl ?_
  skip
  refine x_swIn (tgt := 100) rfl (by decide) (by decide) rfl rfl ?_
  refine x_aload_n rfl rfl ?_
  refine x_iload_n rfl rfl ?_
  refine x_iload_n rfl rfl ?_
  refine x_iload_n rfl rfl ?_
  refine x_iload rfl rfl ?_
  refine x_iload rfl rfl ?_
  refine x_callV (M' := mi230) (As := [_, _, _, _, _]) (bc1 := 0) (bs1 := 0) (bc2 := 0) (bs2 := 0) rfl rfl rfl rfl ok230 rfl rfl (by decide) rfl rfl rfl rfl rfl rfl ?_
  refine m_isBarred hM hW hL hp hq hd4 (hW.mark hp hd4) (hW.mark hq hd4) rfl (fun V1 hF => ?_)
  refine x_ifN_eq rfl (fun c111 => ?_) (fun c111 => ?_)
  · refine x_iconstN (q := 0) rfl ?_
    refine x_iret rfl rfl ?_
    exact P_i (congrArg nI (by omega)) (hP V1 hF)
  · refine x_iconstN (q := 1) rfl ?_
    refine x_goto rfl ?_
    refine x_iret rfl rfl ?_
    exact P_i (congrArg nI (by omega)) (hP V1 hF)
set_option maxRecDepth 20000 in
theorem m_asks_d {w : Int32} (hw : w.toInt < 0 ∨ 2 < w.toInt) (hM : RK (V 76) K) (hW : WF K) (hp : p < K 93) (hq : q < K 93) (hpq : p ≠ q) (hd4 : dy < 4) (hP : P (some (.int (-1))) (LY ++ ext) V VL (vr G)) : Ex (d + 44) mi231 0 (entL [.ref 74, .int (nI p), .int (nI q), .int (nI dy), .int w] 7) [] (LY ++ ext) V VL (vr G) 0 0 P := by
  have h6 := hW.n
  refine x_iload_n rfl rfl ?_
  refine x_iload_n rfl rfl ?_
  refine x_icmpN_eq rfl (fun c2 => ?_) (fun c2 => ?_)
  · exact absurd c2 (by first | decide | omega)
  refine x_aload_n rfl rfl ?_
  refine x_iload_n rfl rfl ?_
  refine x_callV (M' := mi164) (As := [_]) (bc1 := 0) (bs1 := 0) (bc2 := 0) (bs2 := 0) rfl rfl rfl rfl ok164 rfl rfl (by decide) rfl rfl rfl rfl rfl rfl ?_
  refine m_isPersonK hM hW ?_
  rw [hasF_in hp (by omega)]
  refine x_if_eq rfl (fun c10 => ?_) (fun c10 => ?_)
  · exact absurd c10 (by first | decide | omega)
  refine x_aload_n rfl rfl ?_
  refine x_iload_n rfl rfl ?_
  refine x_callV (M' := mi164) (As := [_]) (bc1 := 0) (bs1 := 0) (bc2 := 0) (bs2 := 0) rfl rfl rfl rfl ok164 rfl rfl (by decide) rfl rfl rfl rfl rfl rfl ?_
  refine m_isPersonK hM hW ?_
  rw [hasF_in hq (by omega)]
  refine x_if_eq rfl (fun c18 => ?_) (fun c18 => ?_)
  · exact absurd c18 (by first | decide | omega)
  refine x_iload_n rfl rfl ?_
  refine x_callS (M' := mi166) (As := [_]) (bc1 := 0) (bs1 := 0) (bc2 := 0) (bs2 := 0) rfl rfl rfl rfl ok166 rfl rfl rfl rfl rfl rfl ?_
  refine m_isDayK ?_
  rw [show (4 : Int32) = nI 4 from rfl, hasF_in hd4 (by omega)]
  refine x_if_ne rfl (fun c25 => ?_) (fun c25 => ?_)
  rotate_left
  · exact absurd c25 (by first | decide | omega)
  refine x_aload_n rfl rfl ?_
  refine x_iload_n rfl rfl ?_
  refine x_iload_n rfl rfl ?_
  refine x_callV (M' := mi168) (As := [_, _]) (bc1 := 0) (bs1 := 0) (bc2 := 0) (bs2 := 0) rfl rfl rfl rfl ok168 rfl rfl (by decide) rfl rfl rfl rfl rfl rfl ?_
  refine m_markOf (by omega) hd4 ?_
  rw [hM.at (4 * p + dy)]
  refine x_istore (ls' := [_, _, _, _, _, _, _]) rfl rfl rfl ?_
  refine x_aload_n rfl rfl ?_
  refine x_iload_n rfl rfl ?_
  refine x_iload_n rfl rfl ?_
  refine x_callV (M' := mi168) (As := [_, _]) (bc1 := 0) (bs1 := 0) (bc2 := 0) (bs2 := 0) rfl rfl rfl rfl ok168 rfl rfl (by decide) rfl rfl rfl rfl rfl rfl ?_
  refine m_markOf (by omega) hd4 ?_
  rw [hM.at (4 * q + dy)]
  refine x_istore (ls' := [_, _, _, _, _, _, _]) rfl rfl rfl ?_
  refine x_iload rfl rfl ?_
  skip
  refine x_swOut (tgt := 120) rfl hw rfl ?_
  refine x_iconst rfl ?_
  refine x_iret rfl rfl ?_
  exact hP
end Asks
section Join12
variable {j : Nat} {lay : HL} {VI : VIT} {VL : VLT} {VR : VRT}
set_option maxRecDepth 20000 in
theorem St.scr2 {j : Nat} {ext : HL} {G : VRT} {K : KT} {tn : Nat} {T : Nat → Nat} {u : Nat} {US : Nat → KT} {lg : Nat → Nat} {V V1 V2 : VIT} (h : St j ext G K tn T u US lg V) (hF : FrH V V1) (hT : FrT V1 V2) : St (j + 1) ext G K tn T u US lg V2 := h.scratch (fun a k hk => by
  unfold kpP at hk
  exact (hT a k (by omega) (by omega)).trans (hF a k (by omega) (by omega) (by omega)))
set_option maxRecDepth 20000 in
theorem j_asks {a b c w : Int32} (h : Inv j lay VI VL VR) : Pr 100 mi123 mi231 [.int a, .int b, .int c, .int w] lay VI VL VR (Inv (j + 1)) := by
  obtain ⟨ext, G, K, tn, T, u, US, lg, rfl, rfl, hS⟩ := h
  have hI := hS.next.inv (VL := VL)
  have hW := hS.1
  have hX := hS.2.1
  have hM := hS.2.2.1
  have hL := hS.2.2.2.2.2.2.2.2.2.1
  have h6 := hW.n
  by_cases hb : hasF (nI (K 93)) a = 0 ∨ hasF (nI (K 93)) b = 0 ∨ a = b ∨ hasF 4 c = 0
  · exact Pr_read (-1) (fun P q => x_asks_bad hX hb q) (fun P q => m_asks_bad hM hW hb q) hI
  · rcases has_cases (n := K 93) (by omega) a with h1 | ⟨p, hp, rfl⟩
    · exact absurd (Or.inl h1) hb
    rcases has_cases (n := K 93) (by omega) b with h1 | ⟨q, hq, rfl⟩
    · exact absurd (Or.inr (Or.inl h1)) hb
    rcases has_cases (n := 4) (by omega) c with h1 | ⟨dy, hd4, rfl⟩
    · exact absurd (Or.inr (Or.inr (Or.inr h1))) hb
    have hpq : p ≠ q := fun z => hb (Or.inr (Or.inr (Or.inl (by rw [z]))))
    have hM' : ∀ V1 : VIT, FrH VI V1 → RK (V1 76) K := fun V1 hF => by rw [hF.row 76 (by omega) (by omega) (by omega)]; exact hM
    by_cases w1 : w < 0
    · have hw : w.toInt < 0 ∨ 2 < w.toInt := Or.inl (Int32.lt_iff_toInt_lt.mp w1)
      exact Pr_read (-1) (fun P z => x_asks_d hw hX hW hp hq hpq hd4 z) (fun P z => m_asks_d hw hM hW hp hq hpq hd4 z) hI
    by_cases w2 : 3 ≤ w
    · have hw : w.toInt < 0 ∨ 2 < w.toInt := Or.inr (by have := Int32.le_iff_toInt_le.mp w2; have e3 : (3 : Int32).toInt = 3 := rfl; omega)
      exact Pr_read (-1) (fun P z => x_asks_d hw hX hW hp hq hpq hd4 z) (fun P z => m_asks_d hw hM hW hp hq hpq hd4 z) hI
    rcases three w1 w2 with rfl | rfl | rfl
    · exact ExS.budget (bc := 0) (bs := 0) (x_asks0 hX hW hL hp hq hpq hd4 (fun V1 hF => ⟨_, ext, rfl, rfl, m_asks0 (hM' V1 hF) hW hL.K hp hq hpq hd4 (fun V2 hT => ⟨rfl, (hS.scr2 hF hT).inv⟩)⟩)) (by omega) (by omega)
    · exact ExS.budget (bc := 0) (bs := 0) (x_asks1 hX hW hL hp hq hpq hd4 (fun V1 hF => ⟨_, ext, rfl, rfl, m_asks1 (hM' V1 hF) hW hL.K hp hq hpq hd4 (fun V2 hT => ⟨rfl, (hS.scr2 hF hT).inv⟩)⟩)) (by omega) (by omega)
    · exact ExS.budget (bc := 0) (bs := 0) (x_asks2 hX hW hL hp hq hpq hd4 (fun V1 hF => ⟨_, ext, rfl, rfl, m_asks2 (hM' V1 hF) hW hL.K hp hq hpq hd4 (fun V2 hT => ⟨rfl, (hS.scr2 hF hT).inv⟩)⟩)) (by omega) (by omega)
end Join12
