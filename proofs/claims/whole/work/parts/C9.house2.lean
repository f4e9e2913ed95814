/-! ===== house ===== -/
def cwN (z c : Nat) : Nat := ((List.range 64).filter (fun c' => decide (popN c' 6 < z ∨ (popN c' 6 = z ∧ c' < c)))).length
set_option maxRecDepth 20000 in
theorem cwN_step : ∀ z, z < 7 → ∀ c, c < 64 → cwN z (c + 1) = cwN z c + (if popN c 6 = z then 1 else 0) := by decide +kernel
set_option maxRecDepth 20000 in
theorem cwN_next : ∀ z, z < 7 → cwN (z + 1) 0 = cwN z 64 := by decide +kernel
set_option maxRecDepth 20000 in
theorem cwN_le {z c : Nat} : cwN z c ≤ 64 := by
  have := List.length_filter_le (fun c' => decide (popN c' 6 < z ∨ (popN c' 6 = z ∧ c' < c))) (List.range 64)
  rw [List.length_range] at this
  exact this
set_option maxRecDepth 20000 in
theorem pop86 : ∀ c, c < 64 → popN c 8 = popN c 6 ∧ popN c 6 ≤ 6 := by decide +kernel
set_option maxRecDepth 20000 in
theorem mnsI {a c : Nat} : nI a &&& (nI c ^^^ (-1)) = nI (mns a c) := by
  rw [show (-1 : Int32) = nI 4294967295 from rfl, nb_xor, nb_and, Nat.xor_comm]
section House
variable {d : Nat} {V0 V : VIT} {VL : VLT} {G : VRT} {P : Post} {ext : HL} {K : KT} {r s : Nat}
set_option maxRecDepth 20000 in
theorem xh_in {z : Nat} (hz : z < 7) (hW : WF K) (hr : r < K 94) (hs : s < 800000) (hP : ∀ (V' : VIT) (n x : Nat), FrD V0 V' → Stm (s + n) V' → n ≤ 66 → lstC K (rdK K r) (onK K r) (some x) → x < 64 → P (some (.int (nI x))) (LY ++ ext) V' VL (vr G)) (hE : ∀ (V' : VIT) (n : Nat) (z3 : Value), FrD V0 V' → PaX K (rdK K r) ext G V' → V' 63 7 = nI (row0 K (rdK K r)) → V' 63 8 = nI (onK K r) → Stm (s + n) V' → n ≤ 1 + cwN (z + 1) 0 → (∀ c', c' < 64 → gdC K (rdK K r) (onK K r) c' → z + 1 ≤ popN c' 6) → Ex (d + 6) mi73 102 [.ref 63, .int (nI r), .int (nI z), z3] [] (LY ++ ext) V' VL (vr G) 0 0 P) : ∀ (m c : Nat) (V : VIT) (n : Nat), c + m = 64 → FrD V0 V → PaX K (rdK K r) ext G V → V 63 7 = nI (row0 K (rdK K r)) → V 63 8 = nI (onK K r) → Stm (s + n) V → n ≤ 1 + cwN z c → (∀ c', c' < 64 → gdC K (rdK K r) (onK K r) c' → z < popN c' 6 ∨ (z = popN c' 6 ∧ c ≤ c')) → Ex (d + 6) mi73 33 [.ref 63, .int (nI r), .int (nI z), .int (nI c)] [] (LY ++ ext) V VL (vr G) 0 0 P := by
  have h6 := hW.n
  have hd4 : rdK K r < 4 := (hW.roll hr).2.1
  have ho := onK_lt hW hr
  have hlm := hW.lm
  have hr0 : row0 K (rdK K r) < 4096 := Nat.lt_of_lt_of_le (row0_lt hW hd4) (pow4_6 h6)
  intro m
  induction m with
  | zero =>
    intro c V n hc hF hA h7 h8 hS hn hg
    have e : c = 64 := by omega
    subst e
    refine x_iload_n rfl rfl ?_
    refine x_bipushN (q := 64) rfl ?_
    refine x_icmpN_ge rfl (fun c36 => ?_) (fun c36 => ?_)
    rotate_left
    · exact absurd c36 (by first | decide | omega)
    exact hE V n _ hF hA h7 h8 hS (by rw [cwN_next z hz]; exact hn) (fun c' q1 q2 => by have := hg c' q1 q2; omega) | succ m ih =>
    intro c V n hc hF hA h7 h8 hS hn hg
    have hcl : c < 64 := by omega
    have hcw := cwN_le (z := z) (c := c)
    have hstep := cwN_step z hz c hcl
    obtain ⟨p86, p6⟩ := pop86 c hcl
    have hX := hA.1
    have hk : ∀ (V1 : VIT) (n1 : Nat), FrD V0 V1 → PaX K (rdK K r) ext G V1 → V1 63 7 = nI (row0 K (rdK K r)) → V1 63 8 = nI (onK K r) → Stm (s + n1) V1 → n1 ≤ 1 + cwN z (c + 1) → (popN c 6 = z → ¬ gdC K (rdK K r) (onK K r) c) → Ex (d + 6) mi73 96 [.ref 63, .int (nI r), .int (nI z), .int (nI c)] [] (LY ++ ext) V1 VL (vr G) 0 0 P := by
      intro V1 n1 g1 g2 g3 g4 g5 g6 g7
      refine x_iincN (q := 1) (ls' := [_, _, _, _]) rfl rfl rfl rfl ?_
      refine x_goto rfl ?_
      exact ih (c + 1) V1 n1 (by omega) g1 g2 g3 g4 g5 g6 (fun c' q1 q2 => by by_cases e : c' = c; subst e; have := hg c' q1 q2; by_cases e2 : popN c' 6 = z; exact absurd q2 (g7 e2); omega; have := hg c' q1 q2; omega)
    by_cases cz : popN c 6 = z
    · have hn1 : n ≤ 1 + cwN z (c + 1) := by rw [hstep]; omega
      by_cases cl : mns c (lmK K) = 0
      · by_cases ca : agR K (row0 K (rdK K r)) (mns (onK K r) c) = none
        · have hng : ¬ gdC K (rdK K r) (onK K r) c := fun z1 => rch_pre hW hd4 z1.2 ca
          have hml : mns (onK K r) c < 2147483648 := Nat.lt_of_le_of_lt Nat.and_le_left (by omega)
          refine x_iload_n rfl rfl ?_
          refine x_bipushN (q := 64) rfl ?_
          refine x_icmpN_ge rfl (fun c36 => ?_) (fun c36 => ?_)
          · exact absurd c36 (by first | decide | omega)
          refine x_iload_n rfl rfl ?_
          refine x_callS (M' := mi280) (As := [_]) (bc1 := 0) (bs1 := 0) (bc2 := 0) (bs2 := 0) rfl rfl rfl rfl ok280 rfl rfl rfl rfl rfl rfl ?_
          refine s_bitCount (by omega) ?_
          rw [p86]
          refine x_iload_n rfl rfl ?_
          refine x_icmpN_ne rfl (fun c44 => ?_) (fun c44 => ?_)
          · exact absurd c44 (by first | decide | omega)
          refine x_iload_n rfl rfl ?_
          refine x_aload_n rfl rfl ?_
          refine x_getR (u := .ref _) rfl rfl rfl rfl ?_
          refine x_getE (y := 1) rfl rfl rfl hX.lm ?_
          refine x_iconst rfl ?_
          refine x_ixor rfl ?_
          refine x_iand rfl ?_
          rw [mnsI, cl]
          refine x_ifN_ne rfl (fun c58 => ?_) (fun c58 => ?_)
          · exact absurd c58 (by first | decide | omega)
          refine x_aload_n rfl rfl ?_
          refine x_getR (u := .ref _) rfl rfl rfl rfl ?_
          refine x_aload_n rfl rfl ?_
          refine x_getE (y := 7) rfl rfl rfl h7 ?_
          refine x_aload_n rfl rfl ?_
          refine x_getE (y := 8) rfl rfl rfl h8 ?_
          refine x_iload_n rfl rfl ?_
          refine x_iconst rfl ?_
          refine x_ixor rfl ?_
          refine x_iand rfl ?_
          rw [mnsI]
          refine x_callV (M' := mi106) (As := [_, _]) (bc1 := 0) (bs1 := 0) (bc2 := 0) (bs2 := 0) rfl rfl rfl rfl ok106 rfl rfl (by decide) rfl rfl rfl rfl rfl rfl ?_
          refine s_accordInRow hX.n h6 hr0 hml ?_
          rw [agR_x]
          refine x_iconst rfl ?_
          refine x_icmp_eq rfl (fun c81 => ?_) (fun c81 => ?_)
          rotate_left
          · exact absurd ((agI_z (fun c h => agR_lt h)).mpr ca) c81
          exact hk V n hF hA h7 h8 hS hn1 (fun _ => hng)
        · have hml : mns (onK K r) c < 2147483648 := Nat.lt_of_le_of_lt Nat.and_le_left (by omega)
          refine x_iload_n rfl rfl ?_
          refine x_bipushN (q := 64) rfl ?_
          refine x_icmpN_ge rfl (fun c36 => ?_) (fun c36 => ?_)
          · exact absurd c36 (by first | decide | omega)
          refine x_iload_n rfl rfl ?_
          refine x_callS (M' := mi280) (As := [_]) (bc1 := 0) (bs1 := 0) (bc2 := 0) (bs2 := 0) rfl rfl rfl rfl ok280 rfl rfl rfl rfl rfl rfl ?_
          refine s_bitCount (by omega) ?_
          rw [p86]
          refine x_iload_n rfl rfl ?_
          refine x_icmpN_ne rfl (fun c44 => ?_) (fun c44 => ?_)
          · exact absurd c44 (by first | decide | omega)
          refine x_iload_n rfl rfl ?_
          refine x_aload_n rfl rfl ?_
          refine x_getR (u := .ref _) rfl rfl rfl rfl ?_
          refine x_getE (y := 1) rfl rfl rfl hX.lm ?_
          refine x_iconst rfl ?_
          refine x_ixor rfl ?_
          refine x_iand rfl ?_
          rw [mnsI, cl]
          refine x_ifN_ne rfl (fun c58 => ?_) (fun c58 => ?_)
          · exact absurd c58 (by first | decide | omega)
          refine x_aload_n rfl rfl ?_
          refine x_getR (u := .ref _) rfl rfl rfl rfl ?_
          refine x_aload_n rfl rfl ?_
          refine x_getE (y := 7) rfl rfl rfl h7 ?_
          refine x_aload_n rfl rfl ?_
          refine x_getE (y := 8) rfl rfl rfl h8 ?_
          refine x_iload_n rfl rfl ?_
          refine x_iconst rfl ?_
          refine x_ixor rfl ?_
          refine x_iand rfl ?_
          rw [mnsI]
          refine x_callV (M' := mi106) (As := [_, _]) (bc1 := 0) (bs1 := 0) (bc2 := 0) (bs2 := 0) rfl rfl rfl rfl ok106 rfl rfl (by decide) rfl rfl rfl rfl rfl rfl ?_
          refine s_accordInRow hX.n h6 hr0 hml ?_
          rw [agR_x]
          refine x_iconst rfl ?_
          refine x_icmp_eq rfl (fun c81 => ?_) (fun c81 => ?_)
          · exact absurd ((agI_z (fun c h => agR_lt h)).mp c81) ca
          refine x_aload_n rfl rfl ?_
          refine x_iload_n rfl rfl ?_
          refine x_iconstN (q := 1) rfl ?_
          refine x_callV (M' := mi75) (As := [_, _]) (bc1 := 0) (bs1 := 0) (bc2 := 0) (bs2 := 0) rfl rfl rfl rfl ok75 rfl rfl (by decide) rfl rfl rfl rfl rfl rfl ?_
          refine s_walk (wb := true) (on := (onK K r)) hA hW hd4 hcl ho (by omega) hS h7 h8 (fun V2 hF2 hA2 hB2 => ?_)
          skip
          obtain ⟨g1, g2, g3, g4⟩ := bfX_t hW (who := c) (on := (onK K r)) 4097 0 (bfI K (rdK K r)) (by omega) (bfI_ok hW hd4) (fun i x hi => absurd hi (by omega))
          have hF' : FrD V0 V2 := fun a k q1 q2 q3 q4 q5 q6 q7 q8 q9 => (hF2 a k q1 q2 q3 q5 (by omega) q7 q8 q9).trans (hF a k q1 q2 q3 q4 q5 q6 q7 q8 q9)
          have h7' : V2 63 7 = nI (row0 K (rdK K r)) := (hF2 63 7 (by omega) (by omega) (by omega) (by omega) (by omega) (by omega) (by omega) (by omega)).trans h7
          have h8' : V2 63 8 = nI (onK K r) := (hF2 63 8 (by omega) (by omega) (by omega) (by omega) (by omega) (by omega) (by omega) (by omega)).trans h8
          have hS2 : Stm (s + (n + 1)) V2 := hB2.stm
          cases he : (bfX K (rdK K r) c (onK K r) true 4097 0 (bfI K (rdK K r))).2 with
          | none =>
            have hng : ¬ gdC K (rdK K r) (onK K r) c := fun z1 => by
              have := z1.2
              unfold rch at this
              rw [← g1, he] at this
              cases this
            refine x_iconst rfl ?_
            refine x_icmp_eq rfl (fun c91 => ?_) (fun c91 => ?_)
            rotate_left
            · exact absurd rfl c91
            exact hk V2 (n + 1) hF' hA2 h7' h8' hS2 (by rw [hstep, if_pos cz]; omega) (fun _ => hng) | some e =>
            have hgd : gdC K (rdK K r) (onK K r) c := ⟨cl, by unfold rch; rw [← g1, he]; rfl⟩
            have he4 : e < 4096 := Nat.lt_of_lt_of_le (g2.2.1 e (g4 e he)) (pow4_6 h6)
            refine x_iconst rfl ?_
            refine x_icmp_eq rfl (fun c91 => ?_) (fun c91 => ?_)
            · exact absurd c91 (nI_m1 (show e < 2147483648 by omega))
            refine x_iload_n rfl rfl ?_
            refine x_iret rfl rfl ?_
            exact hP V2 (n + 1) c hF' hS2 (by omega) (Or.inr ⟨c, rfl, hcl, hgd, fun c' q1 q2 => by have := hg c' q1 q2; omega⟩) hcl
      · have hml : mns c (lmK K) < 2147483648 := Nat.lt_of_le_of_lt Nat.and_le_left (by omega)
        refine x_iload_n rfl rfl ?_
        refine x_bipushN (q := 64) rfl ?_
        refine x_icmpN_ge rfl (fun c36 => ?_) (fun c36 => ?_)
        · exact absurd c36 (by first | decide | omega)
        refine x_iload_n rfl rfl ?_
        refine x_callS (M' := mi280) (As := [_]) (bc1 := 0) (bs1 := 0) (bc2 := 0) (bs2 := 0) rfl rfl rfl rfl ok280 rfl rfl rfl rfl rfl rfl ?_
        refine s_bitCount (by omega) ?_
        rw [p86]
        refine x_iload_n rfl rfl ?_
        refine x_icmpN_ne rfl (fun c44 => ?_) (fun c44 => ?_)
        · exact absurd c44 (by first | decide | omega)
        refine x_iload_n rfl rfl ?_
        refine x_aload_n rfl rfl ?_
        refine x_getR (u := .ref _) rfl rfl rfl rfl ?_
        refine x_getE (y := 1) rfl rfl rfl hX.lm ?_
        refine x_iconst rfl ?_
        refine x_ixor rfl ?_
        refine x_iand rfl ?_
        rw [mnsI]
        refine x_ifN_ne rfl (fun c58 => ?_) (fun c58 => ?_)
        rotate_left
        · exact absurd c58 (by first | decide | omega)
        exact hk V n hF hA h7 h8 hS hn1 (fun _ z1 => cl z1.1)
    · refine x_iload_n rfl rfl ?_
      refine x_bipushN (q := 64) rfl ?_
      refine x_icmpN_ge rfl (fun c36 => ?_) (fun c36 => ?_)
      · exact absurd c36 (by first | decide | omega)
      refine x_iload_n rfl rfl ?_
      refine x_callS (M' := mi280) (As := [_]) (bc1 := 0) (bs1 := 0) (bc2 := 0) (bs2 := 0) rfl rfl rfl rfl ok280 rfl rfl rfl rfl rfl rfl ?_
      refine s_bitCount (by omega) ?_
      rw [p86]
      refine x_iload_n rfl rfl ?_
      refine x_icmpN_ne rfl (fun c44 => ?_) (fun c44 => ?_)
      rotate_left
      · exact absurd c44 (by first | decide | omega)
      exact hk V n hF hA h7 h8 hS (by rw [hstep, if_neg cz]; omega) (fun z1 => absurd z1 cz)
set_option maxRecDepth 20000 in
theorem s_company (hX : RW 3 K V) (hW : WF K) (hL : Laws K 13 (LY ++ ext) V (vr G)) (hr : r < K 94) (hs : s < 800000) (hS : Stm s V) (hP : ∀ (V' : VIT) (n : Nat) (b : Option Nat), FrD V V' → Stm (s + n) V' → n ≤ 66 → lstC K (rdK K r) (onK K r) b → (∀ x, b = some x → x < 64) → P (some (.int (agI b))) (LY ++ ext) V' VL (vr G)) : Ex (d + 6) mi73 0 (entL [.ref 63, .int (nI r)] 4) [] (LY ++ ext) V VL (vr G) 0 0 P := by
  have h6 := hW.n
  have hd4 : rdK K r < 4 := (hW.roll hr).2.1
  have ho := onK_lt hW hr
  have hlm := hW.lm
  refine x_aload_n rfl rfl ?_
  refine x_iload_n rfl rfl ?_
  refine x_callV (M' := mi74) (As := [_]) (bc1 := 0) (bs1 := 0) (bc2 := 0) (bs2 := 0) rfl rfl rfl rfl ok74 rfl rfl (by decide) rfl rfl rfl rfl rfl rfl ?_
  refine s_openS hX hW hL hr (fun V1 hF1 hA1 h7 h8 => ?_)
  have hX1 := hA1.1
  have hS1 : Stm s V1 := ⟨(hF1 63 6 (by omega) (by omega) (by omega)).trans hS.1, fun k hk => by rw [show V1 65 k = V 65 k from hF1 65 k (by omega) (by omega) (by omega)]; exact hS.2 k hk⟩
  refine x_aload_n rfl rfl ?_
  refine x_aload_n rfl rfl ?_
  refine x_getR (u := .ref _) rfl rfl rfl rfl ?_
  refine x_getE (y := 1) rfl rfl rfl hX1.lm ?_
  refine x_iconstN (q := 1) rfl ?_
  refine x_callV (M' := mi75) (As := [_, _]) (bc1 := 0) (bs1 := 0) (bc2 := 0) (bs2 := 0) rfl rfl rfl rfl ok75 rfl rfl (by decide) rfl rfl rfl rfl rfl rfl ?_
  refine s_walk (wb := true) (on := onK K r) hA1 hW hd4 hlm ho (by omega) hS1 h7 h8 (fun V2 hF2 hA2 hB2 => ?_)
  skip
  obtain ⟨g1, g2, g3, g4⟩ := bfX_t hW (who := lmK K) (on := (onK K r)) 4097 0 (bfI K (rdK K r)) (by omega) (bfI_ok hW hd4) (fun i x hi => absurd hi (by omega))
  have hF' : FrD V V2 := fun a k q1 q2 q3 q4 q5 q6 q7 q8 q9 => (hF2 a k q1 q2 q3 q5 (by omega) q7 q8 q9).trans (hF1 a k q5 (by omega) (by omega))
  have h7' : V2 63 7 = nI (row0 K (rdK K r)) := (hF2 63 7 (by omega) (by omega) (by omega) (by omega) (by omega) (by omega) (by omega) (by omega)).trans h7
  have h8' : V2 63 8 = nI (onK K r) := (hF2 63 8 (by omega) (by omega) (by omega) (by omega) (by omega) (by omega) (by omega) (by omega)).trans h8
  have hS2 : Stm (s + 1) V2 := hB2.stm
  cases he : (bfX K (rdK K r) (lmK K) (onK K r) true 4097 0 (bfI K (rdK K r))).2 with
  | none =>
    have hno : ¬ rch K (rdK K r) (onK K r) (lmK K) = true := fun z1 => by
      unfold rch at z1
      rw [← g1, he] at z1
      cases z1
    refine x_iconst rfl ?_
    refine x_icmp_ne rfl (fun c18 => ?_) (fun c18 => ?_)
    · exact absurd rfl c18
    refine x_iconst rfl ?_
    refine x_iret rfl rfl ?_
    exact hP V2 1 none hF' hS2 (by omega) (Or.inl ⟨rfl, fun c hc hg => hno (gd_lm hW hd4 hc hg)⟩) (fun x hx => by cases hx) | some e =>
    have hyes : rch K (rdK K r) (onK K r) (lmK K) = true := by
      unfold rch
      rw [← g1, he]
      rfl
    have hgl : gdC K (rdK K r) (onK K r) (lmK K) := ⟨mns_self hlm, hyes⟩
    have he4 : e < 4096 := Nat.lt_of_lt_of_le (g2.2.1 e (g4 e he)) (pow4_6 h6)
    have hout : ∀ (m z : Nat) (V3 : VIT) (n : Nat) (z3 : Value), z + m = 7 → FrD V V3 → PaX K (rdK K r) ext G V3 → V3 63 7 = nI (row0 K (rdK K r)) → V3 63 8 = nI (onK K r) → Stm (s + n) V3 → n ≤ 1 + cwN z 0 → (∀ c', c' < 64 → gdC K (rdK K r) (onK K r) c' → z ≤ popN c' 6) → Ex (d + 6) mi73 25 [.ref 63, .int (nI r), .int (nI z), z3] [] (LY ++ ext) V3 VL (vr G) 0 0 P := by
      intro m
      induction m with
      | zero =>
        intro z V3 n z3 hz hF3 hA3 q7 q8 hS3 hn hg
        have h1 := hg _ hlm hgl
        have h2 := (pop86 _ hlm).2
        omega
      | succ m ih =>
        intro z V3 n z3 hz hF3 hA3 q7 q8 hS3 hn hg
        refine x_iload_n rfl rfl ?_
        refine x_bipushN (q := 6) rfl ?_
        refine x_icmpN_gt rfl (fun c28 => ?_) (fun c28 => ?_)
        · exact absurd c28 (by first | decide | omega)
        refine x_iconstN (q := 0) rfl ?_
        refine x_istore_n (ls' := [_, _, _, _]) rfl rfl rfl ?_
        skip
        refine xh_in (V0 := V) (by omega) hW hr hs (fun V4 n4 x k1 k2 k3 k4 k5 => hP V4 n4 (some x) k1 k2 k3 k4 (fun y hy => by rw [← Option.some.inj hy]; exact k5)) (fun V4 n4 z3 k1 k2 k3 k4 k5 k6 k7 => ?_) 64 0 V3 n (by omega) hF3 hA3 q7 q8 hS3 hn (fun c' k1 k2 => by have := hg c' k1 k2; omega)
        refine x_iincN (q := 1) (ls' := [_, _, _, _]) rfl rfl rfl rfl ?_
        refine x_goto rfl ?_
        exact ih (z + 1) V4 n4 _ (by omega) k1 k2 k3 k4 k5 k6 k7
    refine x_iconst rfl ?_
    refine x_icmp_ne rfl (fun c18 => ?_) (fun c18 => ?_)
    rotate_left
    · exact absurd c18 (nI_m1 (show e < 2147483648 by omega))
    refine x_iconstN (q := 0) rfl ?_
    refine x_istore_n (ls' := [_, _, _, _]) rfl rfl rfl ?_
    exact hout 7 0 V2 1 _ (by omega) hF' hA2 h7' h8' hS2 (by omega) (fun c' _ _ => Nat.zero_le _)
set_option maxRecDepth 20000 in
theorem x_house_bad {a w : Int32} (hX : RW 3 K V) (h : hasF (nI (K 94)) a = 0 ∨ w < 0 ∨ 1 < w) (hP : P (some (.int (-1))) (LY ++ ext) V VL (vr G)) : Ex (d + 7) mi131 0 (entL [.ref 0, .int a, .int w] 4) [] (LY ++ ext) V VL (vr G) 0 0 P := by
  refine x_aload_n rfl rfl ?_
  refine x_getR (u := .ref _) rfl rfl rfl rfl ?_
  refine x_iload_n rfl rfl ?_
  refine x_callV (M' := mi96) (As := [_]) (bc1 := 0) (bs1 := 0) (bc2 := 0) (bs2 := 0) rfl rfl rfl rfl ok96 rfl rfl (by decide) rfl rfl rfl rfl rfl rfl ?_
  refine s_hasRollK hX ?_
  refine x_if_eq rfl (fun c8 => ?_) (fun c8 => ?_)
  · refine x_iconst rfl ?_
    refine x_iret rfl rfl ?_
    exact hP
  · refine x_iload_n rfl rfl ?_
    refine x_if_lt rfl (fun c12 => ?_) (fun c12 => ?_)
    · refine x_iconst rfl ?_
      refine x_iret rfl rfl ?_
      exact hP
    · refine x_iload_n rfl rfl ?_
      refine x_iconst rfl ?_
      refine x_icmp_le rfl (fun c17 => ?_) (fun c17 => ?_)
      · exact absurd h (fun z => z.elim c8 (fun z => z.elim c12 (fun z => absurd c17 (Int32.not_le.mpr z))))
      · refine x_iconst rfl ?_
        refine x_iret rfl rfl ?_
        exact hP
set_option maxRecDepth 20000 in
theorem x_house {k : Nat} (hk : k ≤ 1) (hX : RW 3 K V) (hW : WF K) (hL : Laws K 13 (LY ++ ext) V (vr G)) (hr : r < K 94) (hs : s < 800000) (hS : Stm s V) (hP : ∀ (V' : VIT) (n : Nat) (b : Option Nat), FrD V V' → Stm (s + n) V' → n ≤ 66 → lstC K (rdK K r) (onK K r) b → (∀ x, b = some x → x < 64) → P (some (.int (agI (b.map (fun x => if k = 1 then x else popN x 6))))) (LY ++ ext) V' VL (vr G)) : Ex (d + 7) mi131 0 (entL [.ref 0, .int (nI r), .int (nI k)] 4) [] (LY ++ ext) V VL (vr G) 0 0 P := by
  have h8 : K 94 ≤ 8 := hW.2.1
  refine x_aload_n rfl rfl ?_
  refine x_getR (u := .ref _) rfl rfl rfl rfl ?_
  refine x_iload_n rfl rfl ?_
  refine x_callV (M' := mi96) (As := [_]) (bc1 := 0) (bs1 := 0) (bc2 := 0) (bs2 := 0) rfl rfl rfl rfl ok96 rfl rfl (by decide) rfl rfl rfl rfl rfl rfl ?_
  refine s_hasRollK hX ?_
  rw [hasF_in hr (by omega)]
  refine x_if_eq rfl (fun c8 => ?_) (fun c8 => ?_)
  · exact absurd c8 (by first | decide | omega)
  refine x_iload_n rfl rfl ?_
  refine x_ifN_lt rfl ?_
  refine x_iload_n rfl rfl ?_
  refine x_iconstN (q := 1) rfl ?_
  refine x_icmpN_le rfl (fun c17 => ?_) (fun c17 => ?_)
  rotate_left
  · exact absurd c17 (by first | decide | omega)
  refine x_aload_n rfl rfl ?_
  refine x_getR (u := .ref _) rfl rfl rfl rfl ?_
  refine x_iload_n rfl rfl ?_
  refine x_callV (M' := mi73) (As := [_]) (bc1 := 0) (bs1 := 0) (bc2 := 0) (bs2 := 0) rfl rfl rfl rfl ok73 rfl rfl (by decide) rfl rfl rfl rfl rfl rfl ?_
  refine s_company hX hW hL hr hs hS (fun V1 n b g1 g2 g3 g4 g5 => ?_)
  skip
  have hP2 := hP V1 n b g1 g2 g3 g4 g5
  cases b with
  | none =>
    refine x_istore_n (ls' := [_, _, _, _]) rfl rfl rfl ?_
    refine x_iload_n rfl rfl ?_
    refine x_iconst rfl ?_
    refine x_icmp_eq rfl (fun c33 => ?_) (fun c33 => ?_)
    rotate_left
    · exact absurd rfl c33
    refine x_iload_n rfl rfl ?_
    refine x_goto rfl ?_
    refine x_iret rfl rfl ?_
    exact hP2 | some x =>
    have hx := g5 x rfl
    rw [Option.map_some] at hP2
    show Ex (d + 7) mi131 30 [.ref 0, .int (nI r), .int (nI k), .retAddr 9] [.int (nI x)] (LY ++ ext) V1 VL (vr G) 0 0 P
    by_cases c : k = 1
    · rw [if_pos c] at hP2
      refine x_istore_n (ls' := [_, _, _, _]) rfl rfl rfl ?_
      refine x_iload_n rfl rfl ?_
      refine x_iconst rfl ?_
      refine x_icmp_eq rfl (fun c33 => ?_) (fun c33 => ?_)
      · exact absurd c33 (nI_m1 (by omega))
      refine x_iload_n rfl rfl ?_
      refine x_iconstN (q := 1) rfl ?_
      refine x_icmpN_ne rfl (fun c38 => ?_) (fun c38 => ?_)
      · exact absurd c38 (by first | decide | omega)
      refine x_iload_n rfl rfl ?_
      refine x_goto rfl ?_
      refine x_iret rfl rfl ?_
      exact hP2
    · rw [if_neg c, ← (pop86 x hx).1] at hP2
      refine x_istore_n (ls' := [_, _, _, _]) rfl rfl rfl ?_
      refine x_iload_n rfl rfl ?_
      refine x_iconst rfl ?_
      refine x_icmp_eq rfl (fun c33 => ?_) (fun c33 => ?_)
      · exact absurd c33 (nI_m1 (by omega))
      refine x_iload_n rfl rfl ?_
      refine x_iconstN (q := 1) rfl ?_
      refine x_icmpN_ne rfl (fun c38 => ?_) (fun c38 => ?_)
      rotate_left
      · exact absurd c38 (by first | decide | omega)
      refine x_iload_n rfl rfl ?_
      refine x_callS (M' := mi280) (As := [_]) (bc1 := 0) (bs1 := 0) (bc2 := 0) (bs2 := 0) rfl rfl rfl rfl ok280 rfl rfl rfl rfl rfl rfl ?_
      refine s_bitCount (by omega) ?_
      refine x_iret rfl rfl ?_
      exact hP2
/-! the model -/
def lstT (K : KT) (dy on w : Nat) (b : Option Nat) : Prop := (b = none ∧ ∀ c, c < w → ¬ gdC K dy on c) ∨ ∃ x, b = some x ∧ x < w ∧ gdC K dy on x ∧ ∀ c, c < w → gdC K dy on c → popN x 6 < popN c 6 ∨ (popN x 6 = popN c 6 ∧ x ≤ c)
set_option maxRecDepth 20000 in
theorem mh_loop {wv : Int32} (hW : WF K) (hr : r < K 94) (hM : RK (V0 76) K) (hT : OutM K (rdK K r) V0) (hP : ∀ (V' : VIT) (b : Option Nat) (z4 : Value), FrS2 V0 V' → lstT K (rdK K r) (onK K r) (lmK K + 1) b → Ex (d + 46) mi253 111 [.ref 74, .int (nI r), .int wv, .int (agI b), z4] [] (LY ++ ext) V' VL (vr G) 0 0 P) : ∀ (m w : Nat) (V : VIT) (b : Option Nat), w + m = lmK K + 1 → FrS2 V0 V → lstT K (rdK K r) (onK K r) w b → Ex (d + 46) mi253 37 [.ref 74, .int (nI r), .int wv, .int (agI b), .int (nI w)] [] (LY ++ ext) V VL (vr G) 0 0 P := by
  have h6 := hW.n
  have h8 : K 94 ≤ 8 := hW.2.1
  have hd4 : rdK K r < 4 := (hW.roll hr).2.1
  have hlm := hW.lm
  intro m
  induction m with
  | zero =>
    intro w V b hw hF hb
    have e : w = lmK K + 1 := by omega
    subst e
    have hM1 : RK (V 76) K := by rw [hF.row 76 (by omega) (by omega) (by omega) (by omega) (by omega)]; exact hM
    refine x_iload rfl rfl ?_
    refine x_aload_n rfl rfl ?_
    refine x_callV (M' := mi170) (As := []) (bc1 := 0) (bs1 := 0) (bc2 := 0) (bs2 := 0) rfl rfl rfl rfl ok170 rfl rfl (by decide) rfl rfl rfl rfl rfl rfl ?_
    refine m_livingK hM1 hW ?_
    refine x_icmpN_gt rfl (fun c43 => ?_) (fun c43 => ?_)
    rotate_left
    · exact absurd c43 (by first | decide | omega)
    exact hP V b _ hF hb | succ m ih =>
    intro w V b hw hF hb
    have hwl : w < 64 := by omega
    have hM1 : RK (V 76) K := by rw [hF.row 76 (by omega) (by omega) (by omega) (by omega) (by omega)]; exact hM
    have hT1 : OutM K (rdK K r) V := by unfold OutM; rw [hF.row 87 (by omega) (by omega) (by omega) (by omega) (by omega)]; exact hT
    have hk : ∀ (V1 : VIT) (b1_ : Option Nat), FrS2 V0 V1 → lstT K (rdK K r) (onK K r) (w + 1) b1_ → Ex (d + 46) mi253 105 [.ref 74, .int (nI r), .int wv, .int (agI b1_), .int (nI w)] [] (LY ++ ext) V1 VL (vr G) 0 0 P := by
      intro V1 b1_ g1 g2
      refine x_iincN (q := 1) (ls' := [_, _, _, _, _]) rfl rfl rfl rfl ?_
      refine x_goto rfl ?_
      exact ih (w + 1) V1 b1_ (by omega) g1 g2
    have hsame : ¬ gdC K (rdK K r) (onK K r) w → lstT K (rdK K r) (onK K r) (w + 1) b := fun hn => by
      rcases hb with ⟨e, h⟩ | ⟨x, e, x1, x2, x3⟩
      · exact Or.inl ⟨e, fun c hc hg => by by_cases e2 : c = w; subst e2; exact hn hg; exact h c (by omega) hg⟩
      · exact Or.inr ⟨x, e, by omega, x2, fun c hc hg => by by_cases e2 : c = w; subst e2; exact absurd hg hn; exact x3 c (by omega) hg⟩
    by_cases cl : mns w (lmK K) = 0
    · refine x_iload rfl rfl ?_
      refine x_aload_n rfl rfl ?_
      refine x_callV (M' := mi170) (As := []) (bc1 := 0) (bs1 := 0) (bc2 := 0) (bs2 := 0) rfl rfl rfl rfl ok170 rfl rfl (by decide) rfl rfl rfl rfl rfl rfl ?_
      refine m_livingK hM1 hW ?_
      refine x_icmpN_gt rfl (fun c43 => ?_) (fun c43 => ?_)
      · exact absurd c43 (by first | decide | omega)
      refine x_iload rfl rfl ?_
      refine x_aload_n rfl rfl ?_
      refine x_callV (M' := mi170) (As := []) (bc1 := 0) (bs1 := 0) (bc2 := 0) (bs2 := 0) rfl rfl rfl rfl ok170 rfl rfl (by decide) rfl rfl rfl rfl rfl rfl ?_
      refine m_livingK hM1 hW ?_
      refine x_iconst rfl ?_
      refine x_ixor rfl ?_
      refine x_iand rfl ?_
      rw [mnsI, cl]
      refine x_ifN_ne rfl (fun c55 => ?_) (fun c55 => ?_)
      · exact absurd c55 (by first | decide | omega)
      skip
      have hgo : (gdC K (rdK K r) (onK K r) w → lstT K (rdK K r) (onK K r) (w + 1) (some w)) → Ex (d + 46) mi253 78 [.ref 74, .int (nI r), .int wv, .int (agI b), .int (nI w)] [] (LY ++ ext) V VL (vr G) 0 0 P := by
        intro hnew
        refine x_aload_n rfl rfl ?_
        refine x_aload_n rfl rfl ?_
        refine x_getR (u := .ref _) rfl rfl rfl rfl ?_
        refine x_bipushN (q := 51) rfl ?_
        refine x_iload_n rfl rfl ?_
        refine x_iaddN rfl ?_
        refine x_ialE (j := 51 + r) rfl rfl (rfl) (by omega) (hM1.at (51 + r)) ?_
        refine x_iload rfl rfl ?_
        refine x_aload_n rfl rfl ?_
        refine x_iload_n rfl rfl ?_
        refine x_callV (M' := mi176) (As := [_]) (bc1 := 0) (bs1 := 0) (bc2 := 0) (bs2 := 0) rfl rfl rfl rfl ok176 rfl rfl (by decide) rfl rfl rfl rfl rfl rfl ?_
        refine m_livingOn hM1 hW (by omega) ?_
        refine x_callV (M' := mi249) (As := [_, _, _]) (bc1 := 0) (bs1 := 0) (bc2 := 0) (bs2 := 0) rfl rfl rfl rfl ok249 rfl rfl (by decide) rfl rfl rfl rfl rfl rfl ?_
        refine m_spreads hW hd4 hwl (and_lt2 hW hr) hM1 hT1 (fun V2 hF2 hB2 => ?_)
        skip
        have hF' : FrS2 V0 V2 := fun a k q1 q2 q3 q4 q5 => (hF2 a k q1 q2 q3 q4 q5).trans (hF a k q1 q2 q3 q4 q5)
        cases he : fA K (onK K r) (BfA K (rdK K r) w).1 with
        | none =>
          have hng : ¬ gdC K (rdK K r) (onK K r) w := fun z1 => by
            have := z1.2
            unfold rch at this
            rw [he] at this
            cases this
          refine x_iconst rfl ?_
          refine x_icmp_eq rfl (fun c99 => ?_) (fun c99 => ?_)
          rotate_left
          · exact absurd rfl c99
          exact hk V2 b hF' (hsame hng) | some e =>
          have hgd : gdC K (rdK K r) (onK K r) w := ⟨cl, by unfold rch; rw [he]; rfl⟩
          have he6 := r6_lt h6 ((BfA_ok hW (who := w) hd4).2.1 e (fA_mem _ he))
          refine x_iconst rfl ?_
          refine x_icmp_eq rfl (fun c99 => ?_) (fun c99 => ?_)
          · exact absurd c99 (nI_m1 (show e * 4 ^ (6 - K 93) < 2147483648 by omega))
          refine x_iload rfl rfl ?_
          refine x_istore_n (ls' := [_, _, _, _, _]) rfl rfl rfl ?_
          exact hk V2 (some w) hF' (hnew hgd)
      rcases hb with ⟨e, h⟩ | ⟨x, e, x1, x2, x3⟩
      · subst e
        refine x_iload_n rfl rfl ?_
        refine x_iconst rfl ?_
        refine x_icmp_eq rfl (fun c60 => ?_) (fun c60 => ?_)
        rotate_left
        · exact absurd rfl c60
        exact hgo (fun hg => Or.inr ⟨w, rfl, by omega, hg, fun c hc hgc => by by_cases e2 : c = w; subst e2; omega; exact absurd hgc (h c (by omega))⟩)
      · subst e
        have pw := (pop86 w hwl).2
        have px := (pop86 x (by omega)).2
        show Ex (d + 46) mi253 58 [.ref 74, .int (nI r), .int wv, .int (nI x), .int (nI w)] [] (LY ++ ext) V VL (vr G) 0 0 P
        by_cases cp : popN w 6 < popN x 6
        · refine x_iload_n rfl rfl ?_
          refine x_iconst rfl ?_
          refine x_icmp_eq rfl (fun c60 => ?_) (fun c60 => ?_)
          · exact absurd c60 (nI_m1 (by omega))
          refine x_iload rfl rfl ?_
          refine x_callS (M' := mi158) (As := [_]) (bc1 := 0) (bs1 := 0) (bc2 := 0) (bs2 := 0) rfl rfl rfl rfl ok158 rfl rfl rfl rfl rfl rfl ?_
          refine m_ones (by omega) ?_
          refine x_iload_n rfl rfl ?_
          refine x_callS (M' := mi158) (As := [_]) (bc1 := 0) (bs1 := 0) (bc2 := 0) (bs2 := 0) rfl rfl rfl rfl ok158 rfl rfl rfl rfl rfl rfl ?_
          refine m_ones (by omega) ?_
          refine x_icmpN_lt rfl (fun c72 => ?_) (fun c72 => ?_)
          rotate_left
          · exact absurd c72 (by first | decide | omega)
          exact hgo (fun hg => Or.inr ⟨w, rfl, by omega, hg, fun c hc hgc => by by_cases e2 : c = w; subst e2; omega; have := x3 c (by omega) hgc; omega⟩)
        · refine x_iload_n rfl rfl ?_
          refine x_iconst rfl ?_
          refine x_icmp_eq rfl (fun c60 => ?_) (fun c60 => ?_)
          · exact absurd c60 (nI_m1 (by omega))
          refine x_iload rfl rfl ?_
          refine x_callS (M' := mi158) (As := [_]) (bc1 := 0) (bs1 := 0) (bc2 := 0) (bs2 := 0) rfl rfl rfl rfl ok158 rfl rfl rfl rfl rfl rfl ?_
          refine m_ones (by omega) ?_
          refine x_iload_n rfl rfl ?_
          refine x_callS (M' := mi158) (As := [_]) (bc1 := 0) (bs1 := 0) (bc2 := 0) (bs2 := 0) rfl rfl rfl rfl ok158 rfl rfl rfl rfl rfl rfl ?_
          refine m_ones (by omega) ?_
          refine x_icmpN_lt rfl (fun c72 => ?_) (fun c72 => ?_)
          · exact absurd c72 (by first | decide | omega)
          refine x_goto rfl ?_
          exact hk V (some x) hF (Or.inr ⟨x, rfl, by omega, x2, fun c hc hgc => by by_cases e2 : c = w; subst e2; omega; exact x3 c (by omega) hgc⟩)
    · have hml : mns w (lmK K) < 2147483648 := Nat.lt_of_le_of_lt Nat.and_le_left (by omega)
      refine x_iload rfl rfl ?_
      refine x_aload_n rfl rfl ?_
      refine x_callV (M' := mi170) (As := []) (bc1 := 0) (bs1 := 0) (bc2 := 0) (bs2 := 0) rfl rfl rfl rfl ok170 rfl rfl (by decide) rfl rfl rfl rfl rfl rfl ?_
      refine m_livingK hM1 hW ?_
      refine x_icmpN_gt rfl (fun c43 => ?_) (fun c43 => ?_)
      · exact absurd c43 (by first | decide | omega)
      refine x_iload rfl rfl ?_
      refine x_aload_n rfl rfl ?_
      refine x_callV (M' := mi170) (As := []) (bc1 := 0) (bs1 := 0) (bc2 := 0) (bs2 := 0) rfl rfl rfl rfl ok170 rfl rfl (by decide) rfl rfl rfl rfl rfl rfl ?_
      refine m_livingK hM1 hW ?_
      refine x_iconst rfl ?_
      refine x_ixor rfl ?_
      refine x_iand rfl ?_
      rw [mnsI]
      refine x_ifN_ne rfl (fun c55 => ?_) (fun c55 => ?_)
      rotate_left
      · exact absurd c55 (by first | decide | omega)
      exact hk V b hF (hsame (fun z1 => cl z1.1))
set_option maxRecDepth 20000 in
theorem m_house_bad {a w : Int32} (hM : RK (V 76) K) (hW : WF K) (h : hasF (nI (K 94)) a = 0 ∨ liesF w 0 1 = false) (hP : P (some (.int (-1))) (LY ++ ext) V VL (vr G)) : Ex (d + 46) mi253 0 (entL [.ref 74, .int a, .int w] 5) [] (LY ++ ext) V VL (vr G) 0 0 P := by
  refine x_aload_n rfl rfl ?_
  refine x_iload_n rfl rfl ?_
  refine x_callV (M' := mi165) (As := [_]) (bc1 := 0) (bs1 := 0) (bc2 := 0) (bs2 := 0) rfl rfl rfl rfl ok165 rfl rfl (by decide) rfl rfl rfl rfl rfl rfl ?_
  refine m_isRollK hM hW ?_
  refine x_if_eq rfl (fun c5 => ?_) (fun c5 => ?_)
  · refine x_iconst rfl ?_
    refine x_iret rfl rfl ?_
    exact hP
  · refine x_iload_n rfl rfl ?_
    refine x_iconst rfl ?_
    refine x_iconst rfl ?_
    refine x_callS (M' := mi152) (As := [_, _, _]) (bc1 := 0) (bs1 := 0) (bc2 := 0) (bs2 := 0) rfl rfl rfl rfl ok152 rfl rfl rfl rfl rfl rfl ?_
    refine m_lies ?_
    refine x_if_ne rfl (fun c14 => ?_) (fun c14 => ?_)
    · exact absurd h (fun z => z.elim c5 (fun z => by rw [z] at c14; exact c14 rfl))
    · refine x_iconst rfl ?_
      refine x_iret rfl rfl ?_
      exact hP
set_option maxRecDepth 20000 in
theorem m_house {k : Nat} {b0 : Option Nat} (hk : k ≤ 1) (hb0 : lstC K (rdK K r) (onK K r) b0) (hM : RK (V 76) K) (hW : WF K) (hL : LwK K) (hr : r < K 94) (hP : ∀ V' : VIT, FrE2 V V' → P (some (.int (agI (b0.map (fun x => if k = 1 then x else popN x 6))))) (LY ++ ext) V' VL (vr G)) : Ex (d + 46) mi253 0 (entL [.ref 74, .int (nI r), .int (nI k)] 5) [] (LY ++ ext) V VL (vr G) 0 0 P := by
  have h6 := hW.n
  have h8 : K 94 ≤ 8 := hW.2.1
  have hd4 : rdK K r < 4 := (hW.roll hr).2.1
  have hlm := hW.lm
  have hlw : liesF (nI k) 0 1 = true := by
    rcases (show k = 0 ∨ k = 1 by omega) with rfl | rfl <;> decide
  refine x_aload_n rfl rfl ?_
  refine x_iload_n rfl rfl ?_
  refine x_callV (M' := mi165) (As := [_]) (bc1 := 0) (bs1 := 0) (bc2 := 0) (bs2 := 0) rfl rfl rfl rfl ok165 rfl rfl (by decide) rfl rfl rfl rfl rfl rfl ?_
  refine m_isRollK hM hW ?_
  rw [hasF_in hr (by omega)]
  refine x_if_eq rfl (fun c5 => ?_) (fun c5 => ?_)
  · exact absurd c5 (by first | decide | omega)
  refine x_iload_n rfl rfl ?_
  refine x_iconst rfl ?_
  refine x_iconst rfl ?_
  refine x_callS (M' := mi152) (As := [_, _, _]) (bc1 := 0) (bs1 := 0) (bc2 := 0) (bs2 := 0) rfl rfl rfl rfl ok152 rfl rfl rfl rfl rfl rfl ?_
  refine m_lies ?_
  rw [hlw]
  refine x_if_ne rfl (fun c14 => ?_) (fun c14 => ?_)
  rotate_left
  · exact absurd c14 (by first | decide | omega)
  refine x_aload_n rfl rfl ?_
  refine x_aload_n rfl rfl ?_
  refine x_getR (u := .ref _) rfl rfl rfl rfl ?_
  refine x_bipushN (q := 51) rfl ?_
  refine x_iload_n rfl rfl ?_
  refine x_iaddN rfl ?_
  refine x_ialE (j := 51 + r) rfl rfl (rfl) (by omega) (hM.at (51 + r)) ?_
  refine x_callV (M' := mi233) (As := [_]) (bc1 := 0) (bs1 := 0) (bc2 := 0) (bs2 := 0) rfl rfl rfl rfl ok233 rfl rfl (by decide) rfl rfl rfl rfl rfl rfl ?_
  refine m_laysTalks hM hW hL hd4 (fun V1 hF hO => ?_)
  refine x_iconst rfl ?_
  refine x_istore_n (ls' := [_, _, _, _, _]) rfl rfl rfl ?_
  refine x_iconstN (q := 0) rfl ?_
  refine x_istore (ls' := [_, _, _, _, _]) rfl rfl rfl ?_
  skip
  have hM1 : RK (V1 76) K := by rw [hF.row 76 (by omega) (by omega) (by omega)]; exact hM
  refine mh_loop (V0 := V1) hW hr hM1 hO (fun V2 b z4 hF2 hb => ?_) (lmK K + 1) 0 V1 none (by omega) (fun _ _ _ _ _ _ _ => rfl) (Or.inl ⟨rfl, fun c hc => absurd hc (by omega)⟩)
  have hbC : lstC K (rdK K r) (onK K r) b := by
    rcases hb with ⟨e, h⟩ | ⟨x, e, x1, x2, x3⟩
    · exact Or.inl ⟨e, fun c hc hg => h c (by have := sub_le hc hg.1; omega) hg⟩
    · exact Or.inr ⟨x, e, by omega, x2, fun c hc hg => x3 c (by have := sub_le hc hg.1; omega) hg⟩
  have hbl : ∀ x, b = some x → x < 64 := fun x hx => by
    rcases hb with ⟨e, h⟩ | ⟨y, e, y1, y2, y3⟩
    · rw [e] at hx; cases hx
    · rw [e] at hx
      have := Option.some.inj hx
      omega
  have hP2 := hP V2 (fun a k q1 q2 q3 q4 q5 q6 q7 q8 => (hF2 a k q3 q4 q5 q6 (by omega)).trans (hF a k q1 q2 (by omega)))
  rw [lstC_uni hb0 hbC] at hP2
  cases b with
  | none =>
    refine x_iload_n rfl rfl ?_
    refine x_iconst rfl ?_
    refine x_icmp_eq rfl (fun c113 => ?_) (fun c113 => ?_)
    rotate_left
    · exact absurd rfl c113
    refine x_iload_n rfl rfl ?_
    refine x_goto rfl ?_
    refine x_iret rfl rfl ?_
    exact hP2 | some x =>
    have hx := hbl x rfl
    rw [Option.map_some] at hP2
    show Ex (d + 46) mi253 111 [.ref 74, .int (nI r), .int (nI k), .int (nI x), z4] [] (LY ++ ext) V2 VL (vr G) 0 0 P
    by_cases c : k = 1
    · rw [if_pos c] at hP2
      refine x_iload_n rfl rfl ?_
      refine x_iconst rfl ?_
      refine x_icmp_eq rfl (fun c113 => ?_) (fun c113 => ?_)
      · exact absurd c113 (nI_m1 (by omega))
      refine x_iload_n rfl rfl ?_
      refine x_iconstN (q := 1) rfl ?_
      refine x_icmpN_ne rfl (fun c118 => ?_) (fun c118 => ?_)
      · exact absurd c118 (by first | decide | omega)
      refine x_iload_n rfl rfl ?_
      refine x_goto rfl ?_
      refine x_iret rfl rfl ?_
      exact hP2
    · rw [if_neg c] at hP2
      refine x_iload_n rfl rfl ?_
      refine x_iconst rfl ?_
      refine x_icmp_eq rfl (fun c113 => ?_) (fun c113 => ?_)
      · exact absurd c113 (nI_m1 (by omega))
      refine x_iload_n rfl rfl ?_
      refine x_iconstN (q := 1) rfl ?_
      refine x_icmpN_ne rfl (fun c118 => ?_) (fun c118 => ?_)
      rotate_left
      · exact absurd c118 (by first | decide | omega)
      refine x_iload_n rfl rfl ?_
      refine x_callS (M' := mi158) (As := [_]) (bc1 := 0) (bs1 := 0) (bc2 := 0) (bs2 := 0) rfl rfl rfl rfl ok158 rfl rfl rfl rfl rfl rfl ?_
      refine m_ones (by omega) ?_
      refine x_iret rfl rfl ?_
      exact hP2
end House
section Join20
variable {j : Nat} {lay : HL} {VI : VIT} {VL : VLT} {VR : VRT}
set_option maxRecDepth 20000 in
theorem j_house {a w : Int32} (hj : j ≤ 1000) (h : Inv j lay VI VL VR) : Pr 100 mi131 mi253 [.int a, .int w] lay VI VL VR (Inv (j + 1)) := by
  obtain ⟨ext, G, K, tn, T, u, US, lg, rfl, rfl, hS⟩ := h
  have hI := hS.next.inv (VL := VL)
  have hW := hS.1
  have hX := hS.2.1
  have hM := hS.2.2.1
  have hL := hS.2.2.2.2.2.2.2.2.2.1
  have h8 : K 94 ≤ 8 := hW.2.1
  obtain ⟨s, s1, s2, s3⟩ := hS.2.2.2.2.2.2.2.1
  by_cases hb : hasF (nI (K 94)) a = 0 ∨ w < 0 ∨ 1 < w
  · exact Pr_read (-1) (fun P q => x_house_bad hX hb q) (fun P q => m_house_bad hM hW (hb.elim Or.inl (fun z => Or.inr (by simp only [liesF, decide_eq_false_iff_not, not_and]; exact fun z1 => z.elim (fun z => absurd z z1) (fun z => Classical.not_not.mpr z)))) q) hI
  rcases has_cases (n := K 94) (by omega) a with h1 | ⟨r, hr, rfl⟩
  · exact absurd (Or.inl h1) hb
  have w0 : ¬ w < 0 := fun z => hb (Or.inr (Or.inl z))
  have w2 : ¬ 2 ≤ w := fun z => hb (Or.inr (Or.inr (by rw [Int32.le_iff_toInt_le] at z; rw [Int32.lt_iff_toInt_lt]; have e2 : (2 : Int32).toInt = 2 := rfl; have e1 : (1 : Int32).toInt = 1 := rfl; omega)))
  obtain ⟨k, hk, rfl⟩ : ∃ k, k ≤ 1 ∧ w = nI k := by
    rcases in2 w0 w2 with rfl | rfl
    · exact ⟨0, by omega, rfl⟩
    · exact ⟨1, by omega, rfl⟩
  refine ExS.budget (bc := 0) (bs := 0) (x_house hk hX hW hL hr (s := s) (by omega) ⟨s2, s3⟩ (fun V1 n b hF hS1 hn hb2 _ => ⟨_, ext, rfl, rfl, ?_⟩)) (by omega) (by omega)
  have hM1 : RK (V1 76) K := by rw [show V1 76 = VI 76 from funext (fun k => hF 76 k (by omega) (by omega) (by omega) (by omega) (by omega) (by omega) (by omega) (by omega) (by omega))]; exact hM
  exact m_house hk hb2 hM1 hW hL.K hr (fun V2 hE => ⟨rfl, (hS.srch hF s1 hn hS1 hE).inv⟩)
end Join20
