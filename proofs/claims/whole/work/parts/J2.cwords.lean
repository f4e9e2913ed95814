/-! ===== the class lays the words of orders ===== -/
set_option maxRecDepth 20000 in
theorem envO_16 {K : KT} {ran : Nat} {lat : Int} : envO K ran lat 16 = (K 38 : Int) := rfl
set_option maxRecDepth 20000 in
theorem envO_17 {K : KT} {ran : Nat} {lat : Int} : envO K ran lat 17 = (ran : Int) := rfl
set_option maxRecDepth 20000 in
theorem envO_18 {K : KT} {ran : Nat} {lat : Int} : envO K ran lat 18 = lat := rfl
set_option maxRecDepth 20000 in
theorem envO_19 {K : KT} {ran : Nat} {lat : Int} : envO K ran lat 19 = (popN (lmK K) 8 : Int) := rfl
set_option maxRecDepth 20000 in
theorem envO_roll {K : KT} {ran r : Nat} {lat : Int} : envO K ran lat (200 + r) = if r < K 94 then (if agK K r = none then 0 else 1) else -1 := by
  unfold envO
  rw [if_neg (by omega), if_neg (by omega), if_neg (by omega), if_neg (by omega), if_pos (by omega), show 200 + r - 200 = r by omega]
set_option maxRecDepth 20000 in
theorem envO_mark {K : KT} {ran i : Nat} {lat : Int} (h : i < 24) : envO K ran lat (100 + i) = if i / 4 < K 93 then (K i : Int) else -1 := by
  unfold envO
  rw [if_neg (by omega), if_neg (by omega), if_neg (by omega), if_neg (by omega), if_neg (by omega), show 100 + i - 100 = i by omega]
section CWords
variable {d : Nat} {V V0 : VIT} {VL : VLT} {G : VRT} {P : Post} {ext : HL} {K : KT} {ran : Nat} {lat : Int}
set_option maxRecDepth 20000 in
theorem s_accord_outK {r : Int32} (hX : RW 3 K V) (h : hasF (nI (K 94)) r = 0) (hP : P (some (.int (-1))) (LY ++ ext) V VL (vr G)) : Ex (d + 3) mi107 0 (entL [.ref 3, .int r] 2) [] (LY ++ ext) V VL (vr G) 0 0 P := by
  refine x_aload_n rfl rfl ?_
  refine x_iload_n rfl rfl ?_
  refine x_callV (M' := mi96) (As := [_]) (bc1 := 0) (bs1 := 0) (bc2 := 0) (bs2 := 0) rfl rfl rfl rfl ok96 rfl rfl (by decide) rfl rfl rfl rfl rfl rfl ?_
  refine s_hasRollK hX ?_
  rw [h]
  refine x_if_eq rfl (fun c5 => ?_) (fun c5 => ?_)
  rotate_left
  · exact absurd c5 (by first | decide | omega)
  refine x_iconst rfl ?_
  refine x_iret rfl rfl ?_
  exact hP
set_option maxRecDepth 20000 in
theorem sw_rolls (hW : WF K) (hP : ∀ V' : VIT, (∀ a, a ≠ 60 → V' a = V0 a) → (∀ k, k < 4 → V' 60 k = V0 60 k) → (∀ r, r < 8 → V' 60 (4 + r) = Int32.ofInt (envO K ran lat (200 + r))) → Ex (d + 4) mi23 107 [.ref 59, .int (nI 8), .retAddr 9] [] (LY ++ ext) V' VL (vr G) 0 0 P) (hP' : ∀ (V' : VIT) (z : Value), (∀ a, a ≠ 60 → V' a = V0 a) → (∀ k, k < 4 → V' 60 k = V0 60 k) → (∀ r, r < 8 → V' 60 (4 + r) = Int32.ofInt (envO K ran lat (200 + r))) → Ex (d + 4) mi23 107 [.ref 59, .int (nI 8), z] [] (LY ++ ext) V' VL (vr G) 0 0 P) (hX0 : RW 3 K V0) : ∀ (m r : Nat) (V : VIT) (z : Value), r + m = 8 → (∀ a, a ≠ 60 → V a = V0 a) → (∀ k, k < 4 → V 60 k = V0 60 k) → (∀ q, q < r → V 60 (4 + q) = Int32.ofInt (envO K ran lat (200 + q))) → Ex (d + 4) mi23 53 [.ref 59, .int (nI r), z] [] (LY ++ ext) V VL (vr G) 0 0 P := by
  have h8 : K 94 ≤ 8 := hW.2.1
  intro m
  induction m with
  | zero =>
    intro r V z hr hF h4 hv
    have e : r = 8 := by omega
    subst e
    refine x_iload_n rfl rfl ?_
    refine x_bipushN (q := 8) rfl ?_
    refine x_icmpN_ge rfl (fun c56 => ?_) (fun c56 => ?_)
    rotate_left
    · exact absurd c56 (by first | decide | omega)
    exact hP' V z hF h4 hv | succ m ih =>
    intro r V z hr hF h4 hv
    have hX : RW 3 K V := hX0.same (fun a _ _ => hF a (by omega))
    have hst : ∀ x : Int32, x = Int32.ofInt (envO K ran lat (200 + r)) → (∀ a, a ≠ 60 → up V 60 (4 + r) x a = V0 a) ∧ (∀ k, k < 4 → up V 60 (4 + r) x 60 k = V0 60 k) ∧ ∀ q, q < r + 1 → up V 60 (4 + r) x 60 (4 + q) = Int32.ofInt (envO K ran lat (200 + q)) := by
      intro x hx
      refine ⟨fun a ha => by rw [up_ne ha]; exact hF a ha, fun k hk => by rw [up_at' (by omega)]; exact h4 k hk, fun q hq => ?_⟩
      by_cases c : q = r
      · rw [c, up_at]; exact hx
      · rw [up_at' (by omega)]; exact hv q (by omega)
    by_cases c : r < K 94
    · cases hc : agK K r with
      | none =>
        obtain ⟨s1, s2, s3⟩ := hst (nI 0) (by rw [envO_roll, if_pos c, if_pos hc]; rfl)
        refine x_iload_n rfl rfl ?_
        refine x_bipushN (q := 8) rfl ?_
        refine x_icmpN_ge rfl (fun c56 => ?_) (fun c56 => ?_)
        · exact absurd c56 (by first | decide | omega)
        refine x_aload_n rfl rfl ?_
        refine x_getR (u := .ref _) rfl rfl rfl rfl ?_
        refine x_iload_n rfl rfl ?_
        refine x_callV (M' := mi107) (As := [_]) (bc1 := 0) (bs1 := 0) (bc2 := 0) (bs2 := 0) rfl rfl rfl rfl ok107 rfl rfl (by decide) rfl rfl rfl rfl rfl rfl ?_
        refine s_accordK hX hW c ?_
        rw [hc]
        refine x_iconst rfl ?_
        refine x_icmp_ne rfl (fun c68 => ?_) (fun c68 => ?_)
        · exact absurd rfl c68
        refine x_iconstN (q := 0) rfl ?_
        refine x_goto rfl ?_
        refine x_istore_n (ls' := [_, _, _]) rfl rfl rfl ?_
        refine x_aload_n rfl rfl ?_
        refine x_getR (u := .ref _) rfl rfl rfl rfl ?_
        refine x_iconstN (q := 4) rfl ?_
        refine x_iload_n rfl rfl ?_
        refine x_iaddN rfl ?_
        refine x_aload_n rfl rfl ?_
        refine x_getR (u := .ref _) rfl rfl rfl rfl ?_
        refine x_iload_n rfl rfl ?_
        refine x_callV (M' := mi96) (As := [_]) (bc1 := 0) (bs1 := 0) (bc2 := 0) (bs2 := 0) rfl rfl rfl rfl ok96 rfl rfl (by decide) rfl rfl rfl rfl rfl rfl ?_
        refine s_hasRollK hX ?_
        rw [hasF_in c (by omega)]
        refine x_if_eq rfl (fun c92 => ?_) (fun c92 => ?_)
        · exact absurd c92 (by first | decide | omega)
        refine x_iload_n rfl rfl ?_
        refine x_goto rfl ?_
        refine x_iasN (j := 4 + r) rfl rfl (rfl) (by omega) ?_
        skip
        refine x_iincN (q := 1) (ls' := [_, _, _]) rfl rfl rfl rfl ?_
        refine x_goto rfl ?_
        exact ih (r + 1) _ _ (by omega) s1 s2 s3 | some o =>
        obtain ⟨s1, s2, s3⟩ := hst (nI 1) (by rw [envO_roll, if_pos c, if_neg (by rw [hc]; intro z; cases z)]; rfl)
        have hl := agK_lt100 hW c (z100 o) (by rw [hc]; rfl)
        have hne : ¬ agI ((some o).map z100) = -1 := nI_m1 (k := z100 o) (by omega)
        refine x_iload_n rfl rfl ?_
        refine x_bipushN (q := 8) rfl ?_
        refine x_icmpN_ge rfl (fun c56 => ?_) (fun c56 => ?_)
        · exact absurd c56 (by first | decide | omega)
        refine x_aload_n rfl rfl ?_
        refine x_getR (u := .ref _) rfl rfl rfl rfl ?_
        refine x_iload_n rfl rfl ?_
        refine x_callV (M' := mi107) (As := [_]) (bc1 := 0) (bs1 := 0) (bc2 := 0) (bs2 := 0) rfl rfl rfl rfl ok107 rfl rfl (by decide) rfl rfl rfl rfl rfl rfl ?_
        refine s_accordK hX hW c ?_
        rw [hc]
        refine x_iconst rfl ?_
        refine x_icmp_ne rfl (fun c68 => ?_) (fun c68 => ?_)
        rotate_left
        · exact absurd c68 hne
        refine x_iconstN (q := 1) rfl ?_
        refine x_istore_n (ls' := [_, _, _]) rfl rfl rfl ?_
        refine x_aload_n rfl rfl ?_
        refine x_getR (u := .ref _) rfl rfl rfl rfl ?_
        refine x_iconstN (q := 4) rfl ?_
        refine x_iload_n rfl rfl ?_
        refine x_iaddN rfl ?_
        refine x_aload_n rfl rfl ?_
        refine x_getR (u := .ref _) rfl rfl rfl rfl ?_
        refine x_iload_n rfl rfl ?_
        refine x_callV (M' := mi96) (As := [_]) (bc1 := 0) (bs1 := 0) (bc2 := 0) (bs2 := 0) rfl rfl rfl rfl ok96 rfl rfl (by decide) rfl rfl rfl rfl rfl rfl ?_
        refine s_hasRollK hX ?_
        rw [hasF_in c (by omega)]
        refine x_if_eq rfl (fun c92 => ?_) (fun c92 => ?_)
        · exact absurd c92 (by first | decide | omega)
        refine x_iload_n rfl rfl ?_
        refine x_goto rfl ?_
        refine x_iasN (j := 4 + r) rfl rfl (rfl) (by omega) ?_
        skip
        refine x_iincN (q := 1) (ls' := [_, _, _]) rfl rfl rfl rfl ?_
        refine x_goto rfl ?_
        exact ih (r + 1) _ _ (by omega) s1 s2 s3
    · obtain ⟨s1, s2, s3⟩ := hst (-1) (by rw [envO_roll, if_neg c]; rfl)
      have ho : hasF (nI (K 94)) (nI r) = 0 := hasF_bigN (by omega) (by omega)
      refine x_iload_n rfl rfl ?_
      refine x_bipushN (q := 8) rfl ?_
      refine x_icmpN_ge rfl (fun c56 => ?_) (fun c56 => ?_)
      · exact absurd c56 (by first | decide | omega)
      refine x_aload_n rfl rfl ?_
      refine x_getR (u := .ref _) rfl rfl rfl rfl ?_
      refine x_iload_n rfl rfl ?_
      refine x_callV (M' := mi107) (As := [_]) (bc1 := 0) (bs1 := 0) (bc2 := 0) (bs2 := 0) rfl rfl rfl rfl ok107 rfl rfl (by decide) rfl rfl rfl rfl rfl rfl ?_
      refine s_accord_outK hX ho ?_
      refine x_iconst rfl ?_
      refine x_icmp_ne rfl (fun c68 => ?_) (fun c68 => ?_)
      · exact absurd rfl c68
      refine x_iconstN (q := 0) rfl ?_
      refine x_goto rfl ?_
      refine x_istore_n (ls' := [_, _, _]) rfl rfl rfl ?_
      refine x_aload_n rfl rfl ?_
      refine x_getR (u := .ref _) rfl rfl rfl rfl ?_
      refine x_iconstN (q := 4) rfl ?_
      refine x_iload_n rfl rfl ?_
      refine x_iaddN rfl ?_
      refine x_aload_n rfl rfl ?_
      refine x_getR (u := .ref _) rfl rfl rfl rfl ?_
      refine x_iload_n rfl rfl ?_
      refine x_callV (M' := mi96) (As := [_]) (bc1 := 0) (bs1 := 0) (bc2 := 0) (bs2 := 0) rfl rfl rfl rfl ok96 rfl rfl (by decide) rfl rfl rfl rfl rfl rfl ?_
      refine s_hasRollK hX ?_
      rw [ho]
      refine x_if_eq rfl (fun c92 => ?_) (fun c92 => ?_)
      rotate_left
      · exact absurd c92 (by first | decide | omega)
      refine x_iconst rfl ?_
      refine x_iasN (j := 4 + r) rfl rfl (rfl) (by omega) ?_
      skip
      refine x_iincN (q := 1) (ls' := [_, _, _]) rfl rfl rfl rfl ?_
      refine x_goto rfl ?_
      exact ih (r + 1) _ _ (by omega) s1 s2 s3
set_option maxRecDepth 20000 in
theorem sw_marks (hW : WF K) (hP : ∀ V' : VIT, (∀ a, a ≠ 60 → V' a = V0 a) → (∀ k, k < 12 → V' 60 k = V0 60 k) → (∀ i, i < 24 → V' 60 (12 + i) = Int32.ofInt (envO K ran lat (100 + i))) → P none (LY ++ ext) V' VL (vr G)) (hX0 : RW 3 K V0) : ∀ (m i : Nat) (V : VIT) (z : Value), i + m = 24 → (∀ a, a ≠ 60 → V a = V0 a) → (∀ k, k < 12 → V 60 k = V0 60 k) → (∀ q, q < i → V 60 (12 + q) = Int32.ofInt (envO K ran lat (100 + q))) → Ex (d + 4) mi23 109 [.ref 59, .int (nI i), z] [] (LY ++ ext) V VL (vr G) 0 0 P := by
  have h6 := hW.n
  intro m
  induction m with
  | zero =>
    intro i V z hi hF h4 hv
    have e : i = 24 := by omega
    subst e
    refine x_iload_n rfl rfl ?_
    refine x_bipushN (q := 24) rfl ?_
    refine x_icmpN_ge rfl (fun c112 => ?_) (fun c112 => ?_)
    rotate_left
    · exact absurd c112 (by first | decide | omega)
    refine x_vret rfl rfl ?_
    exact hP V hF h4 hv | succ m ih =>
    intro i V z hi hF h4 hv
    have hX : RW 3 K V := hX0.same (fun a _ _ => hF a (by omega))
    have hst : ∀ x : Int32, x = Int32.ofInt (envO K ran lat (100 + i)) → (∀ a, a ≠ 60 → up V 60 (12 + i) x a = V0 a) ∧ (∀ k, k < 12 → up V 60 (12 + i) x 60 k = V0 60 k) ∧ ∀ q, q < i + 1 → up V 60 (12 + i) x 60 (12 + q) = Int32.ofInt (envO K ran lat (100 + q)) := by
      intro x hx
      refine ⟨fun a ha => by rw [up_ne ha]; exact hF a ha, fun k hk => by rw [up_at' (by omega)]; exact h4 k hk, fun q hq => ?_⟩
      by_cases c : q = i
      · rw [c, up_at]; exact hx
      · rw [up_at' (by omega)]; exact hv q (by omega)
    by_cases c : i / 4 < K 93
    · have ek : 4 * (i / 4) + i % 4 = i := by omega
      obtain ⟨s1, s2, s3⟩ := hst (nI (K i)) (by rw [envO_mark (by omega), if_pos c]; exact oI_nat)
      have hmk : V 6 (i / 4 * 4 + i % 4) = nI (K i) := by
        have := hX.mark c (show i % 4 < 4 by omega)
        rw [ek] at this
        exact this
      refine x_iload_n rfl rfl ?_
      refine x_bipushN (q := 24) rfl ?_
      refine x_icmpN_ge rfl (fun c112 => ?_) (fun c112 => ?_)
      · exact absurd c112 (by first | decide | omega)
      refine x_aload_n rfl rfl ?_
      refine x_getR (u := .ref _) rfl rfl rfl rfl ?_
      refine x_bipushN (q := 12) rfl ?_
      refine x_iload_n rfl rfl ?_
      refine x_iaddN rfl ?_
      refine x_aload_n rfl rfl ?_
      refine x_getR (u := .ref _) rfl rfl rfl rfl ?_
      refine x_iload_n rfl rfl ?_
      refine x_iconstN (q := 4) rfl ?_
      refine x_idivN rfl ?_
      refine x_iload_n rfl rfl ?_
      refine x_iconstN (q := 4) rfl ?_
      refine x_iremN rfl ?_
      refine x_callV (M' := mi101) (As := [_, _]) (bc1 := 0) (bs1 := 0) (bc2 := 0) (bs2 := 0) rfl rfl rfl rfl ok101 rfl rfl (by decide) rfl rfl rfl rfl rfl rfl ?_
      refine s_markOf_in hX.n c h6 (by omega) ?_
      rw [hmk]
      refine x_iasN (j := 12 + i) rfl rfl (rfl) (by omega) ?_
      refine x_iincN (q := 1) (ls' := [_, _, _]) rfl rfl rfl rfl ?_
      refine x_goto rfl ?_
      exact ih (i + 1) _ _ (by omega) s1 s2 s3
    · obtain ⟨s1, s2, s3⟩ := hst (-1) (by rw [envO_mark (by omega), if_neg c]; rfl)
      refine x_iload_n rfl rfl ?_
      refine x_bipushN (q := 24) rfl ?_
      refine x_icmpN_ge rfl (fun c112 => ?_) (fun c112 => ?_)
      · exact absurd c112 (by first | decide | omega)
      refine x_aload_n rfl rfl ?_
      refine x_getR (u := .ref _) rfl rfl rfl rfl ?_
      refine x_bipushN (q := 12) rfl ?_
      refine x_iload_n rfl rfl ?_
      refine x_iaddN rfl ?_
      refine x_aload_n rfl rfl ?_
      refine x_getR (u := .ref _) rfl rfl rfl rfl ?_
      refine x_iload_n rfl rfl ?_
      refine x_iconstN (q := 4) rfl ?_
      refine x_idivN rfl ?_
      refine x_iload_n rfl rfl ?_
      refine x_iconstN (q := 4) rfl ?_
      refine x_iremN rfl ?_
      refine x_callV (M' := mi101) (As := [_, _]) (bc1 := 0) (bs1 := 0) (bc2 := 0) (bs2 := 0) rfl rfl rfl rfl ok101 rfl rfl (by decide) rfl rfl rfl rfl rfl rfl ?_
      refine s_markOf_out (Or.inl (by rw [hX.n]; exact hasF_bigN (by omega) (by omega))) ?_
      refine x_iasN (j := 12 + i) rfl rfl (rfl) (by omega) ?_
      refine x_iincN (q := 1) (ls' := [_, _, _]) rfl rfl rfl rfl ?_
      refine x_goto rfl ?_
      exact ih (i + 1) _ _ (by omega) s1 s2 s3
set_option maxRecDepth 20000 in
theorem x_setWordsO (hX : RW 3 K V) (hW : WF K) (hr : V 59 4 = nI ran) (hl : V 59 5 = Int32.ofInt lat) (hP : ∀ V' : VIT, (∀ a, a ≠ 60 → V' a = V a) → (∀ k, k < 36 → V' 60 k = Int32.ofInt (envO K ran lat (owm k))) → P none (LY ++ ext) V' VL (vr G)) : Ex (d + 4) mi23 0 (entL [.ref 59] 3) [] (LY ++ ext) V VL (vr G) 0 0 P := by
  have hlm := hW.lm
  have hg : ∀ V1 : VIT, (∀ a, a ≠ 60 → V1 a = V a) → V1 60 0 = nI (K 38) → V1 60 1 = nI ran → V1 60 2 = Int32.ofInt lat → V1 60 3 = nI (popN (lmK K) 8) → Ex (d + 4) mi23 51 [.ref 59, .retAddr 9, .retAddr 9] [] (LY ++ ext) V1 VL (vr G) 0 0 P := by
    intro V1 hF e0 e1 e2 e3
    have hX1 : RW 3 K V1 := hX.same (fun a _ _ => hF a (by omega))
    have hend : ∀ (V2 : VIT) (z : Value), (∀ a, a ≠ 60 → V2 a = V1 a) → (∀ k, k < 4 → V2 60 k = V1 60 k) → (∀ r, r < 8 → V2 60 (4 + r) = Int32.ofInt (envO K ran lat (200 + r))) → Ex (d + 4) mi23 107 [.ref 59, .int (nI 8), z] [] (LY ++ ext) V2 VL (vr G) 0 0 P := by
      intro V2 z hF2 h4 h12
      have hX2 : RW 3 K V2 := hX1.same (fun a _ _ => hF2 a (by omega))
      refine x_iconstN (q := 0) rfl ?_
      refine x_istore_n (ls' := [_, _, _]) rfl rfl rfl ?_
      refine sw_marks (V0 := V2) (ran := ran) (lat := lat) hW (fun V3 hF3 g12 gm => ?_) hX2 24 0 V2 _ (by omega) (fun _ _ => rfl) (fun _ _ => rfl) (fun q hq => absurd hq (by omega))
      refine hP V3 (fun a ha => by rw [hF3 a ha, hF2 a ha, hF a ha]) (fun k hk => ?_)
      unfold owm
      by_cases c4 : k < 4
      · rw [if_pos c4, g12 k (by omega), h4 k c4]
        rcases (show k = 0 ∨ k = 1 ∨ k = 2 ∨ k = 3 by omega) with rfl | rfl | rfl | rfl
        · rw [e0, envO_16]; exact oI_nat
        · rw [e1, envO_17]; exact oI_nat
        · rw [e2, envO_18]
        · rw [e3, envO_19]; exact oI_nat
      · rw [if_neg c4]
        by_cases c12 : k < 12
        · rw [if_pos c12, g12 k c12, show k = 4 + (k - 4) by omega, h12 (k - 4) (by omega), show 4 + (k - 4) - 4 = k - 4 by omega]
        · rw [if_neg c12, show k = 12 + (k - 12) by omega, gm (k - 12) (by omega), show 12 + (k - 12) - 12 = k - 12 by omega]
    refine x_iconstN (q := 0) rfl ?_
    refine x_istore_n (ls' := [_, _, _]) rfl rfl rfl ?_
    exact sw_rolls (V0 := V1) (ran := ran) (lat := lat) hW (fun V2 q1 q2 q3 => hend V2 _ q1 q2 q3) hend hX1 8 0 V1 _ (by omega) (fun _ _ => rfl) (fun _ _ => rfl) (fun q hq => absurd hq (by omega))
  refine x_aload_n rfl rfl ?_
  refine x_getR (u := .ref _) rfl rfl rfl rfl ?_
  refine x_iconstN (q := 0) rfl ?_
  refine x_aload_n rfl rfl ?_
  refine x_getR (u := .ref _) rfl rfl rfl rfl ?_
  refine x_getR (u := .ref _) rfl rfl rfl rfl ?_
  refine x_iconstN (q := 0) rfl ?_
  refine x_ialE (j := 0) rfl rfl (rfl) (by omega) (hX.t0) ?_
  refine x_iasN (j := 0) rfl rfl (rfl) (by omega) ?_
  refine x_aload_n rfl rfl ?_
  refine x_getR (u := .ref _) rfl rfl rfl rfl ?_
  refine x_iconst rfl ?_
  refine x_aload_n rfl rfl ?_
  refine x_getE (y := 4) rfl rfl rfl ((up_ne2 (by omega)).trans hr) ?_
  refine x_iasN (j := 1) rfl rfl (rfl) (by omega) ?_
  refine x_aload_n rfl rfl ?_
  refine x_getR (u := .ref _) rfl rfl rfl rfl ?_
  refine x_iconst rfl ?_
  refine x_aload_n rfl rfl ?_
  refine x_getE (y := 5) rfl rfl rfl ((up_ne2 (by omega)).trans ((up_ne2 (by omega)).trans hl)) ?_
  refine x_iasN (j := 2) rfl rfl (rfl) (by omega) ?_
  refine x_aload_n rfl rfl ?_
  refine x_getR (u := .ref _) rfl rfl rfl rfl ?_
  refine x_iconst rfl ?_
  refine x_aload_n rfl rfl ?_
  refine x_getR (u := .ref _) rfl rfl rfl rfl ?_
  refine x_getE (y := 1) rfl rfl rfl ((up_ne2 (by omega)).trans ((up_ne2 (by omega)).trans ((up_ne2 (by omega)).trans hX.lm))) ?_
  refine x_callS (M' := mi280) (As := [_]) (bc1 := 0) (bs1 := 0) (bc2 := 0) (bs2 := 0) rfl rfl rfl rfl ok280 rfl rfl rfl rfl rfl rfl ?_
  refine s_bitCount (by omega) ?_
  refine x_iasN (j := 3) rfl rfl (rfl) (by omega) ?_
  skip
  refine hg _ (fun a ha => by rw [up_ne ha, up_ne ha, up_ne ha, up_ne ha]) ?_ ?_ ?_ ?_
  · rw [up_at' (by omega), up_at' (by omega), up_at' (by omega), up_at]
  · rw [up_at' (by omega), up_at' (by omega), up_at]
  · rw [up_at' (by omega), up_at]
  · rw [up_at]
end CWords
