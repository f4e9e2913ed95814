/-! ===== talk ===== -/
set_option maxRecDepth 20000 in
theorem St.scr0 {j : Nat} {ext : HL} {G : VRT} {K : KT} {tn : Nat} {T : Nat → Nat} {u : Nat} {US : Nat → KT} {lg : Nat → Nat} {VI VI' : VIT} (h : St j ext G K tn T u US lg VI) (hF : ∀ a k, kpP a k → VI' a k = VI a k) : St j ext G K tn T u US lg VI' := by
  obtain ⟨a1, a2, a3, a4, a5, a6, a7, -, a9⟩ := h.scratch hF
  exact ⟨a1, a2, a3, a4, a5, a6, a7, h.2.2.2.2.2.2.2.1.same (hF 63 6 (by unfold kpP; omega)) (funext (fun k => hF 65 k (by unfold kpP; omega))), a9⟩
noncomputable def mixV (V W : VIT) : VIT := fun a k => @ite _ (kpP a k) (Classical.propDecidable _) (W a k) (V a k)
set_option maxRecDepth 20000 in
theorem mixV_y {V W : VIT} {a k : Nat} (h : kpP a k) : mixV V W a k = W a k := by unfold mixV; exact if_pos h
set_option maxRecDepth 20000 in
theorem mixV_n {V W : VIT} {a k : Nat} (h : ¬ kpP a k) : mixV V W a k = V a k := by unfold mixV; exact if_neg h
set_option maxRecDepth 20000 in
theorem mixV_row {V W : VIT} {a : Nat} (h : ∀ k, kpP a k) : mixV V W a = W a := funext (fun k => mixV_y (h k))
def KX' (V V' : VIT) (s v g : Nat) : Prop := V' 45 2 = nI (v + 1) ∧ (∀ i, i < v → V' 46 i = V 46 (i + s)) ∧ V' 46 v = nI g ∧ ∀ a k, kpP a k → a ≠ 46 → ¬ (a = 45 ∧ k = 2) → (a < 3 ∨ 12 < a) → V' a k = V a k
def KM' (V V' : VIT) (s v dd : Nat) : Prop := V' 74 32 = nI (v + 1) ∧ (∀ k, k < 40 * v → V' 88 k = V 88 (k + 40 * s)) ∧ (∀ k, k < 39 → V' 88 (40 * v + k) = V 76 k) ∧ V' 88 (40 * v + 39) = nI dd ∧ ∀ a k, kpP a k → a ≠ 88 → a ≠ 76 → ¬ (a = 74 ∧ k = 32) → V' a k = V a k
set_option maxRecDepth 20000 in
theorem KX.w {V V' : VIT} {s v g : Nat} (h : KX V V' s v g) : KX' V V' s v g := ⟨h.1, h.2.1, h.2.2.1, fun a k _ => h.2.2.2 a k⟩
set_option maxRecDepth 20000 in
theorem KM.w {V V' : VIT} {s v g : Nat} (h : KM V V' s v g) : KM' V V' s v g := ⟨h.1, h.2.1, h.2.2.1, h.2.2.2.1, fun a k _ => h.2.2.2.2 a k⟩
set_option maxRecDepth 20000 in
theorem St.deed2 {j : Nat} {ext : HL} {G : VRT} {K K' : KT} {tn : Nat} {T : Nat → Nat} {u s v g : Nat} {US : Nat → KT} {lg : Nat → Nat} {VI VI1 VI2 : VIT} (h : St j ext G K tn T u US lg VI) (hn : Nxt u s v) (hg : g < 65536) (hx : KX' VI VI1 s v g) (hX : RW 3 K' VI1) (hm : KM' (up VI1 0 17 0) VI2 s v (g % 4)) (hM : RK (VI2 76) K') (hW : WF K') (hu : Undoes (K 93) (K 94) g K' K) (eK : ∀ i, 39 ≤ i → K' i = K i) : St (j + 1) ext G K' tn T (v + 1) (US1 US s v K') (lg1 lg s v g) (up VI2 74 0 0) := by
  have k45 : ∀ k, kpP 45 k := fun k => by unfold kpP; omega
  have k46 : ∀ k, kpP 46 k := fun k => by unfold kpP; omega
  have k76 : ∀ k, kpP 76 k := fun k => by unfold kpP; omega
  have k88 : ∀ k, kpP 88 k := fun k => by unfold kpP; omega
  have k0 : ∀ k, kpP 0 k := fun k => by unfold kpP; omega
  have k7432 : kpP 74 32 := by unfold kpP; omega
  have k740 : kpP 74 0 := by unfold kpP; omega
  have e1 : ∀ a k, kpP a k → mixV VI VI1 a k = VI1 a k := fun a k q => mixV_y q
  have e2 : ∀ a k, kpP a k → up (mixV VI VI1) 0 17 0 a k = up VI1 0 17 0 a k := fun a k q => by
    by_cases c : a = 0 ∧ k = 17
    · obtain ⟨rfl, rfl⟩ := c
      rw [up_at, up_at]
    · rw [up_ne2 c, up_ne2 c]; exact e1 a k q
  have h1 : KX VI (mixV VI VI1) s v g := by
    obtain ⟨x1, x2, x3, x4⟩ := hx
    refine ⟨by rw [e1 _ _ (k45 _)]; exact x1, fun i hi => by rw [e1 _ _ (k46 _)]; exact x2 i hi, by rw [e1 _ _ (k46 _)]; exact x3, fun a k q1 q2 q3 => ?_⟩
    by_cases c : kpP a k
    · rw [e1 a k c]; exact x4 a k c q1 q2 q3
    · exact mixV_n c
  have hX1 : RW 3 K' (mixV VI VI1) := hX.same (fun a _ _ => mixV_row (fun k => by unfold kpP; omega))
  have h2 : KM (up (mixV VI VI1) 0 17 0) (mixV (up (mixV VI VI1) 0 17 0) VI2) s v (g % 4) := by
    obtain ⟨x1, x2, x3, x4, x5⟩ := hm
    refine ⟨by rw [mixV_y k7432]; exact x1, fun k hk => by rw [mixV_y (k88 _), e2 _ _ (k88 _)]; exact x2 k hk, fun k hk => by rw [mixV_y (k88 _), e2 _ _ (k76 _)]; exact x3 k hk, by rw [mixV_y (k88 _)]; exact x4, fun a k q1 q2 q3 => ?_⟩
    by_cases c : kpP a k
    · rw [mixV_y c, e2 a k c]; exact x5 a k c q1 q2 q3
    · exact mixV_n c
  have hM1 : RK (mixV (up (mixV VI VI1) 0 17 0) VI2 76) K' := by rw [mixV_row k76]; exact hM
  have hd := h.deed hn hg h1 hX1 h2 hM1 hW hu eK
  refine hd.scr0 (fun a k q => ?_)
  by_cases c : a = 74 ∧ k = 0
  · obtain ⟨rfl, rfl⟩ := c
    rw [up_at, up_at]
  · rw [up_ne2 c, up_ne2 c, mixV_y q]
def tkK (K : KT) (p q dy c : Nat) : KT := ku (ku K (4 * p + dy) (c / 4)) (4 * q + dy) (c % 4)
def chgN (mk c : Nat) : Nat := (if mk / 4 = c / 4 then 0 else 1) + (if mk % 4 = c % 4 then 0 else 1)
set_option maxRecDepth 20000 in
theorem chgN_le {mk c : Nat} : chgN mk c ≤ 2 := by
  unfold chgN
  split <;> split <;> omega
set_option maxRecDepth 20000 in
theorem tkK_WF {K : KT} {p q dy c : Nat} (hW : WF K) (hp : p < K 93) (hq : q < K 93) (hd4 : dy < 4) (hc : c < 16) : WF (tkK K p q dy c) := by
  have h6 := hW.n
  have e93 : ku K (4 * p + dy) (c / 4) 93 = K 93 := ku_ne (by omega)
  exact (hW.mark1 hp hd4 (by omega)).mark1 (by rw [e93]; exact hq) hd4 (by omega)
set_option maxRecDepth 20000 in
theorem tkK_ge {K : KT} {p q dy c : Nat} (hW : WF K) (hp : p < K 93) (hq : q < K 93) (hd4 : dy < 4) (i : Nat) (hi : 24 ≤ i) : tkK K p q dy c i = K i := by
  have h6 := hW.n
  unfold tkK
  rw [ku_ne (by omega), ku_ne (by omega)]
set_option maxRecDepth 20000 in
theorem tkK_un {K : KT} {p q dy c : Nat} (hW : WF K) (hp : p < K 93) (hq : q < K 93) (hpq : p ≠ q) (hd4 : dy < 4) : Undoes (K 93) (K 94) ((((dy * 8 + p) * 8 + q) * 16 + ((K (4 * p + dy)) * 4 + (K (4 * q + dy)))) * 4 + 0) (tkK K p q dy c) K := by
  have h6 := hW.n
  have m1 := hW.mark hp hd4
  have m2 := hW.mark hq hd4
  refine Or.inl ⟨by omega, dy, p, q, (K (4 * p + dy)) * 4 + (K (4 * q + dy)), hd4, hp, hq, hpq, by omega, by omega, by omega, by omega, fun k hk h1 h2 => ?_⟩
  unfold tkK
  rw [ku_ne h2, ku_ne h1]
section Talk
variable {d : Nat} {V : VIT} {VL : VLT} {G : VRT} {P : Post} {ext : HL} {K : KT} {p q dy : Nat}
set_option maxRecDepth 20000 in
theorem s_changed {lay : HL} {VR : VRT} {mk c : Nat} (hm : mk < 16) (hc : c < 16) (hP : P (some (.int (nI (chgN mk c)))) lay V VL VR) : Ex d mi9 0 (entL [.int (nI mk), .int (nI c)] 2) [] lay V VL VR 0 0 P := by
  by_cases c1 : mk / 4 = c / 4
  · by_cases c2 : mk % 4 = c % 4
    · have e : chgN mk c = 0 + 0 := by unfold chgN; rw [if_pos c1, if_pos c2]
      rw [e] at hP
      refine x_iload_n rfl rfl ?_
      refine x_iconstN (q := 4) rfl ?_
      refine x_idivN rfl ?_
      refine x_iload_n rfl rfl ?_
      refine x_iconstN (q := 4) rfl ?_
      refine x_idivN rfl ?_
      refine x_icmpN_eq rfl (fun c6 => ?_) (fun c6 => ?_)
      rotate_left
      · exact absurd c6 (by first | decide | omega)
      refine x_iconstN (q := 0) rfl ?_
      refine x_iload_n rfl rfl ?_
      refine x_iconstN (q := 4) rfl ?_
      refine x_iremN rfl ?_
      refine x_iload_n rfl rfl ?_
      refine x_iconstN (q := 4) rfl ?_
      refine x_iremN rfl ?_
      refine x_icmpN_eq rfl (fun c20 => ?_) (fun c20 => ?_)
      rotate_left
      · exact absurd c20 (by first | decide | omega)
      refine x_iconstN (q := 0) rfl ?_
      refine x_iaddN rfl ?_
      refine x_iret rfl rfl ?_
      exact hP
    · have e : chgN mk c = 0 + 1 := by unfold chgN; rw [if_pos c1, if_neg c2]
      rw [e] at hP
      refine x_iload_n rfl rfl ?_
      refine x_iconstN (q := 4) rfl ?_
      refine x_idivN rfl ?_
      refine x_iload_n rfl rfl ?_
      refine x_iconstN (q := 4) rfl ?_
      refine x_idivN rfl ?_
      refine x_icmpN_eq rfl (fun c6 => ?_) (fun c6 => ?_)
      rotate_left
      · exact absurd c6 (by first | decide | omega)
      refine x_iconstN (q := 0) rfl ?_
      refine x_iload_n rfl rfl ?_
      refine x_iconstN (q := 4) rfl ?_
      refine x_iremN rfl ?_
      refine x_iload_n rfl rfl ?_
      refine x_iconstN (q := 4) rfl ?_
      refine x_iremN rfl ?_
      refine x_icmpN_eq rfl (fun c20 => ?_) (fun c20 => ?_)
      · exact absurd c20 (by first | decide | omega)
      refine x_iconstN (q := 1) rfl ?_
      refine x_goto rfl ?_
      refine x_iaddN rfl ?_
      refine x_iret rfl rfl ?_
      exact hP
  · by_cases c2 : mk % 4 = c % 4
    · have e : chgN mk c = 1 + 0 := by unfold chgN; rw [if_neg c1, if_pos c2]
      rw [e] at hP
      refine x_iload_n rfl rfl ?_
      refine x_iconstN (q := 4) rfl ?_
      refine x_idivN rfl ?_
      refine x_iload_n rfl rfl ?_
      refine x_iconstN (q := 4) rfl ?_
      refine x_idivN rfl ?_
      refine x_icmpN_eq rfl (fun c6 => ?_) (fun c6 => ?_)
      · exact absurd c6 (by first | decide | omega)
      refine x_iconstN (q := 1) rfl ?_
      refine x_goto rfl ?_
      refine x_iload_n rfl rfl ?_
      refine x_iconstN (q := 4) rfl ?_
      refine x_iremN rfl ?_
      refine x_iload_n rfl rfl ?_
      refine x_iconstN (q := 4) rfl ?_
      refine x_iremN rfl ?_
      refine x_icmpN_eq rfl (fun c20 => ?_) (fun c20 => ?_)
      rotate_left
      · exact absurd c20 (by first | decide | omega)
      refine x_iconstN (q := 0) rfl ?_
      refine x_iaddN rfl ?_
      refine x_iret rfl rfl ?_
      exact hP
    · have e : chgN mk c = 1 + 1 := by unfold chgN; rw [if_neg c1, if_neg c2]
      rw [e] at hP
      refine x_iload_n rfl rfl ?_
      refine x_iconstN (q := 4) rfl ?_
      refine x_idivN rfl ?_
      refine x_iload_n rfl rfl ?_
      refine x_iconstN (q := 4) rfl ?_
      refine x_idivN rfl ?_
      refine x_icmpN_eq rfl (fun c6 => ?_) (fun c6 => ?_)
      · exact absurd c6 (by first | decide | omega)
      refine x_iconstN (q := 1) rfl ?_
      refine x_goto rfl ?_
      refine x_iload_n rfl rfl ?_
      refine x_iconstN (q := 4) rfl ?_
      refine x_iremN rfl ?_
      refine x_iload_n rfl rfl ?_
      refine x_iconstN (q := 4) rfl ?_
      refine x_iremN rfl ?_
      refine x_icmpN_eq rfl (fun c20 => ?_) (fun c20 => ?_)
      · exact absurd c20 (by first | decide | omega)
      refine x_iconstN (q := 1) rfl ?_
      refine x_goto rfl ?_
      refine x_iaddN rfl ?_
      refine x_iret rfl rfl ?_
      exact hP
set_option maxRecDepth 20000 in
theorem s_talk_1 {a b c : Int32} (h : hasF 4 c = 0 ∨ a = b) (hP : P (some (.int (-1))) (LY ++ ext) V VL (vr G)) : Ex (d + 4) mi1 0 (entL [.ref 45, .int a, .int b, .int c] 6) [] (LY ++ ext) V VL (vr G) 0 0 P := by
  refine x_iload_n rfl rfl ?_
  refine x_callN (M' := mi150) (As := [_]) (bc1 := 0) (bs1 := 0) (bc2 := 0) (bs2 := 0) rfl rfl rfl rfl ok150 rfl rfl rfl rfl rfl rfl ?_
  refine s_isDay ?_
  refine x_if_eq rfl (fun c4 => ?_) (fun c4 => ?_)
  · refine x_iconst rfl ?_
    refine x_iret rfl rfl ?_
    exact hP
  · refine x_iload_n rfl rfl ?_
    refine x_iload_n rfl rfl ?_
    refine x_icmp_ne rfl (fun c9 => ?_) (fun c9 => ?_)
    · exact absurd h (fun z => z.elim c4 c9)
    · refine x_iconst rfl ?_
      refine x_iret rfl rfl ?_
      exact hP
set_option maxRecDepth 20000 in
theorem s_talk_2 {a b : Int32} (hX : RW 3 K V) (hd4 : dy < 4) (hab : ¬ a = b) (h : hasF (nI (K 93)) a = 0 ∨ hasF (nI (K 93)) b = 0) (hP : P (some (.int (-2))) (LY ++ ext) V VL (vr G)) : Ex (d + 4) mi1 0 (entL [.ref 45, .int a, .int b, .int (nI dy)] 6) [] (LY ++ ext) V VL (vr G) 0 0 P := by
  refine x_iload_n rfl rfl ?_
  refine x_callN (M' := mi150) (As := [_]) (bc1 := 0) (bs1 := 0) (bc2 := 0) (bs2 := 0) rfl rfl rfl rfl ok150 rfl rfl rfl rfl rfl rfl ?_
  refine s_isDay_in hd4 ?_
  refine x_if_eq rfl (fun c4 => ?_) (fun c4 => ?_)
  · exact absurd c4 (by first | decide | omega)
  refine x_iload_n rfl rfl ?_
  refine x_iload_n rfl rfl ?_
  refine x_icmp_ne rfl (fun c9 => ?_) (fun c9 => ?_)
  rotate_left
  · exact absurd c9 hab
  refine x_aload_n rfl rfl ?_
  refine x_getR (u := .ref _) rfl rfl rfl rfl ?_
  refine x_iload_n rfl rfl ?_
  refine x_callV (M' := mi95) (As := [_]) (bc1 := 0) (bs1 := 0) (bc2 := 0) (bs2 := 0) rfl rfl rfl rfl ok95 rfl rfl (by decide) rfl rfl rfl rfl rfl rfl ?_
  refine s_hasPersonK hX ?_
  refine x_if_eq rfl (fun c22 => ?_) (fun c22 => ?_)
  · refine x_bipush rfl ?_
    refine x_iret rfl rfl ?_
    exact hP
  · refine x_aload_n rfl rfl ?_
    refine x_getR (u := .ref _) rfl rfl rfl rfl ?_
    refine x_iload_n rfl rfl ?_
    refine x_callV (M' := mi95) (As := [_]) (bc1 := 0) (bs1 := 0) (bc2 := 0) (bs2 := 0) rfl rfl rfl rfl ok95 rfl rfl (by decide) rfl rfl rfl rfl rfl rfl ?_
    refine s_hasPersonK hX ?_
    refine x_if_ne rfl (fun c33 => ?_) (fun c33 => ?_)
    · exact absurd h (fun z => z.elim c22 c33)
    · refine x_bipush rfl ?_
      refine x_iret rfl rfl ?_
      exact hP
set_option maxRecDepth 20000 in
theorem s_talk_3 (hX : RW 3 K V) (hW : WF K) (hL : Laws K 13 (LY ++ ext) V (vr G)) (hp : p < K 93) (hq : q < K 93) (hpq : p ≠ q) (hd4 : dy < 4) (h : K (24 + p) = 0 ∨ K (24 + q) = 0) (hP : P (some (.int (-3))) (LY ++ ext) V VL (vr G)) : Ex (d + 4) mi1 0 (entL [.ref 45, .int (nI p), .int (nI q), .int (nI dy)] 6) [] (LY ++ ext) V VL (vr G) 0 0 P := by
  have h6 := hW.n
  have l1 := hW.life hp
  have l2 := hW.life hq
  refine x_iload_n rfl rfl ?_
  refine x_callN (M' := mi150) (As := [_]) (bc1 := 0) (bs1 := 0) (bc2 := 0) (bs2 := 0) rfl rfl rfl rfl ok150 rfl rfl rfl rfl rfl rfl ?_
  refine s_isDay_in hd4 ?_
  refine x_if_eq rfl (fun c4 => ?_) (fun c4 => ?_)
  · exact absurd c4 (by first | decide | omega)
  refine x_iload_n rfl rfl ?_
  refine x_iload_n rfl rfl ?_
  refine x_icmpN_ne rfl (fun c9 => ?_) (fun c9 => ?_)
  rotate_left
  · exact absurd c9 (by first | decide | omega)
  refine x_aload_n rfl rfl ?_
  refine x_getR (u := .ref _) rfl rfl rfl rfl ?_
  refine x_iload_n rfl rfl ?_
  refine x_callV (M' := mi95) (As := [_]) (bc1 := 0) (bs1 := 0) (bc2 := 0) (bs2 := 0) rfl rfl rfl rfl ok95 rfl rfl (by decide) rfl rfl rfl rfl rfl rfl ?_
  refine s_hasPerson_in hX.n hp h6 ?_
  refine x_if_eq rfl (fun c22 => ?_) (fun c22 => ?_)
  · exact absurd c22 (by first | decide | omega)
  refine x_aload_n rfl rfl ?_
  refine x_getR (u := .ref _) rfl rfl rfl rfl ?_
  refine x_iload_n rfl rfl ?_
  refine x_callV (M' := mi95) (As := [_]) (bc1 := 0) (bs1 := 0) (bc2 := 0) (bs2 := 0) rfl rfl rfl rfl ok95 rfl rfl (by decide) rfl rfl rfl rfl rfl rfl ?_
  refine s_hasPerson_in hX.n hq h6 ?_
  refine x_if_ne rfl (fun c33 => ?_) (fun c33 => ?_)
  rotate_left
  · exact absurd c33 (by first | decide | omega)
  refine x_aload_n rfl rfl ?_
  refine x_getR (u := .ref _) rfl rfl rfl rfl ?_
  refine x_iload_n rfl rfl ?_
  refine x_callV (M' := mi98) (As := [_]) (bc1 := 0) (bs1 := 0) (bc2 := 0) (bs2 := 0) rfl rfl rfl rfl ok98 rfl rfl (by decide) rfl rfl rfl rfl rfl rfl ?_
  refine s_lives_in hX.n hX.lm hp h6 hW.lm ?_
  rw [lm_bit hW hp]
  refine x_ifN_eq rfl (fun c47 => ?_) (fun c47 => ?_)
  · refine x_bipush rfl ?_
    refine x_iret rfl rfl ?_
    exact hP
  · refine x_aload_n rfl rfl ?_
    refine x_getR (u := .ref _) rfl rfl rfl rfl ?_
    refine x_iload_n rfl rfl ?_
    refine x_callV (M' := mi98) (As := [_]) (bc1 := 0) (bs1 := 0) (bc2 := 0) (bs2 := 0) rfl rfl rfl rfl ok98 rfl rfl (by decide) rfl rfl rfl rfl rfl rfl ?_
    refine s_lives_in hX.n hX.lm hq h6 hW.lm ?_
    rw [lm_bit hW hq]
    refine x_ifN_ne rfl (fun c58 => ?_) (fun c58 => ?_)
    · exact absurd h (by omega)
    · refine x_bipush rfl ?_
      refine x_iret rfl rfl ?_
      exact hP
set_option maxRecDepth 20000 in
theorem s_talk_4 (hX : RW 3 K V) (hW : WF K) (hL : Laws K 13 (LY ++ ext) V (vr G)) (hp : p < K 93) (hq : q < K 93) (hpq : p ≠ q) (hd4 : dy < 4) (h1 : K (24 + p) = 1) (h2 : K (24 + q) = 1) (ho : outK K p q dy (K (4 * p + dy)) (K (4 * q + dy)) (K 38) = none) (hP : ∀ V' : VIT, FrH V V' → P (some (.int (-3))) (LY ++ ext) V' VL (vr G)) : Ex (d + 4) mi1 0 (entL [.ref 45, .int (nI p), .int (nI q), .int (nI dy)] 6) [] (LY ++ ext) V VL (vr G) 0 0 P := by
  have h6 := hW.n
  have hm1 := hW.mark hp hd4
  have hm2 := hW.mark hq hd4
  have h38 : K 38 ≤ 999 := hW.2.2.2.2.2.1
  have ed : ((K (4 * p + dy)) * 4 + (K (4 * q + dy))) / 4 = (K (4 * p + dy)) := by omega
  have em : ((K (4 * p + dy)) * 4 + (K (4 * q + dy))) % 4 = (K (4 * q + dy)) := by omega
  refine x_iload_n rfl rfl ?_
  refine x_callN (M' := mi150) (As := [_]) (bc1 := 0) (bs1 := 0) (bc2 := 0) (bs2 := 0) rfl rfl rfl rfl ok150 rfl rfl rfl rfl rfl rfl ?_
  refine s_isDay_in hd4 ?_
  refine x_if_eq rfl (fun c4 => ?_) (fun c4 => ?_)
  · exact absurd c4 (by first | decide | omega)
  refine x_iload_n rfl rfl ?_
  refine x_iload_n rfl rfl ?_
  refine x_icmpN_ne rfl (fun c9 => ?_) (fun c9 => ?_)
  rotate_left
  · exact absurd c9 (by first | decide | omega)
  refine x_aload_n rfl rfl ?_
  refine x_getR (u := .ref _) rfl rfl rfl rfl ?_
  refine x_iload_n rfl rfl ?_
  refine x_callV (M' := mi95) (As := [_]) (bc1 := 0) (bs1 := 0) (bc2 := 0) (bs2 := 0) rfl rfl rfl rfl ok95 rfl rfl (by decide) rfl rfl rfl rfl rfl rfl ?_
  refine s_hasPerson_in hX.n hp h6 ?_
  refine x_if_eq rfl (fun c22 => ?_) (fun c22 => ?_)
  · exact absurd c22 (by first | decide | omega)
  refine x_aload_n rfl rfl ?_
  refine x_getR (u := .ref _) rfl rfl rfl rfl ?_
  refine x_iload_n rfl rfl ?_
  refine x_callV (M' := mi95) (As := [_]) (bc1 := 0) (bs1 := 0) (bc2 := 0) (bs2 := 0) rfl rfl rfl rfl ok95 rfl rfl (by decide) rfl rfl rfl rfl rfl rfl ?_
  refine s_hasPerson_in hX.n hq h6 ?_
  refine x_if_ne rfl (fun c33 => ?_) (fun c33 => ?_)
  rotate_left
  · exact absurd c33 (by first | decide | omega)
  refine x_aload_n rfl rfl ?_
  refine x_getR (u := .ref _) rfl rfl rfl rfl ?_
  refine x_iload_n rfl rfl ?_
  refine x_callV (M' := mi98) (As := [_]) (bc1 := 0) (bs1 := 0) (bc2 := 0) (bs2 := 0) rfl rfl rfl rfl ok98 rfl rfl (by decide) rfl rfl rfl rfl rfl rfl ?_
  refine s_lives_in hX.n hX.lm hp h6 hW.lm ?_
  rw [lm_bit hW hp]
  refine x_ifN_eq rfl (fun c47 => ?_) (fun c47 => ?_)
  · exact absurd c47 (by first | decide | omega)
  refine x_aload_n rfl rfl ?_
  refine x_getR (u := .ref _) rfl rfl rfl rfl ?_
  refine x_iload_n rfl rfl ?_
  refine x_callV (M' := mi98) (As := [_]) (bc1 := 0) (bs1 := 0) (bc2 := 0) (bs2 := 0) rfl rfl rfl rfl ok98 rfl rfl (by decide) rfl rfl rfl rfl rfl rfl ?_
  refine s_lives_in hX.n hX.lm hq h6 hW.lm ?_
  rw [lm_bit hW hq]
  refine x_ifN_ne rfl (fun c58 => ?_) (fun c58 => ?_)
  rotate_left
  · exact absurd c58 (by first | decide | omega)
  skip
  refine x_aload_n rfl rfl ?_
  refine x_getR (u := .ref _) rfl rfl rfl rfl ?_
  refine x_iload_n rfl rfl ?_
  refine x_iload_n rfl rfl ?_
  refine x_callV (M' := mi101) (As := [_, _]) (bc1 := 0) (bs1 := 0) (bc2 := 0) (bs2 := 0) rfl rfl rfl rfl ok101 rfl rfl (by decide) rfl rfl rfl rfl rfl rfl ?_
  refine s_markOf_in hX.n hp h6 hd4 ?_
  rw [show V 6 (p * 4 + dy) = nI (K (4 * p + dy)) from hX.mark hp hd4]
  refine x_iconstN (q := 4) rfl ?_
  refine x_imulN rfl ?_
  refine x_aload_n rfl rfl ?_
  refine x_getR (u := .ref _) rfl rfl rfl rfl ?_
  refine x_iload_n rfl rfl ?_
  refine x_iload_n rfl rfl ?_
  refine x_callV (M' := mi101) (As := [_, _]) (bc1 := 0) (bs1 := 0) (bc2 := 0) (bs2 := 0) rfl rfl rfl rfl ok101 rfl rfl (by decide) rfl rfl rfl rfl rfl rfl ?_
  refine s_markOf_in hX.n hq h6 hd4 ?_
  rw [show V 6 (q * 4 + dy) = nI (K (4 * q + dy)) from hX.mark hq hd4]
  refine x_iaddN rfl ?_
  refine x_istore (ls' := [_, _, _, _, _, _]) rfl rfl rfl ?_
  refine x_aload_n rfl rfl ?_
  refine x_getR (u := .ref _) rfl rfl rfl rfl ?_
  refine x_iload_n rfl rfl ?_
  refine x_iload_n rfl rfl ?_
  refine x_iload_n rfl rfl ?_
  refine x_iload rfl rfl ?_
  refine x_aload_n rfl rfl ?_
  refine x_getR (u := .ref _) rfl rfl rfl rfl ?_
  refine x_getR (u := .ref _) rfl rfl rfl rfl ?_
  refine x_iconstN (q := 0) rfl ?_
  refine x_ialE (j := 0) rfl rfl (rfl) (by omega) (hX.t0) ?_
  refine x_callV (M' := mi12) (As := [_, _, _, _, _]) (bc1 := 0) (bs1 := 0) (bc2 := 0) (bs2 := 0) rfl rfl rfl rfl ok12 rfl rfl (by decide) rfl rfl rfl rfl rfl rfl ?_
  refine s_outcome hX hW hL hp hq hd4 (by omega) (by omega) (fun V1 hF => ?_)
  rw [ed, em, ho]
  refine x_istore (ls' := [_, _, _, _, _, _]) rfl rfl rfl ?_
  refine x_iload rfl rfl ?_
  refine x_iconst rfl ?_
  refine x_icmp_ne rfl (fun c113 => ?_) (fun c113 => ?_)
  · exact absurd rfl c113
  refine x_bipush rfl ?_
  refine x_iret rfl rfl ?_
  exact hP V1 hF
set_option maxRecDepth 20000 in
theorem s_talk_ok {c u s v : Nat} (hX : RW 3 K V) (hW : WF K) (hL : Laws K 13 (LY ++ ext) V (vr G)) (hp : p < K 93) (hq : q < K 93) (hpq : p ≠ q) (hd4 : dy < 4) (h1 : K (24 + p) = 1) (h2 : K (24 + q) = 1) (ho : outK K p q dy (K (4 * p + dy)) (K (4 * q + dy)) (K 38) = some c) (hu : V 45 2 = nI u) (hn : Nxt u s v) (hP : ∀ V' : VIT, KX' V V' s v ((((dy * 8 + p) * 8 + q) * 16 + ((K (4 * p + dy)) * 4 + (K (4 * q + dy)))) * 4 + 0) → RW 3 (tkK K p q dy c) V' → P (some (.int (nI (chgN ((K (4 * p + dy)) * 4 + (K (4 * q + dy))) c)))) (LY ++ ext) V' VL (vr G)) : Ex (d + 4) mi1 0 (entL [.ref 45, .int (nI p), .int (nI q), .int (nI dy)] 6) [] (LY ++ ext) V VL (vr G) 0 0 P := by
  have h6 := hW.n
  have hm1 := hW.mark hp hd4
  have hm2 := hW.mark hq hd4
  have h38 : K 38 ≤ 999 := hW.2.2.2.2.2.1
  have hc := outK_lt hm1 hm2 ho
  have ed : ((K (4 * p + dy)) * 4 + (K (4 * q + dy))) / 4 = (K (4 * p + dy)) := by omega
  have em : ((K (4 * p + dy)) * 4 + (K (4 * q + dy))) % 4 = (K (4 * q + dy)) := by omega
  refine x_iload_n rfl rfl ?_
  refine x_callN (M' := mi150) (As := [_]) (bc1 := 0) (bs1 := 0) (bc2 := 0) (bs2 := 0) rfl rfl rfl rfl ok150 rfl rfl rfl rfl rfl rfl ?_
  refine s_isDay_in hd4 ?_
  refine x_if_eq rfl (fun c4 => ?_) (fun c4 => ?_)
  · exact absurd c4 (by first | decide | omega)
  refine x_iload_n rfl rfl ?_
  refine x_iload_n rfl rfl ?_
  refine x_icmpN_ne rfl (fun c9 => ?_) (fun c9 => ?_)
  rotate_left
  · exact absurd c9 (by first | decide | omega)
  refine x_aload_n rfl rfl ?_
  refine x_getR (u := .ref _) rfl rfl rfl rfl ?_
  refine x_iload_n rfl rfl ?_
  refine x_callV (M' := mi95) (As := [_]) (bc1 := 0) (bs1 := 0) (bc2 := 0) (bs2 := 0) rfl rfl rfl rfl ok95 rfl rfl (by decide) rfl rfl rfl rfl rfl rfl ?_
  refine s_hasPerson_in hX.n hp h6 ?_
  refine x_if_eq rfl (fun c22 => ?_) (fun c22 => ?_)
  · exact absurd c22 (by first | decide | omega)
  refine x_aload_n rfl rfl ?_
  refine x_getR (u := .ref _) rfl rfl rfl rfl ?_
  refine x_iload_n rfl rfl ?_
  refine x_callV (M' := mi95) (As := [_]) (bc1 := 0) (bs1 := 0) (bc2 := 0) (bs2 := 0) rfl rfl rfl rfl ok95 rfl rfl (by decide) rfl rfl rfl rfl rfl rfl ?_
  refine s_hasPerson_in hX.n hq h6 ?_
  refine x_if_ne rfl (fun c33 => ?_) (fun c33 => ?_)
  rotate_left
  · exact absurd c33 (by first | decide | omega)
  refine x_aload_n rfl rfl ?_
  refine x_getR (u := .ref _) rfl rfl rfl rfl ?_
  refine x_iload_n rfl rfl ?_
  refine x_callV (M' := mi98) (As := [_]) (bc1 := 0) (bs1 := 0) (bc2 := 0) (bs2 := 0) rfl rfl rfl rfl ok98 rfl rfl (by decide) rfl rfl rfl rfl rfl rfl ?_
  refine s_lives_in hX.n hX.lm hp h6 hW.lm ?_
  rw [lm_bit hW hp]
  refine x_ifN_eq rfl (fun c47 => ?_) (fun c47 => ?_)
  · exact absurd c47 (by first | decide | omega)
  refine x_aload_n rfl rfl ?_
  refine x_getR (u := .ref _) rfl rfl rfl rfl ?_
  refine x_iload_n rfl rfl ?_
  refine x_callV (M' := mi98) (As := [_]) (bc1 := 0) (bs1 := 0) (bc2 := 0) (bs2 := 0) rfl rfl rfl rfl ok98 rfl rfl (by decide) rfl rfl rfl rfl rfl rfl ?_
  refine s_lives_in hX.n hX.lm hq h6 hW.lm ?_
  rw [lm_bit hW hq]
  refine x_ifN_ne rfl (fun c58 => ?_) (fun c58 => ?_)
  rotate_left
  · exact absurd c58 (by first | decide | omega)
  skip
  refine x_aload_n rfl rfl ?_
  refine x_getR (u := .ref _) rfl rfl rfl rfl ?_
  refine x_iload_n rfl rfl ?_
  refine x_iload_n rfl rfl ?_
  refine x_callV (M' := mi101) (As := [_, _]) (bc1 := 0) (bs1 := 0) (bc2 := 0) (bs2 := 0) rfl rfl rfl rfl ok101 rfl rfl (by decide) rfl rfl rfl rfl rfl rfl ?_
  refine s_markOf_in hX.n hp h6 hd4 ?_
  rw [show V 6 (p * 4 + dy) = nI (K (4 * p + dy)) from hX.mark hp hd4]
  refine x_iconstN (q := 4) rfl ?_
  refine x_imulN rfl ?_
  refine x_aload_n rfl rfl ?_
  refine x_getR (u := .ref _) rfl rfl rfl rfl ?_
  refine x_iload_n rfl rfl ?_
  refine x_iload_n rfl rfl ?_
  refine x_callV (M' := mi101) (As := [_, _]) (bc1 := 0) (bs1 := 0) (bc2 := 0) (bs2 := 0) rfl rfl rfl rfl ok101 rfl rfl (by decide) rfl rfl rfl rfl rfl rfl ?_
  refine s_markOf_in hX.n hq h6 hd4 ?_
  rw [show V 6 (q * 4 + dy) = nI (K (4 * q + dy)) from hX.mark hq hd4]
  refine x_iaddN rfl ?_
  refine x_istore (ls' := [_, _, _, _, _, _]) rfl rfl rfl ?_
  refine x_aload_n rfl rfl ?_
  refine x_getR (u := .ref _) rfl rfl rfl rfl ?_
  refine x_iload_n rfl rfl ?_
  refine x_iload_n rfl rfl ?_
  refine x_iload_n rfl rfl ?_
  refine x_iload rfl rfl ?_
  refine x_aload_n rfl rfl ?_
  refine x_getR (u := .ref _) rfl rfl rfl rfl ?_
  refine x_getR (u := .ref _) rfl rfl rfl rfl ?_
  refine x_iconstN (q := 0) rfl ?_
  refine x_ialE (j := 0) rfl rfl (rfl) (by omega) (hX.t0) ?_
  refine x_callV (M' := mi12) (As := [_, _, _, _, _]) (bc1 := 0) (bs1 := 0) (bc2 := 0) (bs2 := 0) rfl rfl rfl rfl ok12 rfl rfl (by decide) rfl rfl rfl rfl rfl rfl ?_
  refine s_outcome hX hW hL hp hq hd4 (by omega) (by omega) (fun V1 hF => ?_)
  rw [ed, em, ho]
  have hX1 := hF.RW hX
  have hu1 : V1 45 2 = nI u := by rw [hF.row 45 (by omega) (by omega) (by omega)]; exact hu
  refine x_istore (ls' := [_, _, _, _, _, _]) rfl rfl rfl ?_
  refine x_iload rfl rfl ?_
  refine x_iconst rfl ?_
  refine x_icmp_ne rfl (fun c113 => ?_) (fun c113 => ?_)
  rotate_left
  · exact absurd c113 (nI_m1 (by omega))
  refine x_aload_n rfl rfl ?_
  refine x_iconstN (q := 0) rfl ?_
  refine x_iload_n rfl rfl ?_
  refine x_bipushN (q := 8) rfl ?_
  refine x_imulN rfl ?_
  refine x_iload_n rfl rfl ?_
  refine x_iaddN rfl ?_
  refine x_bipushN (q := 8) rfl ?_
  refine x_imulN rfl ?_
  refine x_iload_n rfl rfl ?_
  refine x_iaddN rfl ?_
  refine x_bipushN (q := 16) rfl ?_
  refine x_imulN rfl ?_
  refine x_iload rfl rfl ?_
  refine x_iaddN rfl ?_
  refine x_callV (M' := mi10) (As := [_, _]) (bc1 := 0) (bs1 := 0) (bc2 := 0) (bs2 := 0) rfl rfl rfl rfl ok10 rfl rfl (by decide) rfl rfl rfl rfl rfl rfl ?_
  refine s_keep hu1 hn (fun V2 x1 x2 x3 x4 => ?_)
  have hX2 : RW 3 K V2 := hX1.same (fun a _ _ => funext (fun k => x4 a k (by omega) (by omega)))
  have hX3 : RW 3 (ku K (4 * p + dy) (c / 4)) (up V2 6 (p * 4 + dy) (nI (c / 4))) := hX2.mark1 hW hp hd4
  have hW3 : WF (ku K (4 * p + dy) (c / 4)) := hW.mark1 hp hd4 (by omega)
  have e93 : ku K (4 * p + dy) (c / 4) 93 = K 93 := ku_ne (by omega)
  have hX4 : RW 3 (tkK K p q dy c) (up (up V2 6 (p * 4 + dy) (nI (c / 4))) 6 (q * 4 + dy) (nI (c % 4))) := hX3.mark1 hW3 (by rw [e93]; exact hq) hd4
  refine x_aload_n rfl rfl ?_
  refine x_getR (u := .ref _) rfl rfl rfl rfl ?_
  refine x_iload_n rfl rfl ?_
  refine x_iload_n rfl rfl ?_
  refine x_iload rfl rfl ?_
  refine x_iconstN (q := 4) rfl ?_
  refine x_idivN rfl ?_
  refine x_callV (M' := mi102) (As := [_, _, _]) (bc1 := 0) (bs1 := 0) (bc2 := 0) (bs2 := 0) rfl rfl rfl rfl ok102 rfl rfl (by decide) rfl rfl rfl rfl rfl rfl ?_
  refine s_setMark hX2.n hp h6 hd4 ?_
  refine x_aload_n rfl rfl ?_
  refine x_getR (u := .ref _) rfl rfl rfl rfl ?_
  refine x_iload_n rfl rfl ?_
  refine x_iload_n rfl rfl ?_
  refine x_iload rfl rfl ?_
  refine x_iconstN (q := 4) rfl ?_
  refine x_iremN rfl ?_
  refine x_callV (M' := mi102) (As := [_, _, _]) (bc1 := 0) (bs1 := 0) (bc2 := 0) (bs2 := 0) rfl rfl rfl rfl ok102 rfl rfl (by decide) rfl rfl rfl rfl rfl rfl ?_
  refine s_setMark (n := K 93) (hX3.n.trans (by rw [e93])) hq h6 hd4 ?_
  refine x_iload rfl rfl ?_
  refine x_iload rfl rfl ?_
  refine x_callS (M' := mi9) (As := [_, _]) (bc1 := 0) (bs1 := 0) (bc2 := 0) (bs2 := 0) rfl rfl rfl rfl ok9 rfl rfl rfl rfl rfl rfl ?_
  refine s_changed (by omega) hc ?_
  refine x_iret rfl rfl ?_
  refine hP _ ⟨?_, fun i hi => ?_, ?_, fun a k q0 q1 q2 q3 => ?_⟩ hX4
  · rw [up_ne (by omega), up_ne (by omega)]; exact x1
  · rw [up_ne (by omega), up_ne (by omega), x2 i hi, hF.row 46 (by omega) (by omega) (by omega)]
  · rw [up_ne (by omega), up_ne (by omega)]; exact x3
  · rw [up_ne (by omega), up_ne (by omega), x4 a k q1 q2]; unfold kpP at q0; exact hF a k (by omega) (by omega) (by omega)
set_option maxRecDepth 20000 in
theorem m_canTalk_no (hM : RK (V 76) K) (hW : WF K) (hL : LwK K) (hp : p < K 93) (hq : q < K 93) (hpq : p ≠ q) (hd4 : dy < 4) (h : K (24 + p) = 0 ∨ K (24 + q) = 0 ∨ outK K p q dy (K (4 * p + dy)) (K (4 * q + dy)) (K 38) = none) (hP : ∀ V' : VIT, FrT V V' → P (some (.int (nI 0))) (LY ++ ext) V' VL (vr G)) : Ex (d + 45) mi239 0 (entL [.ref 74, .int (nI p), .int (nI q), .int (nI dy)] 4) [] (LY ++ ext) V VL (vr G) 0 0 P := by
  have h6 := hW.n
  have l1 := hW.life hp
  have l2 := hW.life hq
  have hm1 := hW.mark hp hd4
  have hm2 := hW.mark hq hd4
  refine x_aload_n rfl rfl ?_
  refine x_iload_n rfl rfl ?_
  refine x_callV (M' := mi167) (As := [_]) (bc1 := 0) (bs1 := 0) (bc2 := 0) (bs2 := 0) rfl rfl rfl rfl ok167 rfl rfl (by decide) rfl rfl rfl rfl rfl rfl ?_
  refine m_lives (by omega) ?_
  rw [b1_life (hM.at (24 + p)) l1]
  refine x_ifN_eq rfl (fun c5 => ?_) (fun c5 => ?_)
  · refine x_iconstN (q := 0) rfl ?_
    refine x_zret rfl rfl (Or.inl rfl) ?_
    exact hP V FrT.refl
  · refine x_aload_n rfl rfl ?_
    refine x_iload_n rfl rfl ?_
    refine x_callV (M' := mi167) (As := [_]) (bc1 := 0) (bs1 := 0) (bc2 := 0) (bs2 := 0) rfl rfl rfl rfl ok167 rfl rfl (by decide) rfl rfl rfl rfl rfl rfl ?_
    refine m_lives (by omega) ?_
    rw [b1_life (hM.at (24 + q)) l2]
    refine x_ifN_eq rfl (fun c13 => ?_) (fun c13 => ?_)
    · refine x_iconstN (q := 0) rfl ?_
      refine x_zret rfl rfl (Or.inl rfl) ?_
      exact hP V FrT.refl
    · refine x_aload_n rfl rfl ?_
      refine x_iload_n rfl rfl ?_
      refine x_iload_n rfl rfl ?_
      refine x_iload_n rfl rfl ?_
      refine x_aload_n rfl rfl ?_
      refine x_iload_n rfl rfl ?_
      refine x_iload_n rfl rfl ?_
      refine x_callV (M' := mi168) (As := [_, _]) (bc1 := 0) (bs1 := 0) (bc2 := 0) (bs2 := 0) rfl rfl rfl rfl ok168 rfl rfl (by decide) rfl rfl rfl rfl rfl rfl ?_
      refine m_markOf (by omega) hd4 ?_
      rw [hM.at (4 * p + dy)]
      refine x_aload_n rfl rfl ?_
      refine x_iload_n rfl rfl ?_
      refine x_iload_n rfl rfl ?_
      refine x_callV (M' := mi168) (As := [_, _]) (bc1 := 0) (bs1 := 0) (bc2 := 0) (bs2 := 0) rfl rfl rfl rfl ok168 rfl rfl (by decide) rfl rfl rfl rfl rfl rfl ?_
      refine m_markOf (by omega) hd4 ?_
      rw [hM.at (4 * q + dy)]
      refine x_callV (M' := mi232) (As := [_, _, _, _, _]) (bc1 := 0) (bs1 := 0) (bc2 := 0) (bs2 := 0) rfl rfl rfl rfl ok232 rfl rfl (by decide) rfl rfl rfl rfl rfl rfl ?_
      refine m_talked hM hW hL hp hq hd4 hm1 hm2 rfl hpq (fun V1 hF => ?_)
      have ho : outK K p q dy (K (4 * p + dy)) (K (4 * q + dy)) (K 38) = none := h.elim (fun z => by omega) (fun z => z.elim (fun z => by omega) id)
      rw [ho]
      refine x_iconst rfl ?_
      refine x_icmp_eq rfl (fun c36 => ?_) (fun c36 => ?_)
      rotate_left
      · exact absurd rfl c36
      refine x_iconstN (q := 0) rfl ?_
      refine x_zret rfl rfl (by first | exact Or.inl rfl | exact Or.inr rfl) ?_
      exact hP V1 hF
set_option maxRecDepth 20000 in
theorem m_canTalk_yes {c : Nat} (hM : RK (V 76) K) (hW : WF K) (hL : LwK K) (hp : p < K 93) (hq : q < K 93) (hpq : p ≠ q) (hd4 : dy < 4) (h1 : K (24 + p) = 1) (h2 : K (24 + q) = 1) (ho : outK K p q dy (K (4 * p + dy)) (K (4 * q + dy)) (K 38) = some c) (hP : ∀ V' : VIT, FrT V V' → P (some (.int (nI 1))) (LY ++ ext) V' VL (vr G)) : Ex (d + 45) mi239 0 (entL [.ref 74, .int (nI p), .int (nI q), .int (nI dy)] 4) [] (LY ++ ext) V VL (vr G) 0 0 P := by
  have h6 := hW.n
  have hm1 := hW.mark hp hd4
  have hm2 := hW.mark hq hd4
  have hc := outK_lt hm1 hm2 ho
  refine x_aload_n rfl rfl ?_
  refine x_iload_n rfl rfl ?_
  refine x_callV (M' := mi167) (As := [_]) (bc1 := 0) (bs1 := 0) (bc2 := 0) (bs2 := 0) rfl rfl rfl rfl ok167 rfl rfl (by decide) rfl rfl rfl rfl rfl rfl ?_
  refine m_lives (by omega) ?_
  rw [b1_life (hM.at (24 + p)) (by omega)]
  refine x_ifN_eq rfl (fun c5 => ?_) (fun c5 => ?_)
  · exact absurd c5 (by first | decide | omega)
  refine x_aload_n rfl rfl ?_
  refine x_iload_n rfl rfl ?_
  refine x_callV (M' := mi167) (As := [_]) (bc1 := 0) (bs1 := 0) (bc2 := 0) (bs2 := 0) rfl rfl rfl rfl ok167 rfl rfl (by decide) rfl rfl rfl rfl rfl rfl ?_
  refine m_lives (by omega) ?_
  rw [b1_life (hM.at (24 + q)) (by omega)]
  refine x_ifN_eq rfl (fun c13 => ?_) (fun c13 => ?_)
  · exact absurd c13 (by first | decide | omega)
  refine x_aload_n rfl rfl ?_
  refine x_iload_n rfl rfl ?_
  refine x_iload_n rfl rfl ?_
  refine x_iload_n rfl rfl ?_
  refine x_aload_n rfl rfl ?_
  refine x_iload_n rfl rfl ?_
  refine x_iload_n rfl rfl ?_
  refine x_callV (M' := mi168) (As := [_, _]) (bc1 := 0) (bs1 := 0) (bc2 := 0) (bs2 := 0) rfl rfl rfl rfl ok168 rfl rfl (by decide) rfl rfl rfl rfl rfl rfl ?_
  refine m_markOf (by omega) hd4 ?_
  rw [hM.at (4 * p + dy)]
  refine x_aload_n rfl rfl ?_
  refine x_iload_n rfl rfl ?_
  refine x_iload_n rfl rfl ?_
  refine x_callV (M' := mi168) (As := [_, _]) (bc1 := 0) (bs1 := 0) (bc2 := 0) (bs2 := 0) rfl rfl rfl rfl ok168 rfl rfl (by decide) rfl rfl rfl rfl rfl rfl ?_
  refine m_markOf (by omega) hd4 ?_
  rw [hM.at (4 * q + dy)]
  refine x_callV (M' := mi232) (As := [_, _, _, _, _]) (bc1 := 0) (bs1 := 0) (bc2 := 0) (bs2 := 0) rfl rfl rfl rfl ok232 rfl rfl (by decide) rfl rfl rfl rfl rfl rfl ?_
  refine m_talked hM hW hL hp hq hd4 hm1 hm2 rfl hpq (fun V1 hF => ?_)
  rw [ho]
  refine x_iconst rfl ?_
  refine x_icmp_eq rfl (fun c36 => ?_) (fun c36 => ?_)
  · exact absurd c36 (nI_m1 (by omega))
  refine x_iconstN (q := 1) rfl ?_
  refine x_goto rfl ?_
  refine x_zret rfl rfl (by first | exact Or.inl rfl | exact Or.inr rfl) ?_
  exact hP V1 hF
set_option maxRecDepth 20000 in
theorem m_talksNow_no (hM : RK (V 76) K) (hW : WF K) (hL : LwK K) (hp : p < K 93) (hq : q < K 93) (hpq : p ≠ q) (hd4 : dy < 4) (h : K (24 + p) = 0 ∨ K (24 + q) = 0 ∨ outK K p q dy (K (4 * p + dy)) (K (4 * q + dy)) (K 38) = none) (hP : ∀ V' : VIT, FrT V V' → P (some (.int (-1))) (LY ++ ext) V' VL (vr G)) : Ex (d + 45) mi238 0 (entL [.ref 74, .int (nI p), .int (nI q), .int (nI dy)] 6) [] (LY ++ ext) V VL (vr G) 0 0 P := by
  have h6 := hW.n
  have l1 := hW.life hp
  have l2 := hW.life hq
  have hm1 := hW.mark hp hd4
  have hm2 := hW.mark hq hd4
  have hk : ∀ (V1 : VIT) (z5 : Value), FrT V V1 → Ex (d + 45) mi238 39 [.ref 74, .int (nI p), .int (nI q), .int (nI dy), .retAddr 9, .retAddr 9] [.int (-1)] (LY ++ ext) V1 VL (vr G) 0 0 P := by
    intro V1 z5 hF
    refine x_istore (ls' := [_, _, _, _, _, _]) rfl rfl rfl ?_
    refine x_iload rfl rfl ?_
    refine x_iconst rfl ?_
    refine x_icmp_ne rfl (fun c44 => ?_) (fun c44 => ?_)
    · exact absurd rfl c44
    refine x_iconst rfl ?_
    refine x_iret rfl rfl ?_
    exact hP V1 hF
  refine x_aload_n rfl rfl ?_
  refine x_iload_n rfl rfl ?_
  refine x_callV (M' := mi167) (As := [_]) (bc1 := 0) (bs1 := 0) (bc2 := 0) (bs2 := 0) rfl rfl rfl rfl ok167 rfl rfl (by decide) rfl rfl rfl rfl rfl rfl ?_
  refine m_lives (by omega) ?_
  rw [b1_life (hM.at (24 + p)) l1]
  refine x_ifN_eq rfl (fun c5 => ?_) (fun c5 => ?_)
  · refine x_iconst rfl ?_
    exact hk V .null FrT.refl
  · refine x_aload_n rfl rfl ?_
    refine x_iload_n rfl rfl ?_
    refine x_callV (M' := mi167) (As := [_]) (bc1 := 0) (bs1 := 0) (bc2 := 0) (bs2 := 0) rfl rfl rfl rfl ok167 rfl rfl (by decide) rfl rfl rfl rfl rfl rfl ?_
    refine m_lives (by omega) ?_
    rw [b1_life (hM.at (24 + q)) l2]
    refine x_ifN_eq rfl (fun c13 => ?_) (fun c13 => ?_)
    · refine x_iconst rfl ?_
      exact hk V .null FrT.refl
    · refine x_aload_n rfl rfl ?_
      refine x_iload_n rfl rfl ?_
      refine x_iload_n rfl rfl ?_
      refine x_iload_n rfl rfl ?_
      refine x_aload_n rfl rfl ?_
      refine x_iload_n rfl rfl ?_
      refine x_iload_n rfl rfl ?_
      refine x_callV (M' := mi168) (As := [_, _]) (bc1 := 0) (bs1 := 0) (bc2 := 0) (bs2 := 0) rfl rfl rfl rfl ok168 rfl rfl (by decide) rfl rfl rfl rfl rfl rfl ?_
      refine m_markOf (by omega) hd4 ?_
      rw [hM.at (4 * p + dy)]
      refine x_aload_n rfl rfl ?_
      refine x_iload_n rfl rfl ?_
      refine x_iload_n rfl rfl ?_
      refine x_callV (M' := mi168) (As := [_, _]) (bc1 := 0) (bs1 := 0) (bc2 := 0) (bs2 := 0) rfl rfl rfl rfl ok168 rfl rfl (by decide) rfl rfl rfl rfl rfl rfl ?_
      refine m_markOf (by omega) hd4 ?_
      rw [hM.at (4 * q + dy)]
      refine x_callV (M' := mi232) (As := [_, _, _, _, _]) (bc1 := 0) (bs1 := 0) (bc2 := 0) (bs2 := 0) rfl rfl rfl rfl ok232 rfl rfl (by decide) rfl rfl rfl rfl rfl rfl ?_
      refine m_talked hM hW hL hp hq hd4 hm1 hm2 rfl hpq (fun V1 hF => ?_)
      have ho : outK K p q dy (K (4 * p + dy)) (K (4 * q + dy)) (K 38) = none := h.elim (fun z => by omega) (fun z => z.elim (fun z => by omega) id)
      rw [ho]
      refine x_goto rfl ?_
      exact hk V1 .null hF
set_option maxRecDepth 20000 in
theorem m_talksNow_ok {c : Nat} (hM : RK (V 76) K) (hW : WF K) (hL : LwK K) (hp : p < K 93) (hq : q < K 93) (hpq : p ≠ q) (hd4 : dy < 4) (h1 : K (24 + p) = 1) (h2 : K (24 + q) = 1) (ho : outK K p q dy (K (4 * p + dy)) (K (4 * q + dy)) (K 38) = some c) (hP : ∀ V' : VIT, FrT V V' → P (some (.int (nI (chgN ((K (4 * p + dy)) * 4 + (K (4 * q + dy))) c)))) (LY ++ ext) (up (up V' 76 (4 * p + dy) (nI (c / 4))) 76 (4 * q + dy) (nI (c % 4))) VL (vr G)) : Ex (d + 45) mi238 0 (entL [.ref 74, .int (nI p), .int (nI q), .int (nI dy)] 6) [] (LY ++ ext) V VL (vr G) 0 0 P := by
  have h6 := hW.n
  have hm1 := hW.mark hp hd4
  have hm2 := hW.mark hq hd4
  have hc := outK_lt hm1 hm2 ho
  have ed : ((K (4 * p + dy)) * 4 + (K (4 * q + dy))) / 4 = (K (4 * p + dy)) := by omega
  have em : ((K (4 * p + dy)) * 4 + (K (4 * q + dy))) % 4 = (K (4 * q + dy)) := by omega
  refine x_aload_n rfl rfl ?_
  refine x_iload_n rfl rfl ?_
  refine x_callV (M' := mi167) (As := [_]) (bc1 := 0) (bs1 := 0) (bc2 := 0) (bs2 := 0) rfl rfl rfl rfl ok167 rfl rfl (by decide) rfl rfl rfl rfl rfl rfl ?_
  refine m_lives (by omega) ?_
  rw [b1_life (hM.at (24 + p)) (by omega)]
  refine x_ifN_eq rfl (fun c5 => ?_) (fun c5 => ?_)
  · exact absurd c5 (by first | decide | omega)
  refine x_aload_n rfl rfl ?_
  refine x_iload_n rfl rfl ?_
  refine x_callV (M' := mi167) (As := [_]) (bc1 := 0) (bs1 := 0) (bc2 := 0) (bs2 := 0) rfl rfl rfl rfl ok167 rfl rfl (by decide) rfl rfl rfl rfl rfl rfl ?_
  refine m_lives (by omega) ?_
  rw [b1_life (hM.at (24 + q)) (by omega)]
  refine x_ifN_eq rfl (fun c13 => ?_) (fun c13 => ?_)
  · exact absurd c13 (by first | decide | omega)
  refine x_aload_n rfl rfl ?_
  refine x_iload_n rfl rfl ?_
  refine x_iload_n rfl rfl ?_
  refine x_iload_n rfl rfl ?_
  refine x_aload_n rfl rfl ?_
  refine x_iload_n rfl rfl ?_
  refine x_iload_n rfl rfl ?_
  refine x_callV (M' := mi168) (As := [_, _]) (bc1 := 0) (bs1 := 0) (bc2 := 0) (bs2 := 0) rfl rfl rfl rfl ok168 rfl rfl (by decide) rfl rfl rfl rfl rfl rfl ?_
  refine m_markOf (by omega) hd4 ?_
  rw [hM.at (4 * p + dy)]
  refine x_aload_n rfl rfl ?_
  refine x_iload_n rfl rfl ?_
  refine x_iload_n rfl rfl ?_
  refine x_callV (M' := mi168) (As := [_, _]) (bc1 := 0) (bs1 := 0) (bc2 := 0) (bs2 := 0) rfl rfl rfl rfl ok168 rfl rfl (by decide) rfl rfl rfl rfl rfl rfl ?_
  refine m_markOf (by omega) hd4 ?_
  rw [hM.at (4 * q + dy)]
  refine x_callV (M' := mi232) (As := [_, _, _, _, _]) (bc1 := 0) (bs1 := 0) (bc2 := 0) (bs2 := 0) rfl rfl rfl rfl ok232 rfl rfl (by decide) rfl rfl rfl rfl rfl rfl ?_
  refine m_talked hM hW hL hp hq hd4 hm1 hm2 rfl hpq (fun V1 hF => ?_)
  rw [ho]
  refine x_goto rfl ?_
  skip
  have hM1 := hF.RK hM
  have hk2 : ∀ (x : Nat), x = chgN ((K (4 * p + dy)) * 4 + (K (4 * q + dy))) c → Ex (d + 45) mi238 86 [.ref 74, .int (nI p), .int (nI q), .int (nI dy), .int (nI c), .retAddr 9] [.int (nI x)] (LY ++ ext) V1 VL (vr G) 0 0 P := by
    intro x hx
    subst hx
    refine x_istore (ls' := [_, _, _, _, _, _]) rfl rfl rfl ?_
    refine x_aload_n rfl rfl ?_
    refine x_getR (u := .ref _) rfl rfl rfl rfl ?_
    refine x_iconstN (q := 0) rfl ?_
    refine x_iconstN (q := 4) rfl ?_
    refine x_iload_n rfl rfl ?_
    refine x_imulN rfl ?_
    refine x_iaddN rfl ?_
    refine x_iload_n rfl rfl ?_
    refine x_iaddN rfl ?_
    refine x_iload rfl rfl ?_
    refine x_iconstN (q := 4) rfl ?_
    refine x_idivN rfl ?_
    refine x_iasN (j := 4 * p + dy) rfl rfl (congrArg nI (by omega)) (by omega) ?_
    refine x_aload_n rfl rfl ?_
    refine x_getR (u := .ref _) rfl rfl rfl rfl ?_
    refine x_iconstN (q := 0) rfl ?_
    refine x_iconstN (q := 4) rfl ?_
    refine x_iload_n rfl rfl ?_
    refine x_imulN rfl ?_
    refine x_iaddN rfl ?_
    refine x_iload_n rfl rfl ?_
    refine x_iaddN rfl ?_
    refine x_iload rfl rfl ?_
    refine x_iconstN (q := 4) rfl ?_
    refine x_iremN rfl ?_
    refine x_iasN (j := 4 * q + dy) rfl rfl (congrArg nI (by omega)) (by omega) ?_
    refine x_iload rfl rfl ?_
    refine x_iret rfl rfl ?_
    exact hP V1 hF
  have hk : ∀ (x : Nat), x = (if ((K (4 * p + dy)) * 4 + (K (4 * q + dy))) / 4 = c / 4 then 0 else 1) → Ex (d + 45) mi238 67 [.ref 74, .int (nI p), .int (nI q), .int (nI dy), .int (nI c), .retAddr 9] [.int (nI x)] (LY ++ ext) V1 VL (vr G) 0 0 P := by
    intro x hx
    subst hx
    by_cases c2 : ((K (4 * p + dy)) * 4 + (K (4 * q + dy))) % 4 = c % 4
    · refine x_iload rfl rfl ?_
      refine x_iconstN (q := 4) rfl ?_
      refine x_iremN rfl ?_
      refine x_aload_n rfl rfl ?_
      refine x_iload_n rfl rfl ?_
      refine x_iload_n rfl rfl ?_
      refine x_callV (M' := mi168) (As := [_, _]) (bc1 := 0) (bs1 := 0) (bc2 := 0) (bs2 := 0) rfl rfl rfl rfl ok168 rfl rfl (by decide) rfl rfl rfl rfl rfl rfl ?_
      refine m_markOf (by omega) hd4 ?_
      rw [hM1.at (4 * q + dy)]
      refine x_icmpN_ne rfl (fun c77 => ?_) (fun c77 => ?_)
      · exact absurd c77 (by first | decide | omega)
      refine x_iconstN (q := 0) rfl ?_
      refine x_goto rfl ?_
      refine x_iaddN rfl ?_
      exact hk2 _ (by unfold chgN; rw [if_pos c2])
    · refine x_iload rfl rfl ?_
      refine x_iconstN (q := 4) rfl ?_
      refine x_iremN rfl ?_
      refine x_aload_n rfl rfl ?_
      refine x_iload_n rfl rfl ?_
      refine x_iload_n rfl rfl ?_
      refine x_callV (M' := mi168) (As := [_, _]) (bc1 := 0) (bs1 := 0) (bc2 := 0) (bs2 := 0) rfl rfl rfl rfl ok168 rfl rfl (by decide) rfl rfl rfl rfl rfl rfl ?_
      refine m_markOf (by omega) hd4 ?_
      rw [hM1.at (4 * q + dy)]
      refine x_icmpN_ne rfl (fun c77 => ?_) (fun c77 => ?_)
      rotate_left
      · exact absurd c77 (by first | decide | omega)
      refine x_iconstN (q := 1) rfl ?_
      refine x_iaddN rfl ?_
      exact hk2 _ (by unfold chgN; rw [if_neg c2])
  by_cases c1 : ((K (4 * p + dy)) * 4 + (K (4 * q + dy))) / 4 = c / 4
  · refine x_istore (ls' := [_, _, _, _, _, _]) rfl rfl rfl ?_
    refine x_iload rfl rfl ?_
    refine x_iconst rfl ?_
    refine x_icmp_ne rfl (fun c44 => ?_) (fun c44 => ?_)
    rotate_left
    · exact absurd c44 (nI_m1 (by omega))
    refine x_iload rfl rfl ?_
    refine x_iconstN (q := 4) rfl ?_
    refine x_idivN rfl ?_
    refine x_aload_n rfl rfl ?_
    refine x_iload_n rfl rfl ?_
    refine x_iload_n rfl rfl ?_
    refine x_callV (M' := mi168) (As := [_, _]) (bc1 := 0) (bs1 := 0) (bc2 := 0) (bs2 := 0) rfl rfl rfl rfl ok168 rfl rfl (by decide) rfl rfl rfl rfl rfl rfl ?_
    refine m_markOf (by omega) hd4 ?_
    rw [hM1.at (4 * p + dy)]
    refine x_icmpN_ne rfl (fun c59 => ?_) (fun c59 => ?_)
    · exact absurd c59 (by first | decide | omega)
    refine x_iconstN (q := 0) rfl ?_
    refine x_goto rfl ?_
    exact hk _ (if_pos c1).symm
  · refine x_istore (ls' := [_, _, _, _, _, _]) rfl rfl rfl ?_
    refine x_iload rfl rfl ?_
    refine x_iconst rfl ?_
    refine x_icmp_ne rfl (fun c44 => ?_) (fun c44 => ?_)
    rotate_left
    · exact absurd c44 (nI_m1 (by omega))
    refine x_iload rfl rfl ?_
    refine x_iconstN (q := 4) rfl ?_
    refine x_idivN rfl ?_
    refine x_aload_n rfl rfl ?_
    refine x_iload_n rfl rfl ?_
    refine x_iload_n rfl rfl ?_
    refine x_callV (M' := mi168) (As := [_, _]) (bc1 := 0) (bs1 := 0) (bc2 := 0) (bs2 := 0) rfl rfl rfl rfl ok168 rfl rfl (by decide) rfl rfl rfl rfl rfl rfl ?_
    refine m_markOf (by omega) hd4 ?_
    rw [hM1.at (4 * p + dy)]
    refine x_icmpN_ne rfl (fun c59 => ?_) (fun c59 => ?_)
    rotate_left
    · exact absurd c59 (by first | decide | omega)
    refine x_iconstN (q := 1) rfl ?_
    exact hk _ (if_neg c1).symm
set_option maxRecDepth 20000 in
theorem m_talk_1 {a b c : Int32} (h : hasF 4 c = 0 ∨ a = b) (hP : P (some (.int (-1))) (LY ++ ext) V VL (vr G)) : Ex (d + 46) mi240 0 (entL [.ref 74, .int a, .int b, .int c] 4) [] (LY ++ ext) V VL (vr G) 0 0 P := by
  refine x_iload_n rfl rfl ?_
  refine x_iload_n rfl rfl ?_
  refine x_icmp_eq rfl (fun c2 => ?_) (fun c2 => ?_)
  · refine x_iconst rfl ?_
    refine x_iret rfl rfl ?_
    exact hP
  · refine x_iload_n rfl rfl ?_
    refine x_callS (M' := mi166) (As := [_]) (bc1 := 0) (bs1 := 0) (bc2 := 0) (bs2 := 0) rfl rfl rfl rfl ok166 rfl rfl rfl rfl rfl rfl ?_
    refine m_isDayK ?_
    refine x_if_ne rfl (fun c9 => ?_) (fun c9 => ?_)
    · exact absurd h (fun z => z.elim c9 c2)
    · refine x_iconst rfl ?_
      refine x_iret rfl rfl ?_
      exact hP
set_option maxRecDepth 20000 in
theorem m_talk_2 {a b : Int32} (hM : RK (V 76) K) (hW : WF K) (hd4 : dy < 4) (hab : ¬ a = b) (h : hasF (nI (K 93)) a = 0 ∨ hasF (nI (K 93)) b = 0) (hP : P (some (.int (-2))) (LY ++ ext) V VL (vr G)) : Ex (d + 46) mi240 0 (entL [.ref 74, .int a, .int b, .int (nI dy)] 4) [] (LY ++ ext) V VL (vr G) 0 0 P := by
  refine x_iload_n rfl rfl ?_
  refine x_iload_n rfl rfl ?_
  refine x_icmp_eq rfl (fun c2 => ?_) (fun c2 => ?_)
  · exact absurd c2 hab
  refine x_iload_n rfl rfl ?_
  refine x_callS (M' := mi166) (As := [_]) (bc1 := 0) (bs1 := 0) (bc2 := 0) (bs2 := 0) rfl rfl rfl rfl ok166 rfl rfl rfl rfl rfl rfl ?_
  refine m_isDayK ?_
  rw [show (4 : Int32) = nI 4 from rfl, hasF_in hd4 (by omega)]
  refine x_if_ne rfl (fun c9 => ?_) (fun c9 => ?_)
  rotate_left
  · exact absurd c9 (by first | decide | omega)
  refine x_aload_n rfl rfl ?_
  refine x_iload_n rfl rfl ?_
  refine x_callV (M' := mi164) (As := [_]) (bc1 := 0) (bs1 := 0) (bc2 := 0) (bs2 := 0) rfl rfl rfl rfl ok164 rfl rfl (by decide) rfl rfl rfl rfl rfl rfl ?_
  refine m_isPersonK hM hW ?_
  refine x_if_eq rfl (fun c19 => ?_) (fun c19 => ?_)
  · refine x_bipush rfl ?_
    refine x_iret rfl rfl ?_
    exact hP
  · refine x_aload_n rfl rfl ?_
    refine x_iload_n rfl rfl ?_
    refine x_callV (M' := mi164) (As := [_]) (bc1 := 0) (bs1 := 0) (bc2 := 0) (bs2 := 0) rfl rfl rfl rfl ok164 rfl rfl (by decide) rfl rfl rfl rfl rfl rfl ?_
    refine m_isPersonK hM hW ?_
    refine x_if_ne rfl (fun c27 => ?_) (fun c27 => ?_)
    · exact absurd h (fun z => z.elim c19 c27)
    · refine x_bipush rfl ?_
      refine x_iret rfl rfl ?_
      exact hP
set_option maxRecDepth 20000 in
theorem m_talk_3 (hM : RK (V 76) K) (hW : WF K) (hL : LwK K) (hp : p < K 93) (hq : q < K 93) (hpq : p ≠ q) (hd4 : dy < 4) (h : K (24 + p) = 0 ∨ K (24 + q) = 0 ∨ outK K p q dy (K (4 * p + dy)) (K (4 * q + dy)) (K 38) = none) (hP : ∀ V' : VIT, FrT V V' → P (some (.int (-3))) (LY ++ ext) V' VL (vr G)) : Ex (d + 46) mi240 0 (entL [.ref 74, .int (nI p), .int (nI q), .int (nI dy)] 4) [] (LY ++ ext) V VL (vr G) 0 0 P := by
  have h6 := hW.n
  refine x_iload_n rfl rfl ?_
  refine x_iload_n rfl rfl ?_
  refine x_icmpN_eq rfl (fun c2 => ?_) (fun c2 => ?_)
  · exact absurd c2 (by first | decide | omega)
  refine x_iload_n rfl rfl ?_
  refine x_callS (M' := mi166) (As := [_]) (bc1 := 0) (bs1 := 0) (bc2 := 0) (bs2 := 0) rfl rfl rfl rfl ok166 rfl rfl rfl rfl rfl rfl ?_
  refine m_isDayK ?_
  rw [show (4 : Int32) = nI 4 from rfl, hasF_in hd4 (by omega)]
  refine x_if_ne rfl (fun c9 => ?_) (fun c9 => ?_)
  rotate_left
  · exact absurd c9 (by first | decide | omega)
  refine x_aload_n rfl rfl ?_
  refine x_iload_n rfl rfl ?_
  refine x_callV (M' := mi164) (As := [_]) (bc1 := 0) (bs1 := 0) (bc2 := 0) (bs2 := 0) rfl rfl rfl rfl ok164 rfl rfl (by decide) rfl rfl rfl rfl rfl rfl ?_
  refine m_isPersonK hM hW ?_
  rw [hasF_in hp (by omega)]
  refine x_if_eq rfl (fun c19 => ?_) (fun c19 => ?_)
  · exact absurd c19 (by first | decide | omega)
  refine x_aload_n rfl rfl ?_
  refine x_iload_n rfl rfl ?_
  refine x_callV (M' := mi164) (As := [_]) (bc1 := 0) (bs1 := 0) (bc2 := 0) (bs2 := 0) rfl rfl rfl rfl ok164 rfl rfl (by decide) rfl rfl rfl rfl rfl rfl ?_
  refine m_isPersonK hM hW ?_
  rw [hasF_in hq (by omega)]
  refine x_if_ne rfl (fun c27 => ?_) (fun c27 => ?_)
  rotate_left
  · exact absurd c27 (by first | decide | omega)
  refine x_aload_n rfl rfl ?_
  refine x_iload_n rfl rfl ?_
  refine x_iload_n rfl rfl ?_
  refine x_iload_n rfl rfl ?_
  refine x_callV (M' := mi239) (As := [_, _, _]) (bc1 := 0) (bs1 := 0) (bc2 := 0) (bs2 := 0) rfl rfl rfl rfl ok239 rfl rfl (by decide) rfl rfl rfl rfl rfl rfl ?_
  refine m_canTalk_no hM hW hL hp hq hpq hd4 h (fun V1 hF => ?_)
  refine x_if_ne rfl (fun c40 => ?_) (fun c40 => ?_)
  · exact absurd c40 (by first | decide | omega)
  refine x_bipush rfl ?_
  refine x_iret rfl rfl ?_
  exact hP V1 hF
set_option maxRecDepth 20000 in
theorem m_talk_ok {c u s v : Nat} (hM : RK (V 76) K) (hW : WF K) (hL : LwK K) (hp : p < K 93) (hq : q < K 93) (hpq : p ≠ q) (hd4 : dy < 4) (h1 : K (24 + p) = 1) (h2 : K (24 + q) = 1) (ho : outK K p q dy (K (4 * p + dy)) (K (4 * q + dy)) (K 38) = some c) (hu : V 74 32 = nI u) (hn : Nxt u s v) (hP : ∀ V' : VIT, KM' V V' s v 0 → RK (V' 76) (tkK K p q dy c) → P (some (.int (nI (chgN ((K (4 * p + dy)) * 4 + (K (4 * q + dy))) c)))) (LY ++ ext) V' VL (vr G)) : Ex (d + 46) mi240 0 (entL [.ref 74, .int (nI p), .int (nI q), .int (nI dy)] 4) [] (LY ++ ext) V VL (vr G) 0 0 P := by
  have h6 := hW.n
  have hc := outK_lt (hW.mark hp hd4) (hW.mark hq hd4) ho
  refine x_iload_n rfl rfl ?_
  refine x_iload_n rfl rfl ?_
  refine x_icmpN_eq rfl (fun c2 => ?_) (fun c2 => ?_)
  · exact absurd c2 (by first | decide | omega)
  refine x_iload_n rfl rfl ?_
  refine x_callS (M' := mi166) (As := [_]) (bc1 := 0) (bs1 := 0) (bc2 := 0) (bs2 := 0) rfl rfl rfl rfl ok166 rfl rfl rfl rfl rfl rfl ?_
  refine m_isDayK ?_
  rw [show (4 : Int32) = nI 4 from rfl, hasF_in hd4 (by omega)]
  refine x_if_ne rfl (fun c9 => ?_) (fun c9 => ?_)
  rotate_left
  · exact absurd c9 (by first | decide | omega)
  refine x_aload_n rfl rfl ?_
  refine x_iload_n rfl rfl ?_
  refine x_callV (M' := mi164) (As := [_]) (bc1 := 0) (bs1 := 0) (bc2 := 0) (bs2 := 0) rfl rfl rfl rfl ok164 rfl rfl (by decide) rfl rfl rfl rfl rfl rfl ?_
  refine m_isPersonK hM hW ?_
  rw [hasF_in hp (by omega)]
  refine x_if_eq rfl (fun c19 => ?_) (fun c19 => ?_)
  · exact absurd c19 (by first | decide | omega)
  refine x_aload_n rfl rfl ?_
  refine x_iload_n rfl rfl ?_
  refine x_callV (M' := mi164) (As := [_]) (bc1 := 0) (bs1 := 0) (bc2 := 0) (bs2 := 0) rfl rfl rfl rfl ok164 rfl rfl (by decide) rfl rfl rfl rfl rfl rfl ?_
  refine m_isPersonK hM hW ?_
  rw [hasF_in hq (by omega)]
  refine x_if_ne rfl (fun c27 => ?_) (fun c27 => ?_)
  rotate_left
  · exact absurd c27 (by first | decide | omega)
  refine x_aload_n rfl rfl ?_
  refine x_iload_n rfl rfl ?_
  refine x_iload_n rfl rfl ?_
  refine x_iload_n rfl rfl ?_
  refine x_callV (M' := mi239) (As := [_, _, _]) (bc1 := 0) (bs1 := 0) (bc2 := 0) (bs2 := 0) rfl rfl rfl rfl ok239 rfl rfl (by decide) rfl rfl rfl rfl rfl rfl ?_
  refine m_canTalk_yes hM hW hL hp hq hpq hd4 h1 h2 ho (fun V1 hF => ?_)
  refine x_if_ne rfl (fun c40 => ?_) (fun c40 => ?_)
  rotate_left
  · exact absurd c40 (by first | decide | omega)
  skip
  have hu1 : V1 74 32 = nI u := by rw [hF 74 32 (by omega) (by omega)]; exact hu
  have hM1 := hF.RK hM
  refine x_aload_n rfl rfl ?_
  refine x_iconstN (q := 0) rfl ?_
  refine x_callV (M' := mi235) (As := [_]) (bc1 := 0) (bs1 := 0) (bc2 := 0) (bs2 := 0) rfl rfl rfl rfl ok235 rfl rfl (by decide) rfl rfl rfl rfl rfl rfl ?_
  refine m_keeps hu1 hn (fun V2 x1 x2 x3 x4 x5 => ?_)
  have hM2 : RK (V2 76) K := by rw [show V2 76 = V1 76 from funext (fun k => x5 76 k (by omega) (by omega))]; exact hM1
  refine x_aload_n rfl rfl ?_
  refine x_iload_n rfl rfl ?_
  refine x_iload_n rfl rfl ?_
  refine x_iload_n rfl rfl ?_
  refine x_callV (M' := mi238) (As := [_, _, _]) (bc1 := 0) (bs1 := 0) (bc2 := 0) (bs2 := 0) rfl rfl rfl rfl ok238 rfl rfl (by decide) rfl rfl rfl rfl rfl rfl ?_
  refine m_talksNow_ok hM2 hW hL hp hq hpq hd4 h1 h2 ho (fun V3 hF3 => ?_)
  skip
  have hM3 : RK (up (up V3 76 (4 * p + dy) (nI (c / 4))) 76 (4 * q + dy) (nI (c % 4)) 76) (tkK K p q dy c) := by
    have a1 : RK (up V3 76 (4 * p + dy) (nI (c / 4)) 76) (ku K (4 * p + dy) (c / 4)) := (hF3.RK hM2).ku (by omega) rfl
    exact a1.ku (by omega) rfl
  have e76 : V1 76 = V 76 := hF.row 76 (by omega) (by omega)
  have e88 : V1 88 = V 88 := hF.row 88 (by omega) (by omega)
  have f88 : V3 88 = V2 88 := hF3.row 88 (by omega) (by omega)
  refine x_iret rfl rfl ?_
  refine hP _ ⟨?_, fun k hk => ?_, fun k hk => ?_, ?_, fun a k q0 q1 q2 q3 => ?_⟩ hM3
  · rw [up_ne (by omega), up_ne (by omega), hF3 74 32 (by omega) (by omega)]; exact x1
  · rw [up_ne (by omega), up_ne (by omega), f88, x2 k hk, e88]
  · rw [up_ne (by omega), up_ne (by omega), f88, x3 k hk, e76]
  · rw [up_ne (by omega), up_ne (by omega), f88]; exact x4
  · unfold kpP at q0; rw [up_ne (by omega), up_ne (by omega), hF3 a k (by omega) (by omega), x5 a k (by omega) (by omega), hF a k (by omega) (by omega)]
set_option maxRecDepth 20000 in
theorem x_talkC_ref {a b c : Int32} {v : Int32} {Q : VIT → Prop} (k : Nat) (hv : v = -nI (k + 1)) (hk : k < 6) (h : ∀ P' : Post, (∀ V', Q V' → P' (some (.int v)) (LY ++ ext) V' VL (vr G)) → Ex (d + 4) mi1 0 (entL [.ref 45, .int a, .int b, .int c] 6) [] (LY ++ ext) V VL (vr G) 0 0 P') (hP : ∀ V', Q V' → P (some (.int v)) (LY ++ ext) (up (up V' 0 17 v) 73 k (V' 73 k + 1)) VL (vr G)) : Ex (d + 5) mi124 0 (entL [.ref 0, .int a, .int b, .int c] 4) [] (LY ++ ext) V VL (vr G) 0 0 P := by
  refine x_aload_n rfl rfl ?_
  refine x_aload_n rfl rfl ?_
  refine x_getR (u := .ref _) rfl rfl rfl rfl ?_
  refine x_iload_n rfl rfl ?_
  refine x_iload_n rfl rfl ?_
  refine x_iload_n rfl rfl ?_
  refine x_callV (M' := mi1) (As := [_, _, _]) (bc1 := 0) (bs1 := 0) (bc2 := 0) (bs2 := 0) rfl rfl rfl rfl ok1 rfl rfl (by decide) rfl rfl rfl rfl rfl rfl ?_
  refine h _ (fun V1 hq => ?_)
  refine x_callV (M' := mi145) (As := [_]) (bc1 := 0) (bs1 := 0) (bc2 := 0) (bs2 := 0) rfl rfl rfl rfl ok145 rfl rfl (by decide) rfl rfl rfl rfl rfl rfl ?_
  refine s_settled_ref k hv hk ?_
  refine x_iret rfl rfl ?_
  exact hP V1 hq
set_option maxRecDepth 20000 in
theorem m_talkC_ref {a b c : Int32} {v : Int32} {Q : VIT → Prop} (k : Nat) (hv : v = -nI (k + 1)) (hk : k < 6) (h : ∀ P' : Post, (∀ V', Q V' → P' (some (.int v)) (LY ++ ext) V' VL (vr G)) → Ex (d + 46) mi240 0 (entL [.ref 74, .int a, .int b, .int c] 4) [] (LY ++ ext) V VL (vr G) 0 0 P') (hP : ∀ V', Q V' → P (some (.int v)) (LY ++ ext) (up (up V' 74 0 v) 75 (k + 1) (V' 75 (k + 1) + 1)) VL (vr G)) : Ex (d + 47) mi244 0 (entL [.ref 74, .int a, .int b, .int c] 4) [] (LY ++ ext) V VL (vr G) 0 0 P := by
  refine x_aload_n rfl rfl ?_
  refine x_aload_n rfl rfl ?_
  refine x_iload_n rfl rfl ?_
  refine x_iload_n rfl rfl ?_
  refine x_iload_n rfl rfl ?_
  refine x_callV (M' := mi240) (As := [_, _, _]) (bc1 := 0) (bs1 := 0) (bc2 := 0) (bs2 := 0) rfl rfl rfl rfl ok240 rfl rfl (by decide) rfl rfl rfl rfl rfl rfl ?_
  refine h _ (fun V1 hq => ?_)
  refine x_callV (M' := mi237) (As := [_]) (bc1 := 0) (bs1 := 0) (bc2 := 0) (bs2 := 0) rfl rfl rfl rfl ok237 rfl rfl (by decide) rfl rfl rfl rfl rfl rfl ?_
  refine m_goodOr_ref k hv hk ?_
  refine x_iret rfl rfl ?_
  exact hP V1 hq
set_option maxRecDepth 20000 in
theorem x_talkC_ok {a b c : Int32} {r : Nat} {Q : VIT → Prop} (hr : r < 2147483648) (h : ∀ P' : Post, (∀ V', Q V' → P' (some (.int (nI r))) (LY ++ ext) V' VL (vr G)) → Ex (d + 4) mi1 0 (entL [.ref 45, .int a, .int b, .int c] 6) [] (LY ++ ext) V VL (vr G) 0 0 P') (hP : ∀ V', Q V' → P (some (.int (nI r))) (LY ++ ext) (up V' 0 17 0) VL (vr G)) : Ex (d + 5) mi124 0 (entL [.ref 0, .int a, .int b, .int c] 4) [] (LY ++ ext) V VL (vr G) 0 0 P := by
  refine x_aload_n rfl rfl ?_
  refine x_aload_n rfl rfl ?_
  refine x_getR (u := .ref _) rfl rfl rfl rfl ?_
  refine x_iload_n rfl rfl ?_
  refine x_iload_n rfl rfl ?_
  refine x_iload_n rfl rfl ?_
  refine x_callV (M' := mi1) (As := [_, _, _]) (bc1 := 0) (bs1 := 0) (bc2 := 0) (bs2 := 0) rfl rfl rfl rfl ok1 rfl rfl (by decide) rfl rfl rfl rfl rfl rfl ?_
  refine h _ (fun V1 hq => ?_)
  refine x_callV (M' := mi145) (As := [_]) (bc1 := 0) (bs1 := 0) (bc2 := 0) (bs2 := 0) rfl rfl rfl rfl ok145 rfl rfl (by decide) rfl rfl rfl rfl rfl rfl ?_
  refine s_settled_ok hr ?_
  refine x_iret rfl rfl ?_
  exact hP V1 hq
set_option maxRecDepth 20000 in
theorem m_talkC_ok {a b c : Int32} {r : Nat} {Q : VIT → Prop} (hr : r < 2147483648) (h : ∀ P' : Post, (∀ V', Q V' → P' (some (.int (nI r))) (LY ++ ext) V' VL (vr G)) → Ex (d + 46) mi240 0 (entL [.ref 74, .int a, .int b, .int c] 4) [] (LY ++ ext) V VL (vr G) 0 0 P') (hP : ∀ V', Q V' → P (some (.int (nI r))) (LY ++ ext) (up V' 74 0 0) VL (vr G)) : Ex (d + 47) mi244 0 (entL [.ref 74, .int a, .int b, .int c] 4) [] (LY ++ ext) V VL (vr G) 0 0 P := by
  refine x_aload_n rfl rfl ?_
  refine x_aload_n rfl rfl ?_
  refine x_iload_n rfl rfl ?_
  refine x_iload_n rfl rfl ?_
  refine x_iload_n rfl rfl ?_
  refine x_callV (M' := mi240) (As := [_, _, _]) (bc1 := 0) (bs1 := 0) (bc2 := 0) (bs2 := 0) rfl rfl rfl rfl ok240 rfl rfl (by decide) rfl rfl rfl rfl rfl rfl ?_
  refine h _ (fun V1 hq => ?_)
  refine x_callV (M' := mi237) (As := [_]) (bc1 := 0) (bs1 := 0) (bc2 := 0) (bs2 := 0) rfl rfl rfl rfl ok237 rfl rfl (by decide) rfl rfl rfl rfl rfl rfl ?_
  refine m_goodOr_ok hr ?_
  refine x_iret rfl rfl ?_
  exact hP V1 hq
end Talk
-- both sides refuse, with scratch laid
set_option maxRecDepth 20000 in
theorem Pr_refS {D : Nat} {xm mm : MI} {As : List Value} {j : Nat} {ext : HL} {G : VRT} {K : KT} {tn : Nat} {T : Nat → Nat} {u : Nat} {US : Nat → KT} {lg : Nat → Nat} {VI : VIT} {VL : VLT} (hS : St j ext G K tn T u US lg VI) (k : Nat) (hk : k < 6) (v : Int32) (hx : ∀ P : Post, (∀ V' : VIT, (∀ a i, kpP a i → V' a i = VI a i) → P (some (.int v)) (LY ++ ext) (up (up V' 0 17 v) 73 k (V' 73 k + 1)) VL (vr G)) → Ex D xm 0 (entL (.ref 0 :: As) (mL xm)) [] (LY ++ ext) VI VL (vr G) 0 0 P) (hm : ∀ (P : Post) (V : VIT), RK (V 76) K → (∀ V' : VIT, (∀ a i, kpP a i → V' a i = V a i) → P (some (.int v)) (LY ++ ext) (up (up V' 74 0 v) 75 (k + 1) (V' 75 (k + 1) + 1)) VL (vr G)) → Ex D mm 0 (entL (.ref 74 :: As) (mL mm)) [] (LY ++ ext) V VL (vr G) 0 0 P) : Pr D xm mm As (LY ++ ext) VI VL (vr G) (Inv (j + 1)) := by
  refine ExS.budget (bc := 0) (bs := 0) (hx _ (fun V1 h1 => ⟨v, ext, rfl, rfl, ?_⟩)) (by omega) (by omega)
  have hS1 := hS.scr0 h1
  refine hm _ _ ?_ (fun V2 h2 => ⟨rfl, ?_⟩)
  · rw [up_ne (by omega), up_ne (by omega)]; exact hS1.2.2.1
  have hR := hS1.refuse (v := v) hk
  refine (hR.scr0 (VI' := up (up V2 74 0 v) 75 (k + 1) (V2 75 (k + 1) + 1)) (fun a i q => ?_)).inv
  have e75 : V2 75 (k + 1) = V1 75 (k + 1) := by rw [h2 75 (k + 1) (by unfold kpP; omega), up_ne (by omega), up_ne (by omega)]
  have e2 := h2 a i q
  by_cases c1 : a = 75 ∧ i = k + 1
  · obtain ⟨rfl, rfl⟩ := c1
    rw [up_at, up_at, e75]
  · rw [up_ne2 c1, up_ne2 c1]
    by_cases c2 : a = 74 ∧ i = 0
    · obtain ⟨rfl, rfl⟩ := c2
      rw [up_at, up_at]
    · rw [up_ne2 c2, up_ne2 c2, e2]
section Join13
variable {j : Nat} {lay : HL} {VI : VIT} {VL : VLT} {VR : VRT}
set_option maxRecDepth 20000 in
theorem FrH.kp {V V1 : VIT} (h : FrH V V1) (a k : Nat) (hk : kpP a k) : V1 a k = V a k := by
  unfold kpP at hk
  exact h a k (by omega) (by omega) (by omega)
set_option maxRecDepth 20000 in
theorem FrT.kp {V V1 : VIT} (h : FrT V V1) (a k : Nat) (hk : kpP a k) : V1 a k = V a k := by
  unfold kpP at hk
  exact h a k (by omega) (by omega)
set_option maxRecDepth 20000 in
theorem j_talk {a b c : Int32} (h : Inv j lay VI VL VR) : Pr 100 mi124 mi244 [.int a, .int b, .int c] lay VI VL VR (Inv (j + 1)) := by
  obtain ⟨ext, G, K, tn, T, u, US, lg, rfl, rfl, hS⟩ := h
  have hW := hS.1
  have hX := hS.2.1
  have hM := hS.2.2.1
  have hU := hS.2.2.2.2.2.1
  have hL := hS.2.2.2.2.2.2.2.2.2.1
  have h6 := hW.n
  have kr : ∀ (V : VIT) (a i : Nat), kpP a i → V a i = V a i := fun _ _ _ _ => rfl
  by_cases hb : hasF 4 c = 0 ∨ a = b
  · exact Pr_refS hS 0 (by omega) (-1) (fun P z => x_talkC_ref (Q := fun V' => V' = VI) 0 rfl (by omega) (fun P' q => s_talk_1 hb (q VI rfl)) (fun V' e => by subst e; exact z _ (kr _))) (fun P V _ z => m_talkC_ref (Q := fun V' => V' = V) 0 rfl (by omega) (fun P' q => m_talk_1 hb (q V rfl)) (fun V' e => by subst e; exact z _ (kr _)))
  rcases has_cases (n := 4) (by omega) c with h1 | ⟨dy, hd4, rfl⟩
  · exact absurd (Or.inl h1) hb
  have hab : ¬ a = b := fun z => hb (Or.inr z)
  by_cases hb2 : hasF (nI (K 93)) a = 0 ∨ hasF (nI (K 93)) b = 0
  · exact Pr_refS hS 1 (by omega) (-2) (fun P z => x_talkC_ref (Q := fun V' => V' = VI) 1 rfl (by omega) (fun P' q => s_talk_2 hX hd4 hab hb2 (q VI rfl)) (fun V' e => by subst e; exact z _ (kr _))) (fun P V hMV z => m_talkC_ref (Q := fun V' => V' = V) 1 rfl (by omega) (fun P' q => m_talk_2 hMV hW hd4 hab hb2 (q V rfl)) (fun V' e => by subst e; exact z _ (kr _)))
  rcases has_cases (n := K 93) (by omega) a with h1 | ⟨p, hp, rfl⟩
  · exact absurd (Or.inl h1) hb2
  rcases has_cases (n := K 93) (by omega) b with h1 | ⟨q, hq, rfl⟩
  · exact absurd (Or.inr h1) hb2
  have hpq : p ≠ q := fun z => hab (by rw [z])
  have l1 := hW.life hp
  have l2 := hW.life hq
  by_cases hl : K (24 + p) = 0 ∨ K (24 + q) = 0
  · exact Pr_refS hS 2 (by omega) (-3) (fun P z => x_talkC_ref (Q := fun V' => V' = VI) 2 rfl (by omega) (fun P' q => s_talk_3 hX hW hL hp hq hpq hd4 hl (q VI rfl)) (fun V' e => by subst e; exact z _ (kr _))) (fun P V hMV z => m_talkC_ref (Q := fun V' => FrT V V') 2 rfl (by omega) (fun P' w => m_talk_3 hMV hW hL.K hp hq hpq hd4 (hl.elim Or.inl (fun y => Or.inr (Or.inl y))) w) (fun V' e => z _ e.kp))
  have e1 : K (24 + p) = 1 := by omega
  have e2 : K (24 + q) = 1 := by omega
  cases ho : outK K p q dy (K (4 * p + dy)) (K (4 * q + dy)) (K 38) with
  | none => exact Pr_refS hS 2 (by omega) (-3) (fun P z => x_talkC_ref (Q := fun V' => FrH VI V') 2 rfl (by omega) (fun P' w => s_talk_4 hX hW hL hp hq hpq hd4 e1 e2 ho w) (fun V' e => z _ e.kp)) (fun P V hMV z => m_talkC_ref (Q := fun V' => FrT V V') 2 rfl (by omega) (fun P' w => m_talk_3 hMV hW hL.K hp hq hpq hd4 (Or.inr (Or.inr ho)) w) (fun V' e => z _ e.kp))
  | some c =>
    obtain ⟨s, v, hn⟩ := nxt hU.1
    have hm1 := hW.mark hp hd4
    have hm2 := hW.mark hq hd4
    have hc := outK_lt hm1 hm2 ho
    have hcl : chgN ((K (4 * p + dy)) * 4 + (K (4 * q + dy))) c < 2147483648 := by have := chgN_le (mk := (K (4 * p + dy)) * 4 + (K (4 * q + dy))) (c := c); omega
    have hg4 : ((((dy * 8 + p) * 8 + q) * 16 + ((K (4 * p + dy)) * 4 + (K (4 * q + dy)))) * 4 + 0) % 4 = 0 := by omega
    refine ExS.budget (bc := 0) (bs := 0) (x_talkC_ok (r := chgN ((K (4 * p + dy)) * 4 + (K (4 * q + dy))) c) (Q := fun V' => KX' VI V' s v ((((dy * 8 + p) * 8 + q) * 16 + ((K (4 * p + dy)) * 4 + (K (4 * q + dy)))) * 4 + 0) ∧ RW 3 (tkK K p q dy c) V') hcl (fun P' w => s_talk_ok hX hW hL hp hq hpq hd4 e1 e2 ho hU.2.1 hn (fun V' z1 z2 => w V' ⟨z1, z2⟩)) (fun V1 hq1 => ⟨_, ext, rfl, rfl, ?_⟩)) (by omega) (by omega)
    have hM1 : RK ((up V1 0 17 0) 76) K := by
      rw [up_ne (by omega), show V1 76 = VI 76 from funext (fun k => hq1.1.2.2.2 76 k (by unfold kpP; omega) (by omega) (by omega) (by omega))]; exact hM
    have hU1 : (up V1 0 17 0) 74 32 = nI u := by
      rw [up_ne (by omega), hq1.1.2.2.2 74 32 (by unfold kpP; omega) (by omega) (by omega) (by omega)]; exact hU.2.2.1
    refine m_talkC_ok (r := chgN ((K (4 * p + dy)) * 4 + (K (4 * q + dy))) c) (Q := fun V' => KM' (up V1 0 17 0) V' s v (((((dy * 8 + p) * 8 + q) * 16 + ((K (4 * p + dy)) * 4 + (K (4 * q + dy)))) * 4 + 0) % 4) ∧ RK (V' 76) (tkK K p q dy c)) hcl (fun P' w => m_talk_ok hM1 hW hL.K hp hq hpq hd4 e1 e2 ho hU1 hn (fun V' z1 z2 => w V' ⟨by rw [hg4]; exact z1, z2⟩)) (fun V2 hq2 => ⟨rfl, (hS.deed2 hn (by omega) hq1.1 hq1.2 hq2.1 hq2.2 (tkK_WF hW hp hq hd4 hc) (tkK_un hW hp hq hpq hd4) (fun i hi => tkK_ge hW hp hq hd4 i (by omega))).inv⟩)
end Join13
