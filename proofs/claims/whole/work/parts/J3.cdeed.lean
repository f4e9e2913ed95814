/-! ===== the class's deeds within orders ===== -/
def KXo (V V' : VIT) (s v g : Nat) : Prop := V' 45 2 = nI (v + 1) ∧ (∀ i, i < v → V' 46 i = V 46 (i + s)) ∧ V' 46 v = nI g ∧ ∀ a k, a ≠ 2 → a ≠ 44 → ¬ (a = 43 ∧ (k = 3 ∨ k = 4 ∨ k = 5)) → a ≠ 46 → ¬ (a = 45 ∧ k = 2) → (a < 3 ∨ 12 < a) → V' a k = V a k
set_option maxRecDepth 20000 in
theorem KX.o {V V' : VIT} {s v g : Nat} (h : KX V V' s v g) : KXo V V' s v g := ⟨h.1, h.2.1, h.2.2.1, fun a k _ _ _ => h.2.2.2 a k⟩
set_option maxRecDepth 20000 in
theorem oI_has {a : Int} {n : Nat} (h1 : -2147483648 ≤ a) (h2 : a < 2147483648) (hn : n ≤ 1000) : (hasF (nI n) (Int32.ofInt a) = 0 ∧ ¬ (0 ≤ a ∧ a < n)) ∨ ∃ i : Nat, i < n ∧ a = (i : Int) := by
  have ht := oI_toInt h1 h2
  by_cases c : 0 ≤ a ∧ a < n
  · exact Or.inr ⟨a.toNat, by omega, by omega⟩
  · refine Or.inl ⟨?_, c⟩
    by_cases c0 : 0 ≤ a
    · refine hasF_big ?_
      rw [Int32.le_iff_toInt_le, ht, nI_toInt (by omega)]
      omega
    · refine hasF_neg ?_
      rw [Int32.lt_iff_toInt_lt, ht, show (0 : Int32).toInt = 0 from rfl]
      omega
section CDeed
variable {d : Nat} {V : VIT} {VL : VLT} {G : VRT} {P : Post} {ext : HL} {K : KT} {p q dy : Nat} {a b c : Int}
set_option maxRecDepth 20000 in
theorem s_talk_okO {o u s v : Nat} (hX : RW 3 K V) (hW : WF K) (hL : Laws K 13 (LY ++ ext) V (vr G)) (hp : p < K 93) (hq : q < K 93) (hpq : p ≠ q) (hd4 : dy < 4) (h1 : K (24 + p) = 1) (h2 : K (24 + q) = 1) (ho : outK K p q dy (K (4 * p + dy)) (K (4 * q + dy)) (K 38) = some o) (hu : V 45 2 = nI u) (hn : Nxt u s v) (hP : ∀ V' : VIT, KXo V V' s v (tlkG K p q dy) → RW 3 (tkK K p q dy o) V' → P (some (.int (nI (chgN ((K (4 * p + dy)) * 4 + (K (4 * q + dy))) o)))) (LY ++ ext) V' VL (vr G)) : Ex (d + 4) mi1 0 (entL [.ref 45, .int (nI p), .int (nI q), .int (nI dy)] 6) [] (LY ++ ext) V VL (vr G) 0 0 P := by
  have h6 := hW.n
  have hm1 := hW.mark hp hd4
  have hm2 := hW.mark hq hd4
  have h38 : K 38 ≤ 999 := hW.2.2.2.2.2.1
  have hc := outK_lt hm1 hm2 ho
  have ed : ((K (4 * p + dy)) * 4 + (K (4 * q + dy))) / 4 = (K (4 * p + dy)) := by omega
  have em : ((K (4 * p + dy)) * 4 + (K (4 * q + dy))) % 4 = (K (4 * q + dy)) := by omega
  refine x_iload_n rfl rfl ?_
  refine x_callN (M' := mi150) (As := [_]) (bc1 := 0) (bs1 := 0) (bc2 := 0) (bs2 := 0) rfl rfl rfl rfl ok150 rfl rfl rfl rfl rfl rfl ?_
  refine s_isDay_in hd4 ?_
  refine x_if_eq rfl (fun c4 => ?_) (fun c4 => ?_)
  · exact absurd c4 (by first | decide | omega)
  refine x_iload_n rfl rfl ?_
  refine x_iload_n rfl rfl ?_
  refine x_icmpN_ne rfl (fun c9 => ?_) (fun c9 => ?_)
  rotate_left
  · exact absurd c9 (by first | decide | omega)
  refine x_aload_n rfl rfl ?_
  refine x_getR (u := .ref _) rfl rfl rfl rfl ?_
  refine x_iload_n rfl rfl ?_
  refine x_callV (M' := mi95) (As := [_]) (bc1 := 0) (bs1 := 0) (bc2 := 0) (bs2 := 0) rfl rfl rfl rfl ok95 rfl rfl (by decide) rfl rfl rfl rfl rfl rfl ?_
  refine s_hasPerson_in hX.n hp h6 ?_
  refine x_if_eq rfl (fun c22 => ?_) (fun c22 => ?_)
  · exact absurd c22 (by first | decide | omega)
  refine x_aload_n rfl rfl ?_
  refine x_getR (u := .ref _) rfl rfl rfl rfl ?_
  refine x_iload_n rfl rfl ?_
  refine x_callV (M' := mi95) (As := [_]) (bc1 := 0) (bs1 := 0) (bc2 := 0) (bs2 := 0) rfl rfl rfl rfl ok95 rfl rfl (by decide) rfl rfl rfl rfl rfl rfl ?_
  refine s_hasPerson_in hX.n hq h6 ?_
  refine x_if_ne rfl (fun c33 => ?_) (fun c33 => ?_)
  rotate_left
  · exact absurd c33 (by first | decide | omega)
  refine x_aload_n rfl rfl ?_
  refine x_getR (u := .ref _) rfl rfl rfl rfl ?_
  refine x_iload_n rfl rfl ?_
  refine x_callV (M' := mi98) (As := [_]) (bc1 := 0) (bs1 := 0) (bc2 := 0) (bs2 := 0) rfl rfl rfl rfl ok98 rfl rfl (by decide) rfl rfl rfl rfl rfl rfl ?_
  refine s_lives_in hX.n hX.lm hp h6 hW.lm ?_
  rw [lm_bit hW hp]
  refine x_ifN_eq rfl (fun c47 => ?_) (fun c47 => ?_)
  · exact absurd c47 (by first | decide | omega)
  refine x_aload_n rfl rfl ?_
  refine x_getR (u := .ref _) rfl rfl rfl rfl ?_
  refine x_iload_n rfl rfl ?_
  refine x_callV (M' := mi98) (As := [_]) (bc1 := 0) (bs1 := 0) (bc2 := 0) (bs2 := 0) rfl rfl rfl rfl ok98 rfl rfl (by decide) rfl rfl rfl rfl rfl rfl ?_
  refine s_lives_in hX.n hX.lm hq h6 hW.lm ?_
  rw [lm_bit hW hq]
  refine x_ifN_ne rfl (fun c58 => ?_) (fun c58 => ?_)
  rotate_left
  · exact absurd c58 (by first | decide | omega)
  skip
  refine x_aload_n rfl rfl ?_
  refine x_getR (u := .ref _) rfl rfl rfl rfl ?_
  refine x_iload_n rfl rfl ?_
  refine x_iload_n rfl rfl ?_
  refine x_callV (M' := mi101) (As := [_, _]) (bc1 := 0) (bs1 := 0) (bc2 := 0) (bs2 := 0) rfl rfl rfl rfl ok101 rfl rfl (by decide) rfl rfl rfl rfl rfl rfl ?_
  refine s_markOf_in hX.n hp h6 hd4 ?_
  rw [show V 6 (p * 4 + dy) = nI (K (4 * p + dy)) from hX.mark hp hd4]
  refine x_iconstN (q := 4) rfl ?_
  refine x_imulN rfl ?_
  refine x_aload_n rfl rfl ?_
  refine x_getR (u := .ref _) rfl rfl rfl rfl ?_
  refine x_iload_n rfl rfl ?_
  refine x_iload_n rfl rfl ?_
  refine x_callV (M' := mi101) (As := [_, _]) (bc1 := 0) (bs1 := 0) (bc2 := 0) (bs2 := 0) rfl rfl rfl rfl ok101 rfl rfl (by decide) rfl rfl rfl rfl rfl rfl ?_
  refine s_markOf_in hX.n hq h6 hd4 ?_
  rw [show V 6 (q * 4 + dy) = nI (K (4 * q + dy)) from hX.mark hq hd4]
  refine x_iaddN rfl ?_
  refine x_istore (ls' := [_, _, _, _, _, _]) rfl rfl rfl ?_
  refine x_aload_n rfl rfl ?_
  refine x_getR (u := .ref _) rfl rfl rfl rfl ?_
  refine x_iload_n rfl rfl ?_
  refine x_iload_n rfl rfl ?_
  refine x_iload_n rfl rfl ?_
  refine x_iload rfl rfl ?_
  refine x_aload_n rfl rfl ?_
  refine x_getR (u := .ref _) rfl rfl rfl rfl ?_
  refine x_getR (u := .ref _) rfl rfl rfl rfl ?_
  refine x_iconstN (q := 0) rfl ?_
  refine x_ialE (j := 0) rfl rfl (rfl) (by omega) (hX.t0) ?_
  refine x_callV (M' := mi12) (As := [_, _, _, _, _]) (bc1 := 0) (bs1 := 0) (bc2 := 0) (bs2 := 0) rfl rfl rfl rfl ok12 rfl rfl (by decide) rfl rfl rfl rfl rfl rfl ?_
  refine s_outcome hX hW hL hp hq hd4 (by omega) (by omega) (fun V1 hF => ?_)
  rw [ed, em, ho]
  have hX1 := hF.RW hX
  have hu1 : V1 45 2 = nI u := by rw [hF.row 45 (by omega) (by omega) (by omega)]; exact hu
  refine x_istore (ls' := [_, _, _, _, _, _]) rfl rfl rfl ?_
  refine x_iload rfl rfl ?_
  refine x_iconst rfl ?_
  refine x_icmp_ne rfl (fun c113 => ?_) (fun c113 => ?_)
  rotate_left
  · exact absurd c113 (nI_m1 (by omega))
  refine x_aload_n rfl rfl ?_
  refine x_iconstN (q := 0) rfl ?_
  refine x_iload_n rfl rfl ?_
  refine x_bipushN (q := 8) rfl ?_
  refine x_imulN rfl ?_
  refine x_iload_n rfl rfl ?_
  refine x_iaddN rfl ?_
  refine x_bipushN (q := 8) rfl ?_
  refine x_imulN rfl ?_
  refine x_iload_n rfl rfl ?_
  refine x_iaddN rfl ?_
  refine x_bipushN (q := 16) rfl ?_
  refine x_imulN rfl ?_
  refine x_iload rfl rfl ?_
  refine x_iaddN rfl ?_
  refine x_callV (M' := mi10) (As := [_, _]) (bc1 := 0) (bs1 := 0) (bc2 := 0) (bs2 := 0) rfl rfl rfl rfl ok10 rfl rfl (by decide) rfl rfl rfl rfl rfl rfl ?_
  refine s_keep hu1 hn (fun V2 x1 x2 x3 x4 => ?_)
  have hX2 : RW 3 K V2 := hX1.same (fun a _ _ => funext (fun k => x4 a k (by omega) (by omega)))
  have hX3 : RW 3 (ku K (4 * p + dy) (o / 4)) (up V2 6 (p * 4 + dy) (nI (o / 4))) := hX2.mark1 hW hp hd4
  have hW3 : WF (ku K (4 * p + dy) (o / 4)) := hW.mark1 hp hd4 (by omega)
  have e93 : ku K (4 * p + dy) (o / 4) 93 = K 93 := ku_ne (by omega)
  have hX4 : RW 3 (tkK K p q dy o) (up (up V2 6 (p * 4 + dy) (nI (o / 4))) 6 (q * 4 + dy) (nI (o % 4))) := hX3.mark1 hW3 (by rw [e93]; exact hq) hd4
  refine x_aload_n rfl rfl ?_
  refine x_getR (u := .ref _) rfl rfl rfl rfl ?_
  refine x_iload_n rfl rfl ?_
  refine x_iload_n rfl rfl ?_
  refine x_iload rfl rfl ?_
  refine x_iconstN (q := 4) rfl ?_
  refine x_idivN rfl ?_
  refine x_callV (M' := mi102) (As := [_, _, _]) (bc1 := 0) (bs1 := 0) (bc2 := 0) (bs2 := 0) rfl rfl rfl rfl ok102 rfl rfl (by decide) rfl rfl rfl rfl rfl rfl ?_
  refine s_setMark hX2.n hp h6 hd4 ?_
  refine x_aload_n rfl rfl ?_
  refine x_getR (u := .ref _) rfl rfl rfl rfl ?_
  refine x_iload_n rfl rfl ?_
  refine x_iload_n rfl rfl ?_
  refine x_iload rfl rfl ?_
  refine x_iconstN (q := 4) rfl ?_
  refine x_iremN rfl ?_
  refine x_callV (M' := mi102) (As := [_, _, _]) (bc1 := 0) (bs1 := 0) (bc2 := 0) (bs2 := 0) rfl rfl rfl rfl ok102 rfl rfl (by decide) rfl rfl rfl rfl rfl rfl ?_
  refine s_setMark (n := K 93) (hX3.n.trans (by rw [e93])) hq h6 hd4 ?_
  refine x_iload rfl rfl ?_
  refine x_iload rfl rfl ?_
  refine x_callS (M' := mi9) (As := [_, _]) (bc1 := 0) (bs1 := 0) (bc2 := 0) (bs2 := 0) rfl rfl rfl rfl ok9 rfl rfl rfl rfl rfl rfl ?_
  refine s_changed (by omega) hc ?_
  refine x_iret rfl rfl ?_
  refine hP _ ⟨?_, fun i hi => ?_, ?_, fun a k q1 q2 q3 q4 q5 q6 => ?_⟩ hX4
  · rw [up_ne (by omega), up_ne (by omega)]; exact x1
  · rw [up_ne (by omega), up_ne (by omega), x2 i hi, hF.row 46 (by omega) (by omega) (by omega)]
  · rw [up_ne (by omega), up_ne (by omega)]; exact x3
  · rw [up_ne (by omega), up_ne (by omega), x4 a k q4 q5]; exact hF a k q1 q2 q3
-- what a deed of the class comes to
set_option maxRecDepth 20000 in
theorem x_talkO (hX : RW 3 K V) (hW : WF K) (hL : Laws K 13 (LY ++ ext) V (vr G)) {u : Nat} (hu : V 45 2 = nI u) (hu16 : u ≤ 16) (ha : -1000002000 ≤ a ∧ a ≤ 1000002000) (hb : -1000002000 ≤ b ∧ b ≤ 1000002000) (hc : -1000002000 ≤ c ∧ c ≤ 1000002000)
  (h1 : ∀ (K' : KT) (g r : Nat) (V' : VIT), deedA 0 K a b c = some (K', g, r) → KXo V V' (sO u) (vO u) g → RW 3 K' V' → r ≤ 1000 → P (some (.int (nI r))) (LY ++ ext) V' VL (vr G))
  (h0 : deedA 0 K a b c = none → ∀ (V' : VIT) (w : Int32), w < 0 → FrH V V' → P (some (.int w)) (LY ++ ext) V' VL (vr G)) : Ex (d + 4) mi1 0 (entL [.ref 45, .int (Int32.ofInt a), .int (Int32.ofInt b), .int (Int32.ofInt c)] 6) [] (LY ++ ext) V VL (vr G) 0 0 P := by
  have h6 := hW.n
  have e0 : deedA 0 K a b c = (if 0 ≤ a ∧ a < K 93 ∧ 0 ≤ b ∧ b < K 93 ∧ a ≠ b ∧ 0 ≤ c ∧ c < 4 ∧ K (24 + a.toNat) = 1 ∧ K (24 + b.toNat) = 1 then
      (outK K a.toNat b.toNat c.toNat (K (4 * a.toNat + c.toNat)) (K (4 * b.toNat + c.toNat)) (K 38)).map (fun o => (tkK K a.toNat b.toNat c.toNat o, tlkG K a.toNat b.toNat c.toNat, chgN (K (4 * a.toNat + c.toNat) * 4 + K (4 * b.toNat + c.toNat)) o))
    else none) := rfl
  have hfr : FrH V V := fun _ _ _ _ _ => rfl
  have hneg : ∀ k : Int32, k = -1 ∨ k = -2 ∨ k = -3 → k < 0 := fun k hk => by rcases hk with rfl | rfl | rfl <;> decide
  have hcn : Int32.ofInt c = nI c.toNat ∨ hasF 4 (Int32.ofInt c) = 0 := by
    rcases oI_has (a := c) (n := 4) (by omega) (by omega) (by omega) with ⟨q1, q2⟩ | ⟨i, q1, q2⟩
    · exact Or.inr q1
    · left; rw [q2, ← oI_nat, Int.toNat_natCast]
  rcases oI_has (a := c) (n := 4) (by omega) (by omega) (by omega) with ⟨q1, q2⟩ | ⟨dy, hd4, rfl⟩
  · refine s_talk_1 (Or.inl q1) (h0 ?_ V (-1) (hneg _ (Or.inl rfl)) hfr)
    rw [e0, if_neg (by omega)]
  rw [← oI_nat (n := dy)]
  by_cases hab : a = b
  · refine s_talk_1 (Or.inr (by rw [hab])) (h0 ?_ V (-1) (hneg _ (Or.inl rfl)) hfr)
    rw [e0, if_neg (by omega)]
  have hab' : ¬ Int32.ofInt a = Int32.ofInt b := fun z => hab (by
    have := congrArg Int32.toInt z
    rw [oI_toInt (by omega) (by omega), oI_toInt (by omega) (by omega)] at this
    exact this)
  rcases oI_has (a := a) (n := K 93) (by omega) (by omega) (by omega) with ⟨q1, q2⟩ | ⟨p, hp, rfl⟩
  · refine s_talk_2 hX hd4 hab' (Or.inl q1) (h0 ?_ V (-2) (hneg _ (Or.inr (Or.inl rfl))) hfr)
    rw [e0, if_neg (by omega)]
  rcases oI_has (a := b) (n := K 93) (by omega) (by omega) (by omega) with ⟨q1, q2⟩ | ⟨q, hq, rfl⟩
  · refine s_talk_2 hX hd4 hab' (Or.inr q1) (h0 ?_ V (-2) (hneg _ (Or.inr (Or.inl rfl))) hfr)
    rw [e0, if_neg (by omega)]
  have hpq : p ≠ q := by omega
  rw [← oI_nat (n := p), ← oI_nat (n := q)]
  simp only [Int.toNat_natCast] at e0
  have l1 := hW.life hp
  have l2 := hW.life hq
  by_cases hl : K (24 + p) = 0 ∨ K (24 + q) = 0
  · refine s_talk_3 hX hW hL hp hq hpq hd4 hl (h0 ?_ V (-3) (hneg _ (Or.inr (Or.inr rfl))) hfr)
    rw [e0, if_neg (by omega)]
  rw [if_pos (by omega)] at e0
  cases ho : outK K p q dy (K (4 * p + dy)) (K (4 * q + dy)) (K 38) with
  | none =>
    rw [ho] at e0
    exact s_talk_4 hX hW hL hp hq hpq hd4 (by omega) (by omega) ho (fun V' hF => h0 e0 V' (-3) (hneg _ (Or.inr (Or.inr rfl))) hF)
  | some o =>
    rw [ho] at e0
    have := chgN_le (mk := (K (4 * p + dy)) * 4 + (K (4 * q + dy))) (c := o)
    exact s_talk_okO hX hW hL hp hq hpq hd4 (by omega) (by omega) ho hu (nxtSV hu16) (fun V' k1 k2 => h1 _ _ _ V' e0 k1 k2 (by omega))
set_option maxRecDepth 20000 in
theorem x_devO (hX : RW 3 K V) (hW : WF K) {u : Nat} (hu : V 45 2 = nI u) (hu16 : u ≤ 16) (ha : -1000002000 ≤ a ∧ a ≤ 1000002000)
  (h1 : ∀ (K' : KT) (g r : Nat) (V' : VIT), deedA 1 K a b c = some (K', g, r) → KXo V V' (sO u) (vO u) g → RW 3 K' V' → r ≤ 1000 → P (some (.int (nI r))) (LY ++ ext) V' VL (vr G))
  (h0 : deedA 1 K a b c = none → ∀ (V' : VIT) (w : Int32), w < 0 → FrH V V' → P (some (.int w)) (LY ++ ext) V' VL (vr G)) : Ex (d + 4) mi2 0 (entL [.ref 45, .int (Int32.ofInt a)] 3) [] (LY ++ ext) V VL (vr G) 0 0 P := by
  have h8 : K 94 ≤ 8 := hW.2.1
  have e0 : deedA 1 K a b c = (if 0 ≤ a ∧ a < K 94 ∧ K (30 + a.toNat) = 0 then (agK K a.toNat).map (fun o => (ku K (30 + a.toNat) 1, a.toNat * 4 + 1, z100 o)) else none) := rfl
  have hfr : FrH V V := fun _ _ _ _ _ => rfl
  rcases oI_has (a := a) (n := K 94) (by omega) (by omega) (by omega) with ⟨q1, q2⟩ | ⟨r, hr, rfl⟩
  · refine s_develop_out hX q1 (h0 ?_ V (-2) (by decide) hfr)
    rw [e0, if_neg (by omega)]
  rw [← oI_nat (n := r)]
  simp only [Int.toNat_natCast] at e0
  have hz1 := (hW.roll hr).1
  by_cases hz : K (30 + r) = 0
  · rw [if_pos (by omega)] at e0
    cases ho : agK K r with
    | none =>
      rw [ho] at e0
      exact s_develop_no hX hW hr (Or.inl ho) (h0 e0 V (-3) (by decide) hfr)
    | some o =>
      rw [ho] at e0
      have hl := agK_lt100 hW hr (z100 o) (by rw [ho]; rfl)
      exact s_develop_ok hX hW hr ho hz hu (nxtSV hu16) (fun V' k1 k2 => h1 _ _ _ V' e0 k1.o k2 (by omega))
  · rw [if_neg (by omega)] at e0
    exact s_develop_no hX hW hr (Or.inr (by omega)) (h0 e0 V (-3) (by decide) hfr)
set_option maxRecDepth 20000 in
theorem x_buryO (hX : RW 3 K V) (hW : WF K) {u : Nat} (hu : V 45 2 = nI u) (hu16 : u ≤ 16) (ha : -1000002000 ≤ a ∧ a ≤ 1000002000)
  (h1 : ∀ (K' : KT) (g r : Nat) (V' : VIT), deedA 2 K a b c = some (K', g, r) → KXo V V' (sO u) (vO u) g → RW 3 K' V' → r ≤ 1000 → P (some (.int (nI r))) (LY ++ ext) V' VL (vr G))
  (h0 : deedA 2 K a b c = none → ∀ (V' : VIT) (w : Int32), w < 0 → FrH V V' → P (some (.int w)) (LY ++ ext) V' VL (vr G)) : Ex (d + 2) mi3 0 (entL [.ref 45, .int (Int32.ofInt a)] 2) [] (LY ++ ext) V VL (vr G) 0 0 P := by
  have h6 := hW.n
  have e0 : deedA 2 K a b c = (if 0 ≤ a ∧ a < K 93 ∧ K (24 + a.toNat) = 1 then some (ku K (24 + a.toNat) 0, a.toNat * 4 + 2, popN (lmK (ku K (24 + a.toNat) 0)) 8) else none) := rfl
  have hfr : FrH V V := fun _ _ _ _ _ => rfl
  rcases oI_has (a := a) (n := K 93) (by omega) (by omega) (by omega) with ⟨q1, q2⟩ | ⟨r, hr, rfl⟩
  · refine s_bury_out hX q1 (h0 ?_ V (-2) (by decide) hfr)
    rw [e0, if_neg (by omega)]
  rw [← oI_nat (n := r)]
  simp only [Int.toNat_natCast] at e0
  have hz1 := hW.life hr
  by_cases hz : K (24 + r) = 1
  · rw [if_pos (by omega)] at e0
    have := popN_le (lmK (ku K (24 + r) 0)) 8
    exact s_bury_ok hX hW hr hz hu (nxtSV hu16) (fun V' k1 k2 => h1 _ _ _ V' e0 k1.o k2 (by omega))
  · rw [if_neg (by omega)] at e0
    exact s_bury_no hX hW hr (by omega) (h0 e0 V (-3) (by decide) hfr)
set_option maxRecDepth 20000 in
theorem x_passO (hX : RW 3 K V) (hW : WF K) {u : Nat} (hu : V 45 2 = nI u) (hu16 : u ≤ 16)
  (h1 : ∀ (K' : KT) (g r : Nat) (V' : VIT), deedA 3 K a b c = some (K', g, r) → KXo V V' (sO u) (vO u) g → RW 3 K' V' → r ≤ 1000 → P (some (.int (nI r))) (LY ++ ext) V' VL (vr G))
  (h0 : deedA 3 K a b c = none → ∀ (V' : VIT) (w : Int32), w < 0 → FrH V V' → P (some (.int w)) (LY ++ ext) V' VL (vr G)) : Ex (d + 1) mi4 0 (entL [.ref 45] 1) [] (LY ++ ext) V VL (vr G) 0 0 P := by
  have h38 : K 38 ≤ 999 := hW.2.2.2.2.2.1
  have e0 : deedA 3 K a b c = (if K 38 < 999 then some (ku K 38 (K 38 + 1), 0 * 4 + 3, K 38 + 1) else none) := rfl
  by_cases hz : K 38 < 999
  · rw [if_pos hz] at e0
    exact s_pass_ok hX hW hz hu (nxtSV hu16) (fun V' k1 k2 => h1 _ _ _ V' e0 k1.o k2 (by omega))
  · rw [if_neg hz] at e0
    exact s_pass_no hX (by omega) (h0 e0 V (-3) (by decide) (fun _ _ _ _ _ => rfl))
end CDeed
