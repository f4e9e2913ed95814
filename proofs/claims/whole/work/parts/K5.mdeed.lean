/-! ===== the model's deeds within orders ===== -/
def KMo (V V' : VIT) (s v dd : Nat) : Prop := V' 74 32 = nI (v + 1) ∧ (∀ k, k < 40 * v → V' 88 k = V 88 (k + 40 * s)) ∧ (∀ k, k < 39 → V' 88 (40 * v + k) = V 76 k) ∧ V' 88 (40 * v + 39) = nI dd ∧ ∀ a k, a ≠ 86 → ¬ (a = 74 ∧ (22 ≤ k ∧ k ≤ 25)) → a ≠ 88 → a ≠ 76 → ¬ (a = 74 ∧ k = 32) → V' a k = V a k
set_option maxRecDepth 20000 in
theorem KM.o {V V' : VIT} {s v g : Nat} (h : KM V V' s v g) : KMo V V' s v g := ⟨h.1, h.2.1, h.2.2.1, h.2.2.2.1, fun a k _ _ q1 q2 q3 => h.2.2.2.2 a k q1 q2 q3⟩
section MDeed
variable {d : Nat} {V : VIT} {VL : VLT} {G : VRT} {P : Post} {ext : HL} {K : KT} {p q dy : Nat} {a b c : Int}
set_option maxRecDepth 20000 in
theorem m_talk_okO {o u s v : Nat} (hM : RK (V 76) K) (hW : WF K) (hL : LwK K) (hp : p < K 93) (hq : q < K 93) (hpq : p ≠ q) (hd4 : dy < 4) (h1 : K (24 + p) = 1) (h2 : K (24 + q) = 1) (ho : outK K p q dy (K (4 * p + dy)) (K (4 * q + dy)) (K 38) = some o) (hu : V 74 32 = nI u) (hn : Nxt u s v) (hP : ∀ V' : VIT, KMo V V' s v 0 → RK (V' 76) (tkK K p q dy o) → P (some (.int (nI (chgN ((K (4 * p + dy)) * 4 + (K (4 * q + dy))) o)))) (LY ++ ext) V' VL (vr G)) : Ex (d + 46) mi240 0 (entL [.ref 74, .int (nI p), .int (nI q), .int (nI dy)] 4) [] (LY ++ ext) V VL (vr G) 0 0 P := by
  have h6 := hW.n
  have hc := outK_lt (hW.mark hp hd4) (hW.mark hq hd4) ho
  refine x_iload_n rfl rfl ?_
  refine x_iload_n rfl rfl ?_
  refine x_icmpN_eq rfl (fun c2 => ?_) (fun c2 => ?_)
  · exact absurd c2 (by first | decide | omega)
  refine x_iload_n rfl rfl ?_
  refine x_callS (M' := mi166) (As := [_]) (bc1 := 0) (bs1 := 0) (bc2 := 0) (bs2 := 0) rfl rfl rfl rfl ok166 rfl rfl rfl rfl rfl rfl ?_
  refine m_isDayK ?_
  rw [show (4 : Int32) = nI 4 from rfl, hasF_in hd4 (by omega)]
  refine x_if_ne rfl (fun c9 => ?_) (fun c9 => ?_)
  rotate_left
  · exact absurd c9 (by first | decide | omega)
  refine x_aload_n rfl rfl ?_
  refine x_iload_n rfl rfl ?_
  refine x_callV (M' := mi164) (As := [_]) (bc1 := 0) (bs1 := 0) (bc2 := 0) (bs2 := 0) rfl rfl rfl rfl ok164 rfl rfl (by decide) rfl rfl rfl rfl rfl rfl ?_
  refine m_isPersonK hM hW ?_
  rw [hasF_in hp (by omega)]
  refine x_if_eq rfl (fun c19 => ?_) (fun c19 => ?_)
  · exact absurd c19 (by first | decide | omega)
  refine x_aload_n rfl rfl ?_
  refine x_iload_n rfl rfl ?_
  refine x_callV (M' := mi164) (As := [_]) (bc1 := 0) (bs1 := 0) (bc2 := 0) (bs2 := 0) rfl rfl rfl rfl ok164 rfl rfl (by decide) rfl rfl rfl rfl rfl rfl ?_
  refine m_isPersonK hM hW ?_
  rw [hasF_in hq (by omega)]
  refine x_if_ne rfl (fun c27 => ?_) (fun c27 => ?_)
  rotate_left
  · exact absurd c27 (by first | decide | omega)
  refine x_aload_n rfl rfl ?_
  refine x_iload_n rfl rfl ?_
  refine x_iload_n rfl rfl ?_
  refine x_iload_n rfl rfl ?_
  refine x_callV (M' := mi239) (As := [_, _, _]) (bc1 := 0) (bs1 := 0) (bc2 := 0) (bs2 := 0) rfl rfl rfl rfl ok239 rfl rfl (by decide) rfl rfl rfl rfl rfl rfl ?_
  refine m_canTalk_yes hM hW hL hp hq hpq hd4 h1 h2 ho (fun V1 hF => ?_)
  refine x_if_ne rfl (fun c40 => ?_) (fun c40 => ?_)
  rotate_left
  · exact absurd c40 (by first | decide | omega)
  skip
  have hu1 : V1 74 32 = nI u := by rw [hF 74 32 (by omega) (by omega)]; exact hu
  have hM1 := hF.RK hM
  refine x_aload_n rfl rfl ?_
  refine x_iconstN (q := 0) rfl ?_
  refine x_callV (M' := mi235) (As := [_]) (bc1 := 0) (bs1 := 0) (bc2 := 0) (bs2 := 0) rfl rfl rfl rfl ok235 rfl rfl (by decide) rfl rfl rfl rfl rfl rfl ?_
  refine m_keeps hu1 hn (fun V2 x1 x2 x3 x4 x5 => ?_)
  have hM2 : RK (V2 76) K := by rw [show V2 76 = V1 76 from funext (fun k => x5 76 k (by omega) (by omega))]; exact hM1
  refine x_aload_n rfl rfl ?_
  refine x_iload_n rfl rfl ?_
  refine x_iload_n rfl rfl ?_
  refine x_iload_n rfl rfl ?_
  refine x_callV (M' := mi238) (As := [_, _, _]) (bc1 := 0) (bs1 := 0) (bc2 := 0) (bs2 := 0) rfl rfl rfl rfl ok238 rfl rfl (by decide) rfl rfl rfl rfl rfl rfl ?_
  refine m_talksNow_ok hM2 hW hL hp hq hpq hd4 h1 h2 ho (fun V3 hF3 => ?_)
  skip
  have hM3 : RK (up (up V3 76 (4 * p + dy) (nI (o / 4))) 76 (4 * q + dy) (nI (o % 4)) 76) (tkK K p q dy o) := by
    have a1 : RK (up V3 76 (4 * p + dy) (nI (o / 4)) 76) (ku K (4 * p + dy) (o / 4)) := (hF3.RK hM2).ku (by omega) rfl
    exact a1.ku (by omega) rfl
  have e76 : V1 76 = V 76 := hF.row 76 (by omega) (by omega)
  have e88 : V1 88 = V 88 := hF.row 88 (by omega) (by omega)
  have f88 : V3 88 = V2 88 := hF3.row 88 (by omega) (by omega)
  refine x_iret rfl rfl ?_
  refine hP _ ⟨?_, fun k hk => ?_, fun k hk => ?_, ?_, fun a k q1 q2 q3 q4 q5 => ?_⟩ hM3
  · rw [up_ne (by omega), up_ne (by omega), hF3 74 32 (by omega) (by omega)]; exact x1
  · rw [up_ne (by omega), up_ne (by omega), f88, x2 k hk, e88]
  · rw [up_ne (by omega), up_ne (by omega), f88, x3 k hk, e76]
  · rw [up_ne (by omega), up_ne (by omega), f88]; exact x4
  · rw [up_ne q4, up_ne q4, hF3 a k q1 (by omega), x5 a k q3 q5, hF a k q1 (by omega)]
set_option maxRecDepth 20000 in
theorem m_talkO (hM : RK (V 76) K) (hW : WF K) (hL : LwK K) {u : Nat} (hu : V 74 32 = nI u) (hu16 : u ≤ 16) (ha : -1000002000 ≤ a ∧ a ≤ 1000002000) (hb : -1000002000 ≤ b ∧ b ≤ 1000002000) (hc : -1000002000 ≤ c ∧ c ≤ 1000002000)
  (h1 : ∀ (K' : KT) (g r : Nat) (V' : VIT), deedA 0 K a b c = some (K', g, r) → KMo V V' (sO u) (vO u) (g % 4) → RK (V' 76) K' → r ≤ 1000 → P (some (.int (nI r))) (LY ++ ext) V' VL (vr G))
  (h0 : deedA 0 K a b c = none → ∀ (V' : VIT) (w : Int32), w < 0 → FrT V V' → P (some (.int w)) (LY ++ ext) V' VL (vr G)) : Ex (d + 46) mi240 0 (entL [.ref 74, .int (Int32.ofInt a), .int (Int32.ofInt b), .int (Int32.ofInt c)] 4) [] (LY ++ ext) V VL (vr G) 0 0 P := by
  have h6 := hW.n
  have e0 : deedA 0 K a b c = (if 0 ≤ a ∧ a < K 93 ∧ 0 ≤ b ∧ b < K 93 ∧ a ≠ b ∧ 0 ≤ c ∧ c < 4 ∧ K (24 + a.toNat) = 1 ∧ K (24 + b.toNat) = 1 then
      (outK K a.toNat b.toNat c.toNat (K (4 * a.toNat + c.toNat)) (K (4 * b.toNat + c.toNat)) (K 38)).map (fun o => (tkK K a.toNat b.toNat c.toNat o, tlkG K a.toNat b.toNat c.toNat, chgN (K (4 * a.toNat + c.toNat) * 4 + K (4 * b.toNat + c.toNat)) o))
    else none) := rfl
  have hfr : FrT V V := FrT.refl
  rcases oI_has (a := c) (n := 4) (by omega) (by omega) (by omega) with ⟨q1, q2⟩ | ⟨dy, hd4, rfl⟩
  · refine m_talk_1 (Or.inl q1) (h0 ?_ V (-1) (by decide) hfr)
    rw [e0, if_neg (by omega)]
  rw [← oI_nat (n := dy)]
  by_cases hab : a = b
  · refine m_talk_1 (Or.inr (by rw [hab])) (h0 ?_ V (-1) (by decide) hfr)
    rw [e0, if_neg (by omega)]
  have hab' : ¬ Int32.ofInt a = Int32.ofInt b := fun z => hab (by
    have := congrArg Int32.toInt z
    rw [oI_toInt (by omega) (by omega), oI_toInt (by omega) (by omega)] at this
    exact this)
  rcases oI_has (a := a) (n := K 93) (by omega) (by omega) (by omega) with ⟨q1, q2⟩ | ⟨p, hp, rfl⟩
  · refine m_talk_2 hM hW hd4 hab' (Or.inl q1) (h0 ?_ V (-2) (by decide) hfr)
    rw [e0, if_neg (by omega)]
  rcases oI_has (a := b) (n := K 93) (by omega) (by omega) (by omega) with ⟨q1, q2⟩ | ⟨q, hq, rfl⟩
  · refine m_talk_2 hM hW hd4 hab' (Or.inr q1) (h0 ?_ V (-2) (by decide) hfr)
    rw [e0, if_neg (by omega)]
  have hpq : p ≠ q := by omega
  rw [← oI_nat (n := p), ← oI_nat (n := q)]
  simp only [Int.toNat_natCast] at e0
  have l1 := hW.life hp
  have l2 := hW.life hq
  by_cases hl : K (24 + p) = 0 ∨ K (24 + q) = 0
  · refine m_talk_3 hM hW hL hp hq hpq hd4 (hl.elim Or.inl (fun y => Or.inr (Or.inl y))) (fun V' hF => h0 ?_ V' (-3) (by decide) hF)
    rw [e0, if_neg (by omega)]
  rw [if_pos (by omega)] at e0
  cases ho : outK K p q dy (K (4 * p + dy)) (K (4 * q + dy)) (K 38) with
  | none =>
    rw [ho] at e0
    exact m_talk_3 hM hW hL hp hq hpq hd4 (Or.inr (Or.inr ho)) (fun V' hF => h0 e0 V' (-3) (by decide) hF)
  | some o =>
    rw [ho] at e0
    have := chgN_le (mk := (K (4 * p + dy)) * 4 + (K (4 * q + dy))) (c := o)
    exact m_talk_okO hM hW hL hp hq hpq hd4 (by omega) (by omega) ho hu (nxtSV hu16) (fun V' k1 k2 => h1 _ _ _ V' e0 (by rw [(tlkG_lt hW hp hq hd4).2]; exact k1) k2 (by omega))
set_option maxRecDepth 20000 in
theorem m_devO (hM : RK (V 76) K) (hW : WF K) {u : Nat} (hu : V 74 32 = nI u) (hu16 : u ≤ 16) (ha : -1000002000 ≤ a ∧ a ≤ 1000002000)
  (h1 : ∀ (K' : KT) (g r : Nat) (V' : VIT), deedA 1 K a b c = some (K', g, r) → KMo V V' (sO u) (vO u) (g % 4) → RK (V' 76) K' → r ≤ 1000 → P (some (.int (nI r))) (LY ++ ext) V' VL (vr G))
  (h0 : deedA 1 K a b c = none → ∀ (V' : VIT) (w : Int32), w < 0 → FrT V V' → P (some (.int w)) (LY ++ ext) V' VL (vr G)) : Ex (d + 4) mi241 0 (entL [.ref 74, .int (Int32.ofInt a)] 3) [] (LY ++ ext) V VL (vr G) 0 0 P := by
  have h8 : K 94 ≤ 8 := hW.2.1
  have e0 : deedA 1 K a b c = (if 0 ≤ a ∧ a < K 94 ∧ K (30 + a.toNat) = 0 then (agK K a.toNat).map (fun o => (ku K (30 + a.toNat) 1, a.toNat * 4 + 1, z100 o)) else none) := rfl
  have hfr : FrT V V := FrT.refl
  rcases oI_has (a := a) (n := K 94) (by omega) (by omega) (by omega) with ⟨q1, q2⟩ | ⟨r, hr, rfl⟩
  · refine m_develop_out hM hW q1 (h0 ?_ V (-2) (by decide) hfr)
    rw [e0, if_neg (by omega)]
  rw [← oI_nat (n := r)]
  simp only [Int.toNat_natCast] at e0
  have hz1 := (hW.roll hr).1
  by_cases hz : K (30 + r) = 0
  · rw [if_pos (by omega)] at e0
    cases ho : agK K r with
    | none =>
      rw [ho] at e0
      exact m_develop_no hM hW hr (Or.inl ho) (h0 e0 V (-3) (by decide) hfr)
    | some o =>
      rw [ho] at e0
      have hl := agK_lt100 hW hr (z100 o) (by rw [ho]; rfl)
      exact m_develop_ok hM hW hr ho hz hu (nxtSV hu16) (fun V' k1 k2 => h1 _ _ _ V' e0 (by rw [show (r * 4 + 1) % 4 = 1 by omega]; exact k1.o) k2 (by omega))
  · rw [if_neg (by omega)] at e0
    exact m_develop_no hM hW hr (Or.inr (by omega)) (h0 e0 V (-3) (by decide) hfr)
set_option maxRecDepth 20000 in
theorem m_buryO (hM : RK (V 76) K) (hW : WF K) {u : Nat} (hu : V 74 32 = nI u) (hu16 : u ≤ 16) (ha : -1000002000 ≤ a ∧ a ≤ 1000002000)
  (h1 : ∀ (K' : KT) (g r : Nat) (V' : VIT), deedA 2 K a b c = some (K', g, r) → KMo V V' (sO u) (vO u) (g % 4) → RK (V' 76) K' → r ≤ 1000 → P (some (.int (nI r))) (LY ++ ext) V' VL (vr G))
  (h0 : deedA 2 K a b c = none → ∀ (V' : VIT) (w : Int32), w < 0 → FrT V V' → P (some (.int w)) (LY ++ ext) V' VL (vr G)) : Ex (d + 2) mi242 0 (entL [.ref 74, .int (Int32.ofInt a)] 2) [] (LY ++ ext) V VL (vr G) 0 0 P := by
  have h6 := hW.n
  have e0 : deedA 2 K a b c = (if 0 ≤ a ∧ a < K 93 ∧ K (24 + a.toNat) = 1 then some (ku K (24 + a.toNat) 0, a.toNat * 4 + 2, popN (lmK (ku K (24 + a.toNat) 0)) 8) else none) := rfl
  have hfr : FrT V V := FrT.refl
  rcases oI_has (a := a) (n := K 93) (by omega) (by omega) (by omega) with ⟨q1, q2⟩ | ⟨r, hr, rfl⟩
  · refine m_bury_out hM hW q1 (h0 ?_ V (-2) (by decide) hfr)
    rw [e0, if_neg (by omega)]
  rw [← oI_nat (n := r)]
  simp only [Int.toNat_natCast] at e0
  have hz1 := hW.life hr
  by_cases hz : K (24 + r) = 1
  · rw [if_pos (by omega)] at e0
    have := popN_le (lmK (ku K (24 + r) 0)) 8
    have hW2 : WF (ku K (24 + r) 0) := hW.bits (fun i _ hi => ku_ne (by omega)) (fun p hp => by unfold ku; split <;> first | omega | exact hW.life hp) (fun q hq => by rw [ku_ne (by omega)]; exact (hW.roll hq).1)
    exact m_bury_ok hM hW hr hz hu (nxtSV hu16) (fun V' k1 k2 => by
      rw [← pop_86 hW2]
      exact h1 _ _ _ V' e0 (by rw [show (r * 4 + 2) % 4 = 2 by omega]; exact k1.o) k2 (by omega))
  · rw [if_neg (by omega)] at e0
    exact m_bury_no hM hW hr (by omega) (h0 e0 V (-3) (by decide) hfr)
set_option maxRecDepth 20000 in
theorem m_passO (hM : RK (V 76) K) (hW : WF K) {u : Nat} (hu : V 74 32 = nI u) (hu16 : u ≤ 16)
  (h1 : ∀ (K' : KT) (g r : Nat) (V' : VIT), deedA 3 K a b c = some (K', g, r) → KMo V V' (sO u) (vO u) (g % 4) → RK (V' 76) K' → r ≤ 1000 → P (some (.int (nI r))) (LY ++ ext) V' VL (vr G))
  (h0 : deedA 3 K a b c = none → ∀ (V' : VIT) (w : Int32), w < 0 → FrT V V' → P (some (.int w)) (LY ++ ext) V' VL (vr G)) : Ex (d + 1) mi243 0 (entL [.ref 74] 1) [] (LY ++ ext) V VL (vr G) 0 0 P := by
  have h38 : K 38 ≤ 999 := hW.2.2.2.2.2.1
  have e0 : deedA 3 K a b c = (if K 38 < 999 then some (ku K 38 (K 38 + 1), 0 * 4 + 3, K 38 + 1) else none) := rfl
  by_cases hz : K 38 < 999
  · rw [if_pos hz] at e0
    exact m_pass_ok hM hW hz hu (nxtSV hu16) (fun V' k1 k2 => h1 _ _ _ V' e0 k1.o k2 (by omega))
  · rw [if_neg hz] at e0
    exact m_pass_no hM (by omega) (h0 e0 V (-3) (by decide) FrT.refl)
def smI (a : Int) : Int := if 0 ≤ a ∧ a ≤ 1000000 then a else -1
set_option maxRecDepth 20000 in
theorem smI_bd (a : Int) : -1000002000 ≤ smI a ∧ smI a ≤ 1000002000 := by
  unfold smI
  split <;> omega
set_option maxRecDepth 20000 in
theorem deedA_sm {kd : Nat} (hW : WF K) : deedA kd K a b c = deedA kd K (smI a) (smI b) (smI c) := by
  have h6 := hW.n
  have h8 : K 94 ≤ 8 := hW.2.1
  have key : ∀ {x : Int}, (0 ≤ x ∧ x ≤ 1000000) → smI x = x := fun {x} q => if_pos q
  have key2 : ∀ {x : Int}, ¬ (0 ≤ x ∧ x ≤ 1000000) → smI x = -1 := fun {x} q => if_neg q
  unfold deedA
  by_cases k0 : kd = 0
  · rw [if_pos k0, if_pos k0]
    by_cases qa : 0 ≤ a ∧ a ≤ 1000000
    · by_cases qb : 0 ≤ b ∧ b ≤ 1000000
      · by_cases qc : 0 ≤ c ∧ c ≤ 1000000
        · rw [key qa, key qb, key qc]
        · rw [key qa, key qb, key2 qc, if_neg (by omega), if_neg (by omega)]
      · rw [key qa, key2 qb, if_neg (by omega), if_neg (by omega)]
    · rw [key2 qa, if_neg (by omega), if_neg (by omega)]
  rw [if_neg k0, if_neg k0]
  by_cases k1 : kd = 1
  · rw [if_pos k1, if_pos k1]
    by_cases qa : 0 ≤ a ∧ a ≤ 1000000
    · rw [key qa]
    · rw [key2 qa, if_neg (by omega), if_neg (by omega)]
  rw [if_neg k1, if_neg k1]
  by_cases k2 : kd = 2
  · rw [if_pos k2, if_pos k2]
    by_cases qa : 0 ≤ a ∧ a ≤ 1000000
    · rw [key qa]
    · rw [key2 qa, if_neg (by omega), if_neg (by omega)]
  rw [if_neg k2, if_neg k2]
set_option maxRecDepth 20000 in
theorem lgN {a b : Int64} : lg_cmp a b < 0 ↔ a.toInt < b.toInt := by
  unfold lg_cmp
  simp only [gt_iff_lt, Int64.lt_iff_toInt_lt, ← Int64.toInt_inj]
  repeat' split
  all_goals (constructor <;> intro hh <;> first | omega | decide | exact absurd hh (by decide))
set_option maxRecDepth 20000 in
theorem m_small {lay : HL} {VR : VRT} {v : Int64} (hP : P (some (.int (Int32.ofInt (smI v.toInt)))) lay V VL VR) : Ex d mi271 0 (entL [.long v] 2) [] lay V VL VR 0 0 P := by
  have e1 : (1000000 : Int64).toInt = 1000000 := rfl
  have e0 : (0 : Int64).toInt = 0 := rfl
  by_cases c : v.toInt < 0
  · have e : smI v.toInt = -1 := if_neg (by omega)
    rw [e] at hP
    have hP' : P (some (.int (-1))) lay V VL VR := hP
    refine x_lload_n rfl rfl ?_
    refine x_lconst rfl ?_
    refine x_lcmp rfl ?_
    refine x_if_lt rfl (fun c3 => ?_) (fun c3 => ?_)
    rotate_left
    · exact absurd (lgN.mpr (by omega)) c3
    refine x_iconst rfl ?_
    refine x_goto rfl ?_
    refine x_iret rfl rfl ?_
    exact hP'
  · by_cases c2 : 1000000 < v.toInt
    · have e : smI v.toInt = -1 := if_neg (by omega)
      rw [e] at hP
      have hP' : P (some (.int (-1))) lay V VL VR := hP
      refine x_lload_n rfl rfl ?_
      refine x_lconst rfl ?_
      refine x_lcmp rfl ?_
      refine x_if_lt rfl (fun c3 => ?_) (fun c3 => ?_)
      · exact absurd (lgN.mp c3) (by omega)
      refine x_lload_n rfl rfl ?_
      refine x_ldc2 rfl ?_
      refine x_lcmp rfl ?_
      refine x_if_le rfl (fun c11 => ?_) (fun c11 => ?_)
      · exact absurd (lgL.mp c11) (by omega)
      refine x_iconst rfl ?_
      refine x_goto rfl ?_
      refine x_iret rfl rfl ?_
      exact hP'
    · have e : smI v.toInt = v.toInt := if_pos (by omega)
      rw [e] at hP
      refine x_lload_n rfl rfl ?_
      refine x_lconst rfl ?_
      refine x_lcmp rfl ?_
      refine x_if_lt rfl (fun c3 => ?_) (fun c3 => ?_)
      · exact absurd (lgN.mp c3) (by omega)
      refine x_lload_n rfl rfl ?_
      refine x_ldc2 rfl ?_
      refine x_lcmp rfl ?_
      refine x_if_le rfl (fun c11 => ?_) (fun c11 => ?_)
      rotate_left
      · exact absurd (lgL.mpr (by omega)) c11
      refine x_lload_n rfl rfl ?_
      refine x_l2i rfl ?_
      rw [l2i_oI]
      refine x_iret rfl rfl ?_
      exact hP
end MDeed
