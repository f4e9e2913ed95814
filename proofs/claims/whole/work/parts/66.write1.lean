/-! ===== calls that change people, rolls, terms ===== -/
-- the places that such a call may change
def wt (a k : Nat) : Bool := (Nat.ble 3 a && Nat.ble a 12) || Nat.beq a 45 || Nat.beq a 46 || Nat.beq a 76 || Nat.beq a 88 || (Nat.beq a 0 && Nat.beq k 17) || (Nat.beq a 74 && (Nat.beq k 0 || Nat.beq k 32))
def Fr (VI VI' : VIT) : Prop := ∀ a k, wt a k = false → VI' a k = VI a k
set_option maxRecDepth 20000 in
theorem Fr.refl {VI : VIT} : Fr VI VI := fun _ _ _ => rfl
set_option maxRecDepth 20000 in
theorem Fr.up {VI VI' : VIT} {a k : Nat} {x : Int32} (h : Fr VI VI') (hw : wt a k = true) : Fr VI (up VI' a k x) := by
  intro b i hb
  have : ¬ (b = a ∧ i = k) := fun ⟨e1, e2⟩ => by subst e1; subst e2; rw [hw] at hb; cases hb
  rw [← h b i hb]
  by_cases e1 : b = a
  · subst e1
    exact up_at' (fun e => this ⟨rfl, e⟩)
  · rw [up_ne e1]

set_option maxRecDepth 20000 in
theorem Fr.row {VI VI' : VIT} (h : Fr VI VI') (a : Nat) (hw : ∀ k, wt a k = false := by intro k; rfl) : VI' a = VI a := funext (fun k => h a k (hw k))
set_option maxRecDepth 20000 in
theorem wt_hi {a : Nat} (h : 100 ≤ a) (k : Nat) : wt a k = false := by
  have q : ∀ c, c < 100 → Nat.beq a c = false := fun c hc => by
    cases e : Nat.beq a c with
    | false => rfl
    | true => exact absurd (Nat.eq_of_beq_eq_true e) (by omega)
  have q2 : Nat.ble a 12 = false := by
    cases e : Nat.ble a 12 with
    | false => rfl
    | true => exact absurd (Nat.le_of_ble_eq_true e) (by omega)
  simp only [wt, q 45 (by omega), q 46 (by omega), q 76 (by omega), q 88 (by omega), q 0 (by omega), q 74 (by omega), q2, Bool.and_false, Bool.false_and, Bool.or_false]
set_option maxRecDepth 20000 in
theorem wt_img {a : Nat} (h1 : 15 ≤ a) (h2 : a ≤ 36) (k : Nat) : wt a k = false := by
  have q : ∀ c, (c < 15 ∨ 36 < c) → Nat.beq a c = false := fun c hc => by
    cases e : Nat.beq a c with
    | false => rfl
    | true => exact absurd (Nat.eq_of_beq_eq_true e) (by omega)
  have q2 : Nat.ble a 12 = false := by
    cases e : Nat.ble a 12 with
    | false => rfl
    | true => exact absurd (Nat.le_of_ble_eq_true e) (by omega)
  simp only [wt, q 45 (by omega), q 46 (by omega), q 76 (by omega), q 88 (by omega), q 0 (by omega), q 74 (by omega), q2, Bool.and_false, Bool.false_and, Bool.or_false]
set_option maxRecDepth 20000 in
theorem St.write {j : Nat} {ext : HL} {G : VRT} {K K' : KT} {tn : Nat} {T : Nat → Nat} {u u' : Nat} {US US' : Nat → KT} {lg lg' : Nat → Nat} {VI VI' : VIT} (h : St j ext G K tn T u US lg VI) (hF : Fr VI VI') (hW : WF K') (hX : RW 3 K' VI') (hM : RK (VI' 76) K') (hU : Und K' u' US' lg' VI') (hs : VI' 0 17 = VI' 74 0) (hL : K' 96 = K 96) (hL2 : ∀ i, 98 ≤ i → K' i = K i) : St (j + 1) ext G K' tn T u' US' lg' VI' := by
  obtain ⟨h1, h2, h3, h4, h5, h6, h7, h8, h9, h10, h11⟩ := h
  refine ⟨hW, hX, hM, ?_, h5.same (hF 0 13 rfl) (hF 74 13 rfl) (hF.row 72) (hF.row 81), hU, h7.same (hF 70 3 rfl) (hF 74 50 rfl) (hF.row 71) (hF.row 99), (h8.same (hF 63 6 rfl) (hF.row 65)).next, h9.same (hF 0 12 rfl) (fun a q1 q2 => hF.row a (wt_img q1 q2)) (hF.row 77) (hF.row 78) (fun a q => hF.row a (wt_hi q)), h10.same hL (fun i q _ => hL2 i q) (fun k _ => hL2 _ (by omega)) (fun k _ => hL2 _ (by omega)) h1.l6 (fun a q => hF.row a (wt_hi q)), (hF.row 80).trans h11.1, h11.2⟩
  obtain ⟨m1, m2, m3, m4, m5⟩ := h4
  refine ⟨hs, ?_, ?_, ?_, fun k hk => ?_⟩
  · rw [hF 0 14 rfl, hF 74 14 rfl]; exact m2
  · rw [hF 0 15 rfl, hF 74 6 rfl]; exact m3
  · rw [hF 0 16 rfl, hF 74 42 rfl]; exact m4
  · rw [hF 73 k rfl, hF 75 (k + 1) rfl]; exact m5 k hk
section Write1
variable {d : Nat} {VI : VIT} {VL : VLT} {G : VRT} {P : Post} {ext : HL} {n : Nat} {K : KT}
set_option maxRecDepth 20000 in
theorem s_addPerson {f a m l : Nat} (hn : VI 3 0 = nI n) (hn6 : n < 6) (hl : VI 3 1 = nI l) (hm : m < 256) (hP : P (some (.int (nI n))) (LY ++ ext) (up (up (up (up (up (up (up (up VI 4 n (nI f)) 5 n (nI a)) 6 (n * 4 + 0) (nI (m / 2 ^ 6 % 4))) 6 (n * 4 + 1) (nI (m / 2 ^ 4 % 4))) 6 (n * 4 + 2) (nI (m / 2 ^ 2 % 4))) 6 (n * 4 + 3) (nI (m / 2 ^ 0 % 4))) 3 1 (nI (l ||| 1 * 2 ^ n))) 3 0 (nI (n + 1))) VL (vr G)) : Ex d mi91 0 (entL [.ref 3, .int (nI f), .int (nI a), .int (nI m)] 6) [] (LY ++ ext) VI VL (vr G) 0 0 P := by
  have hp2 := pow6 (show n ≤ 6 by omega)
  refine x_aload_n rfl rfl ?_
  refine x_getE (y := 0) rfl rfl rfl (hn) ?_
  refine x_bipushN (q := 6) rfl ?_
  refine x_icmpN_lt rfl (fun c6 => ?_) (fun c6 => ?_)
  rotate_left
  · exact absurd c6 (by first | decide | omega)
  refine x_aload_n rfl rfl ?_
  refine x_getE (y := 0) rfl rfl rfl (hn) ?_
  refine x_istore (ls' := [_, _, _, _, _, _]) rfl rfl rfl ?_
  refine x_aload_n rfl rfl ?_
  refine x_getR (u := .ref _) rfl rfl rfl rfl ?_
  refine x_iload rfl rfl ?_
  refine x_iload_n rfl rfl ?_
  refine x_iasN (j := n) rfl rfl (rfl) (by omega) ?_
  refine x_aload_n rfl rfl ?_
  refine x_getR (u := .ref _) rfl rfl rfl rfl ?_
  refine x_iload rfl rfl ?_
  refine x_iload_n rfl rfl ?_
  refine x_iasN (j := n) rfl rfl (rfl) (by omega) ?_
  refine x_iconstN (q := 0) rfl ?_
  refine x_istore (ls' := [_, _, _, _, _, _]) rfl rfl rfl ?_
  skip
  refine x_iload rfl rfl ?_
  refine x_iconstN (q := 4) rfl ?_
  refine x_icmpN_ge rfl (fun c40 => ?_) (fun c40 => ?_)
  · exact absurd c40 (by first | decide | omega)
  refine x_aload_n rfl rfl ?_
  refine x_getR (u := .ref _) rfl rfl rfl rfl ?_
  refine x_iload rfl rfl ?_
  refine x_iconstN (q := 4) rfl ?_
  refine x_imulN rfl ?_
  refine x_iload rfl rfl ?_
  refine x_iaddN rfl ?_
  refine x_iload_n rfl rfl ?_
  refine x_iconstN (q := 2) rfl ?_
  refine x_iconstN (q := 3) rfl ?_
  refine x_iload rfl rfl ?_
  refine x_isubN rfl ?_
  refine x_imulN rfl ?_
  refine x_ishrN rfl ?_
  refine x_iconstN (q := 3) rfl ?_
  refine x_iandM3 rfl ?_
  refine x_iasN (j := n * 4 + 0) rfl rfl (rfl) (by omega) ?_
  refine x_iincN (q := 1) (ls' := [_, _, _, _, _, _]) rfl rfl rfl rfl ?_
  refine x_goto rfl ?_
  skip
  refine x_iload rfl rfl ?_
  refine x_iconstN (q := 4) rfl ?_
  refine x_icmpN_ge rfl (fun c40 => ?_) (fun c40 => ?_)
  · exact absurd c40 (by first | decide | omega)
  refine x_aload_n rfl rfl ?_
  refine x_getR (u := .ref _) rfl rfl rfl rfl ?_
  refine x_iload rfl rfl ?_
  refine x_iconstN (q := 4) rfl ?_
  refine x_imulN rfl ?_
  refine x_iload rfl rfl ?_
  refine x_iaddN rfl ?_
  refine x_iload_n rfl rfl ?_
  refine x_iconstN (q := 2) rfl ?_
  refine x_iconstN (q := 3) rfl ?_
  refine x_iload rfl rfl ?_
  refine x_isubN rfl ?_
  refine x_imulN rfl ?_
  refine x_ishrN rfl ?_
  refine x_iconstN (q := 3) rfl ?_
  refine x_iandM3 rfl ?_
  refine x_iasN (j := n * 4 + 1) rfl rfl (rfl) (by omega) ?_
  refine x_iincN (q := 1) (ls' := [_, _, _, _, _, _]) rfl rfl rfl rfl ?_
  refine x_goto rfl ?_
  skip
  refine x_iload rfl rfl ?_
  refine x_iconstN (q := 4) rfl ?_
  refine x_icmpN_ge rfl (fun c40 => ?_) (fun c40 => ?_)
  · exact absurd c40 (by first | decide | omega)
  refine x_aload_n rfl rfl ?_
  refine x_getR (u := .ref _) rfl rfl rfl rfl ?_
  refine x_iload rfl rfl ?_
  refine x_iconstN (q := 4) rfl ?_
  refine x_imulN rfl ?_
  refine x_iload rfl rfl ?_
  refine x_iaddN rfl ?_
  refine x_iload_n rfl rfl ?_
  refine x_iconstN (q := 2) rfl ?_
  refine x_iconstN (q := 3) rfl ?_
  refine x_iload rfl rfl ?_
  refine x_isubN rfl ?_
  refine x_imulN rfl ?_
  refine x_ishrN rfl ?_
  refine x_iconstN (q := 3) rfl ?_
  refine x_iandM3 rfl ?_
  refine x_iasN (j := n * 4 + 2) rfl rfl (rfl) (by omega) ?_
  refine x_iincN (q := 1) (ls' := [_, _, _, _, _, _]) rfl rfl rfl rfl ?_
  refine x_goto rfl ?_
  skip
  refine x_iload rfl rfl ?_
  refine x_iconstN (q := 4) rfl ?_
  refine x_icmpN_ge rfl (fun c40 => ?_) (fun c40 => ?_)
  · exact absurd c40 (by first | decide | omega)
  refine x_aload_n rfl rfl ?_
  refine x_getR (u := .ref _) rfl rfl rfl rfl ?_
  refine x_iload rfl rfl ?_
  refine x_iconstN (q := 4) rfl ?_
  refine x_imulN rfl ?_
  refine x_iload rfl rfl ?_
  refine x_iaddN rfl ?_
  refine x_iload_n rfl rfl ?_
  refine x_iconstN (q := 2) rfl ?_
  refine x_iconstN (q := 3) rfl ?_
  refine x_iload rfl rfl ?_
  refine x_isubN rfl ?_
  refine x_imulN rfl ?_
  refine x_ishrN rfl ?_
  refine x_iconstN (q := 3) rfl ?_
  refine x_iandM3 rfl ?_
  refine x_iasN (j := n * 4 + 3) rfl rfl (rfl) (by omega) ?_
  refine x_iincN (q := 1) (ls' := [_, _, _, _, _, _]) rfl rfl rfl rfl ?_
  refine x_goto rfl ?_
  skip
  refine x_iload rfl rfl ?_
  refine x_iconstN (q := 4) rfl ?_
  refine x_icmpN_ge rfl (fun c40 => ?_) (fun c40 => ?_)
  rotate_left
  · exact absurd c40 (by first | decide | omega)
  refine x_aload_n rfl rfl ?_
  refine x_dup rfl rfl ?_
  refine x_getE (y := 1) rfl rfl rfl (hl) ?_
  refine x_iconstN (q := 1) rfl ?_
  refine x_iload rfl rfl ?_
  refine x_ishlN rfl ?_
  refine x_iorN rfl ?_
  refine x_putI rfl rfl rfl rfl ?_
  refine x_aload_n rfl rfl ?_
  refine x_dup rfl rfl ?_
  refine x_getE (y := 0) rfl rfl rfl (hn) ?_
  refine x_iconstN (q := 1) rfl ?_
  refine x_iaddN rfl ?_
  refine x_putI rfl rfl rfl rfl ?_
  refine x_iload rfl rfl ?_
  refine x_iret rfl rfl ?_
  exact hP
def addK (K : KT) (f a m : Nat) : KT := ku (ku (ku (ku (ku (ku (ku (ku K (39 + K 93) f) (45 + K 93) a) (24 + K 93) 1) (4 * K 93 + 3) (m % 4)) (4 * K 93 + 2) (m / 4 % 4)) (4 * K 93 + 1) (m / 4 / 4 % 4)) (4 * K 93 + 0) (m / 4 / 4 / 4 % 4)) 93 (K 93 + 1)
set_option maxRecDepth 20000 in
theorem addK_ne {f a m i : Nat} (h1 : i ≠ 39 + K 93) (h2 : i ≠ 45 + K 93) (h3 : i ≠ 24 + K 93) (h4 : i < 4 * K 93 ∨ 4 * K 93 + 3 < i) (h5 : i ≠ 93) : addK K f a m i = K i := by
  unfold addK
  rw [ku_ne h5, ku_ne (by omega), ku_ne (by omega), ku_ne (by omega), ku_ne (by omega), ku_ne h3, ku_ne h2, ku_ne h1]
set_option maxRecDepth 20000 in
theorem addK_93 {f a m : Nat} : addK K f a m 93 = K 93 + 1 := ku_same
set_option maxRecDepth 20000 in
theorem addK_f {f a m : Nat} (h : K 93 < 6) : addK K f a m (39 + K 93) = f := by
  unfold addK
  rw [ku_ne (by omega), ku_ne (by omega), ku_ne (by omega), ku_ne (by omega), ku_ne (by omega), ku_ne (by omega), ku_ne (by omega), ku_same]
set_option maxRecDepth 20000 in
theorem addK_a {f a m : Nat} (h : K 93 < 6) : addK K f a m (45 + K 93) = a := by
  unfold addK
  rw [ku_ne (by omega), ku_ne (by omega), ku_ne (by omega), ku_ne (by omega), ku_ne (by omega), ku_ne (by omega), ku_same]
set_option maxRecDepth 20000 in
theorem addK_l {f a m : Nat} (h : K 93 < 6) : addK K f a m (24 + K 93) = 1 := by
  unfold addK
  rw [ku_ne (by omega), ku_ne (by omega), ku_ne (by omega), ku_ne (by omega), ku_ne (by omega), ku_same]
set_option maxRecDepth 20000 in
theorem addK_m {f a m : Nat} (h : K 93 < 6) {q : Nat} (hq : q < 4) : addK K f a m (4 * K 93 + q) = m / 4 ^ (3 - q) % 4 := by
  unfold addK
  rcases (show q = 0 ∨ q = 1 ∨ q = 2 ∨ q = 3 by omega) with e | e | e | e <;> subst e
  · rw [ku_ne (by omega), ku_same]; simp only [Nat.reduceSub, Nat.reducePow]; omega
  · rw [ku_ne (by omega), ku_ne (by omega), ku_same]; simp only [Nat.reduceSub, Nat.reducePow]; omega
  · rw [ku_ne (by omega), ku_ne (by omega), ku_ne (by omega), ku_same]
  · rw [ku_ne (by omega), ku_ne (by omega), ku_ne (by omega), ku_ne (by omega), ku_same]; simp only [Nat.reduceSub, Nat.reducePow, Nat.div_one]
set_option maxRecDepth 20000 in
theorem mskN_congr {f g : Nat → Nat} : ∀ {n : Nat}, (∀ i, i < n → f i = g i) → mskN f n = mskN g n
  | 0, _ => rfl
  | n + 1, h => by simp only [mskN, mskN_congr (n := n) (fun i hi => h i (by omega)), h n (by omega)]
set_option maxRecDepth 20000 in
theorem addK_WF {f a m : Nat} (h : WF K) (h6 : K 93 < 6) (hf : f ≤ 9) (ha : a ≤ 99) : WF (addK K f a m) := by
  obtain ⟨w1, w2, w3, w4, w5, w6, w7, w8, w9, w10, w11, w12⟩ := h
  have e : ∀ i, (51 ≤ i ∨ (30 ≤ i ∧ i ≤ 38)) → i ≠ 93 → addK K f a m i = K i := fun i hi hn => addK_ne (by omega) (by omega) (by omega) (by omega) hn
  have e93 := addK_93 (K := K) (f := f) (a := a) (m := m)
  unfold WF
  rw [e93, e 94 (by omega) (by omega), e 95 (by omega) (by omega), e 96 (by omega) (by omega), e 97 (by omega) (by omega), e 38 (by omega) (by omega), e 91 (by omega) (by omega), e 92 (by omega) (by omega)]
  refine ⟨by omega, w2, w3, w4, w5, w6, w7, w8, fun p hp => ?_, fun p q hp hq => ?_, fun r hr => ?_, fun k hk => ?_⟩
  · by_cases c : p = K 93
    · subst c
      rw [addK_l h6, addK_f h6, addK_a h6]
      exact ⟨by omega, hf, ha⟩
    · rw [addK_ne (by omega) (by omega) (by omega) (by omega) (by omega), addK_ne (by omega) (by omega) (by omega) (by omega) (by omega), addK_ne (by omega) (by omega) (by omega) (by omega) (by omega)]
      exact w9 p (by omega)
  · by_cases c : p = K 93
    · subst c
      rw [addK_m h6 hq]
      exact Nat.mod_lt _ (by omega)
    · rw [addK_ne (by omega) (by omega) (by omega) (by omega) (by omega)]
      exact w10 p q (by omega) hq
  · rw [e _ (by omega) (by omega), e _ (by omega) (by omega), e _ (by omega) (by omega)]
    obtain ⟨r1, r2, r3, r4⟩ := w11 r hr
    refine ⟨r1, r2, r3, ?_⟩
    rw [Nat.pow_succ]; omega
  · rw [e _ (by omega) (by omega), e _ (by omega) (by omega), e _ (by omega) (by omega)]
    obtain ⟨r1, r2, r3⟩ := w12 k hk
    exact ⟨r1, by omega, r3⟩
set_option maxRecDepth 20000 in
theorem lm_add {f a m : Nat} (h : WF K) (h6 : K 93 < 6) : lmK (addK K f a m) = lmK K ||| 1 * 2 ^ K 93 := by
  have e := mskN_or (f := fun p => addK K f a m (24 + p)) (i := K 93) (fun p hp => by
    show addK K f a m (24 + p) ≤ 1
    rw [addK_ne (by omega) (by omega) (by omega) (by omega) (by omega)]; exact h.life hp) (by show addK K f a m (24 + K 93) ≤ 1; rw [addK_l h6]; omega)
  rw [addK_l h6] at e
  show mskN (fun p => addK K f a m (24 + p)) (addK K f a m 93) = _
  rw [addK_93, ← e, mskN_congr (g := fun p => K (24 + p)) (fun p hp => addK_ne (by omega) (by omega) (by omega) (by omega) (by omega))]
set_option maxRecDepth 20000 in
theorem addK_RW {f a m : Nat} (h : RW 3 K VI) (hW : WF K) (h6 : K 93 < 6) (hm : m < 256) : RW 3 (addK K f a m) (up (up (up (up (up (up (up (up VI 4 (K 93) (nI f)) 5 (K 93) (nI a)) 6 (K 93 * 4 + 0) (nI (m / 2 ^ 6 % 4))) 6 (K 93 * 4 + 1) (nI (m / 2 ^ 4 % 4))) 6 (K 93 * 4 + 2) (nI (m / 2 ^ 2 % 4))) 6 (K 93 * 4 + 3) (nI (m / 2 ^ 0 % 4))) 3 1 (nI (lmK K ||| 1 * 2 ^ K 93))) 3 0 (nI (K 93 + 1))) := by
  obtain ⟨w1, w2, w3, w4, w5, w6, w7, w8, w9, w10, w11, w12⟩ := h
  have e : ∀ i, (51 ≤ i ∨ (30 ≤ i ∧ i ≤ 38)) → i ≠ 93 → addK K f a m i = K i := fun i hi hn => addK_ne (by omega) (by omega) (by omega) (by omega) hn
  have e93 := addK_93 (K := K) (f := f) (a := a) (m := m)
  have hdm : dmK (addK K f a m) = dmK K := by
    show mskN (fun r => addK K f a m (30 + r)) (addK K f a m 94) = _
    have h8 : K 94 ≤ 8 := hW.2.1
    rw [e 94 (by omega) (by omega), mskN_congr (g := fun r => K (30 + r)) (fun r hr => e _ (by omega) (by omega))]
  have h8 : K 94 ≤ 8 := hW.2.1
  have h95 : K 95 ≤ 8 := hW.2.2.1
  refine ⟨by rw [e93]; rfl, by rw [lm_add hW h6]; rfl, by rw [e 94 (by omega) (by omega)]; exact w3, by rw [hdm]; exact w4, by rw [e 95 (by omega) (by omega)]; exact w5, by rw [e 96 (by omega) (by omega)]; exact w6, by rw [e 97 (by omega) (by omega)]; exact w7, ?_, ?_, ?_, ?_, ?_⟩
  · intro p hp
    rw [e93] at hp
    show (if p = K 93 then nI f else VI 4 p) = _ ∧ (if p = K 93 then nI a else VI 5 p) = _
    by_cases c : p = K 93
    · subst c
      rw [if_pos rfl, if_pos rfl, addK_f h6, addK_a h6]; exact ⟨rfl, rfl⟩
    · rw [if_neg c, if_neg c, addK_ne (by omega) (by omega) (by omega) (by omega) (by omega), addK_ne (by omega) (by omega) (by omega) (by omega) (by omega)]
      exact w8 p (by omega)
  · intro p q hp hq
    rw [e93] at hp
    show (if p * 4 + q = K 93 * 4 + 3 then nI (m / 2 ^ 0 % 4) else if p * 4 + q = K 93 * 4 + 2 then nI (m / 2 ^ 2 % 4) else if p * 4 + q = K 93 * 4 + 1 then nI (m / 2 ^ 4 % 4) else if p * 4 + q = K 93 * 4 + 0 then nI (m / 2 ^ 6 % 4) else VI 6 (p * 4 + q)) = _
    by_cases c : p = K 93
    · subst c
      rw [addK_m h6 hq]
      rcases (show q = 0 ∨ q = 1 ∨ q = 2 ∨ q = 3 by omega) with z | z | z | z <;> subst z
      · rw [if_neg (by omega), if_neg (by omega), if_neg (by omega), if_pos rfl]
      · rw [if_neg (by omega), if_neg (by omega), if_pos rfl]
      · rw [if_neg (by omega), if_pos rfl]
      · rw [if_pos rfl]
    · rw [if_neg (by omega), if_neg (by omega), if_neg (by omega), if_neg (by omega), addK_ne (by omega) (by omega) (by omega) (by omega) (by omega)]
      exact w9 p q (by omega) hq
  · intro r hr
    rw [e 94 (by omega) (by omega)] at hr
    rw [e _ (by omega) (by omega), e _ (by omega) (by omega)]
    exact w10 r hr
  · intro k hk
    rw [e 95 (by omega) (by omega)] at hk
    rw [e _ (by omega) (by omega), e _ (by omega) (by omega), e _ (by omega) (by omega)]
    exact w11 k hk
  · rw [e 38 (by omega) (by omega), e 91 (by omega) (by omega), e 92 (by omega) (by omega)]
    exact w12
set_option maxRecDepth 20000 in
theorem m_adds {f a m : Nat} (hn : VI 76 93 = nI n) (hn6 : n < 6) (hm : m < 256) (hP : P none (LY ++ ext) (up (up (up (up (up (up (up (up VI 76 (39 + n) (nI f)) 76 (45 + n) (nI a)) 76 (24 + n) (nI 1)) 76 (4 * n + 3) (nI (m % 4))) 76 (4 * n + 2) (nI (m / 4 % 4))) 76 (4 * n + 1) (nI (m / 4 / 4 % 4))) 76 (4 * n + 0) (nI (m / 4 / 4 / 4 % 4))) 76 93 (nI (n + 1))) VL (vr G)) : Ex d mi172 0 (entL [.ref 74, .int (nI f), .int (nI a), .int (nI m)] 7) [] (LY ++ ext) VI VL (vr G) 0 0 P := by
  refine x_aload_n rfl rfl ?_
  refine x_getR (u := .ref _) rfl rfl rfl rfl ?_
  refine x_bipushN (q := 93) rfl ?_
  refine x_ialE (j := 93) rfl rfl (rfl) (by omega) (hn) ?_
  refine x_istore (ls' := [_, _, _, _, _, _, _]) rfl rfl rfl ?_
  refine x_iload_n rfl rfl ?_
  refine x_istore (ls' := [_, _, _, _, _, _, _]) rfl rfl rfl ?_
  refine x_aload_n rfl rfl ?_
  refine x_getR (u := .ref _) rfl rfl rfl rfl ?_
  refine x_bipushN (q := 39) rfl ?_
  refine x_iload rfl rfl ?_
  refine x_iaddN rfl ?_
  refine x_iload_n rfl rfl ?_
  refine x_iasN (j := 39 + n) rfl rfl (rfl) (by omega) ?_
  refine x_aload_n rfl rfl ?_
  refine x_getR (u := .ref _) rfl rfl rfl rfl ?_
  refine x_bipushN (q := 45) rfl ?_
  refine x_iload rfl rfl ?_
  refine x_iaddN rfl ?_
  refine x_iload_n rfl rfl ?_
  refine x_iasN (j := 45 + n) rfl rfl (rfl) (by omega) ?_
  refine x_aload_n rfl rfl ?_
  refine x_getR (u := .ref _) rfl rfl rfl rfl ?_
  refine x_bipushN (q := 24) rfl ?_
  refine x_iload rfl rfl ?_
  refine x_iaddN rfl ?_
  refine x_iconstN (q := 1) rfl ?_
  refine x_iasN (j := 24 + n) rfl rfl (rfl) (by omega) ?_
  refine x_iconstN (q := 3) rfl ?_
  refine x_istore (ls' := [_, _, _, _, _, _, _]) rfl rfl rfl ?_
  skip
  refine x_iload rfl rfl ?_
  refine x_ifN_lt rfl ?_
  refine x_aload_n rfl rfl ?_
  refine x_getR (u := .ref _) rfl rfl rfl rfl ?_
  refine x_iconstN (q := 0) rfl ?_
  refine x_iconstN (q := 4) rfl ?_
  refine x_iload rfl rfl ?_
  refine x_imulN rfl ?_
  refine x_iaddN rfl ?_
  refine x_iload rfl rfl ?_
  refine x_iaddN rfl ?_
  refine x_iload rfl rfl ?_
  refine x_iconstN (q := 4) rfl ?_
  refine x_iremN rfl ?_
  refine x_iasN (j := 4 * n + 3) rfl rfl (by rw [Nat.zero_add]) (by omega) ?_
  refine x_iload rfl rfl ?_
  refine x_iconstN (q := 4) rfl ?_
  refine x_idivN rfl ?_
  refine x_istore (ls' := [_, _, _, _, _, _, _]) rfl rfl rfl ?_
  refine x_iinc (ls' := [_, _, _, _, _, _, _]) rfl rfl rfl rfl ?_
  refine x_goto rfl ?_
  rw [show nI 3 + (-1 : Int32) = nI 2 from by decide +kernel]
  refine x_iload rfl rfl ?_
  refine x_ifN_lt rfl ?_
  refine x_aload_n rfl rfl ?_
  refine x_getR (u := .ref _) rfl rfl rfl rfl ?_
  refine x_iconstN (q := 0) rfl ?_
  refine x_iconstN (q := 4) rfl ?_
  refine x_iload rfl rfl ?_
  refine x_imulN rfl ?_
  refine x_iaddN rfl ?_
  refine x_iload rfl rfl ?_
  refine x_iaddN rfl ?_
  refine x_iload rfl rfl ?_
  refine x_iconstN (q := 4) rfl ?_
  refine x_iremN rfl ?_
  refine x_iasN (j := 4 * n + 2) rfl rfl (by rw [Nat.zero_add]) (by omega) ?_
  refine x_iload rfl rfl ?_
  refine x_iconstN (q := 4) rfl ?_
  refine x_idivN rfl ?_
  refine x_istore (ls' := [_, _, _, _, _, _, _]) rfl rfl rfl ?_
  refine x_iinc (ls' := [_, _, _, _, _, _, _]) rfl rfl rfl rfl ?_
  refine x_goto rfl ?_
  rw [show nI 2 + (-1 : Int32) = nI 1 from by decide +kernel]
  refine x_iload rfl rfl ?_
  refine x_ifN_lt rfl ?_
  refine x_aload_n rfl rfl ?_
  refine x_getR (u := .ref _) rfl rfl rfl rfl ?_
  refine x_iconstN (q := 0) rfl ?_
  refine x_iconstN (q := 4) rfl ?_
  refine x_iload rfl rfl ?_
  refine x_imulN rfl ?_
  refine x_iaddN rfl ?_
  refine x_iload rfl rfl ?_
  refine x_iaddN rfl ?_
  refine x_iload rfl rfl ?_
  refine x_iconstN (q := 4) rfl ?_
  refine x_iremN rfl ?_
  refine x_iasN (j := 4 * n + 1) rfl rfl (by rw [Nat.zero_add]) (by omega) ?_
  refine x_iload rfl rfl ?_
  refine x_iconstN (q := 4) rfl ?_
  refine x_idivN rfl ?_
  refine x_istore (ls' := [_, _, _, _, _, _, _]) rfl rfl rfl ?_
  refine x_iinc (ls' := [_, _, _, _, _, _, _]) rfl rfl rfl rfl ?_
  refine x_goto rfl ?_
  rw [show nI 1 + (-1 : Int32) = nI 0 from by decide +kernel]
  refine x_iload rfl rfl ?_
  refine x_ifN_lt rfl ?_
  refine x_aload_n rfl rfl ?_
  refine x_getR (u := .ref _) rfl rfl rfl rfl ?_
  refine x_iconstN (q := 0) rfl ?_
  refine x_iconstN (q := 4) rfl ?_
  refine x_iload rfl rfl ?_
  refine x_imulN rfl ?_
  refine x_iaddN rfl ?_
  refine x_iload rfl rfl ?_
  refine x_iaddN rfl ?_
  refine x_iload rfl rfl ?_
  refine x_iconstN (q := 4) rfl ?_
  refine x_iremN rfl ?_
  refine x_iasN (j := 4 * n + 0) rfl rfl (by rw [Nat.zero_add]) (by omega) ?_
  refine x_iload rfl rfl ?_
  refine x_iconstN (q := 4) rfl ?_
  refine x_idivN rfl ?_
  refine x_istore (ls' := [_, _, _, _, _, _, _]) rfl rfl rfl ?_
  refine x_iinc (ls' := [_, _, _, _, _, _, _]) rfl rfl rfl rfl ?_
  refine x_goto rfl ?_
  skip
  refine x_iload rfl rfl ?_
  refine x_if_lt rfl (fun c50 => ?_) (fun c50 => ?_)
  rotate_left
  · exact absurd c50 (by decide)
  refine x_aload_n rfl rfl ?_
  refine x_getR (u := .ref _) rfl rfl rfl rfl ?_
  refine x_bipushN (q := 93) rfl ?_
  refine x_dup2 rfl rfl rfl ?_
  refine x_ialE (j := 93) rfl rfl (rfl) (by omega) ((show _ = nI n by rw [up_at' (by omega), up_at' (by omega), up_at' (by omega), up_at' (by omega), up_at' (by omega), up_at' (by omega), up_at' (by omega)]; exact hn)) ?_
  refine x_iconstN (q := 1) rfl ?_
  refine x_iaddN rfl ?_
  refine x_iasN (j := 93) rfl rfl (rfl) (by omega) ?_
  refine x_vret rfl rfl ?_
  exact hP
end Write1
