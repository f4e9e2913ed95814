/-! ===== develop, bury, pass ===== -/
set_option maxRecDepth 20000 in
theorem mskN_set1 {f : Nat → Nat} {n r : Nat} (h : ∀ i, i < n → f i ≤ 1) (hr : r < n) : mskN (fun i => if i = r then 1 else f i) n = mskN f n ||| 1 * 2 ^ r := by
  have h' : ∀ i, i < n → (fun i => if i = r then 1 else f i) i ≤ 1 := by
    intro i hi
    show (if i = r then 1 else f i) ≤ 1
    split
    · omega
    · exact h i hi
  apply Nat.eq_of_testBit_eq
  intro i
  rw [Nat.testBit_or, Nat.one_mul, Nat.testBit_two_pow]
  by_cases hi : i < n
  · rw [mskN_bit h' i hi, mskN_bit h i hi]
    by_cases c : i = r
    · subst c; simp
    · have c2 : ¬ r = i := fun z => c z.symm
      simp [c, c2]
  · rw [tb_off (mskN_lt h') (by omega), tb_off (mskN_lt h) (by omega)]
    have c2 : ¬ r = i := by omega
    simp [c2]
set_option maxRecDepth 20000 in
theorem mskN_set0 {f : Nat → Nat} {n r : Nat} (h : ∀ i, i < n → f i ≤ 1) (hr : r < n) (hn : n ≤ 8) : mskN (fun i => if i = r then 0 else f i) n = mskN f n &&& (1 * 2 ^ r ^^^ 4294967295) := by
  have h' : ∀ i, i < n → (fun i => if i = r then 0 else f i) i ≤ 1 := by
    intro i hi
    show (if i = r then 0 else f i) ≤ 1
    split
    · omega
    · exact h i hi
  apply Nat.eq_of_testBit_eq
  intro i
  rw [Nat.testBit_and, Nat.testBit_xor, Nat.one_mul, Nat.testBit_two_pow]
  by_cases hi : i < n
  · rw [mskN_bit h' i hi, mskN_bit h i hi, show (4294967295 : Nat) = 2 ^ 32 - 1 from rfl, Nat.testBit_two_pow_sub_one]
    have h32 : i < 32 := by omega
    by_cases c : i = r
    · subst c; simp [h32]
    · have c2 : ¬ r = i := fun z => c z.symm
      simp [c, c2, h32]
  · rw [tb_off (mskN_lt h') (by omega), tb_off (mskN_lt h) (by omega)]
    simp
set_option maxRecDepth 20000 in
theorem dm_set1 {K : KT} (h : WF K) {r : Nat} (hr : r < K 94) : dmK (ku K (30 + r) 1) = dmK K ||| 1 * 2 ^ r := by
  have h8 : K 94 ≤ 8 := h.2.1
  show mskN (fun i => ku K (30 + r) 1 (30 + i)) (ku K (30 + r) 1 94) = _
  rw [ku_ne (by omega), ← mskN_set1 (f := fun i => K (30 + i)) (fun i hi => (h.roll hi).1) hr]
  refine mskN_congr (fun i hi => ?_)
  unfold ku
  by_cases c : i = r
  · subst c; rw [if_pos rfl, if_pos rfl]
  · rw [if_neg (by omega), if_neg c]
set_option maxRecDepth 20000 in
theorem dm_set0 {K : KT} (h : WF K) {r : Nat} (hr : r < K 94) : dmK (ku K (30 + r) 0) = dmK K &&& (1 * 2 ^ r ^^^ 4294967295) := by
  have h8 : K 94 ≤ 8 := h.2.1
  show mskN (fun i => ku K (30 + r) 0 (30 + i)) (ku K (30 + r) 0 94) = _
  rw [ku_ne (by omega), ← mskN_set0 (f := fun i => K (30 + i)) (fun i hi => (h.roll hi).1) hr h8]
  refine mskN_congr (fun i hi => ?_)
  unfold ku
  by_cases c : i = r
  · subst c; rw [if_pos rfl, if_pos rfl]
  · rw [if_neg (by omega), if_neg c]
set_option maxRecDepth 20000 in
theorem lm_set1 {K : KT} (h : WF K) {r : Nat} (hr : r < K 93) : lmK (ku K (24 + r) 1) = lmK K ||| 1 * 2 ^ r := by
  have h8 : K 93 ≤ 6 := h.1
  show mskN (fun i => ku K (24 + r) 1 (24 + i)) (ku K (24 + r) 1 93) = _
  rw [ku_ne (by omega), ← mskN_set1 (f := fun i => K (24 + i)) (fun i hi => h.life hi) hr]
  refine mskN_congr (fun i hi => ?_)
  unfold ku
  by_cases c : i = r
  · subst c; rw [if_pos rfl, if_pos rfl]
  · rw [if_neg (by omega), if_neg c]
set_option maxRecDepth 20000 in
theorem lm_set0 {K : KT} (h : WF K) {r : Nat} (hr : r < K 93) : lmK (ku K (24 + r) 0) = lmK K &&& (1 * 2 ^ r ^^^ 4294967295) := by
  have h8 : K 93 ≤ 6 := h.1
  show mskN (fun i => ku K (24 + r) 0 (24 + i)) (ku K (24 + r) 0 93) = _
  rw [ku_ne (by omega), ← mskN_set0 (f := fun i => K (24 + i)) (fun i hi => h.life hi) hr (by omega)]
  refine mskN_congr (fun i hi => ?_)
  unfold ku
  by_cases c : i = r
  · subst c; rw [if_pos rfl, if_pos rfl]
  · rw [if_neg (by omega), if_neg c]
set_option maxRecDepth 20000 in
theorem RW.bits {w : Nat} {K K' : KT} {V V' : VIT} (h : RW w K V) (h6 : K 93 ≤ 6) (h8 : K 94 ≤ 8) (h95 : K 95 ≤ 8) (eK : ∀ i, i < 98 → (i < 24 ∨ 38 ≤ i) → K' i = K i) (e1 : V' w 1 = nI (lmK K')) (e6 : V' w 6 = nI (dmK K')) (ew : ∀ k, k ≠ 1 → k ≠ 6 → V' w k = V w k) (eV : ∀ a, w < a → a ≤ w + 9 → V' a = V a) : RW w K' V' := by
  obtain ⟨w1, w2, w3, w4, w5, w6, w7, w8, w9, w10, w11, w12, w13, w14⟩ := h
  refine ⟨?_, e1, ?_, e6, ?_, ?_, ?_, ?_, ?_, ?_, ?_, ?_, ?_, ?_⟩
  · rw [ew 0 (by omega) (by omega), eK 93 (by omega) (by omega)]; exact w1
  · rw [ew 5 (by omega) (by omega), eK 94 (by omega) (by omega)]; exact w3
  · rw [ew 9 (by omega) (by omega), eK 95 (by omega) (by omega)]; exact w5
  · rw [ew 14 (by omega) (by omega), eK 96 (by omega) (by omega)]; exact w6
  · rw [ew 15 (by omega) (by omega), eK 97 (by omega) (by omega)]; exact w7
  · intro p hp
    rw [eK 93 (by omega) (by omega)] at hp
    rw [eV (w + 1) (by omega) (by omega), eV (w + 2) (by omega) (by omega), eK _ (by omega) (by omega), eK _ (by omega) (by omega)]; exact w8 p hp
  · intro p q hp hq
    rw [eK 93 (by omega) (by omega)] at hp
    rw [eV (w + 3) (by omega) (by omega), eK _ (by omega) (by omega)]; exact w9 p q hp hq
  · intro r hr
    rw [eK 94 (by omega) (by omega)] at hr
    rw [eV (w + 4) (by omega) (by omega), eV (w + 5) (by omega) (by omega), eK _ (by omega) (by omega), eK _ (by omega) (by omega)]; exact w10 r hr
  · intro k hk
    rw [eK 95 (by omega) (by omega)] at hk
    rw [eV (w + 6) (by omega) (by omega), eV (w + 7) (by omega) (by omega), eV (w + 8) (by omega) (by omega), eK _ (by omega) (by omega), eK _ (by omega) (by omega), eK _ (by omega) (by omega)]; exact w11 k hk
  · rw [eV (w + 9) (by omega) (by omega), eK 38 (by omega) (by omega)]; exact w12
  · rw [eV (w + 9) (by omega) (by omega), eK 91 (by omega) (by omega)]; exact w13
  · rw [eV (w + 9) (by omega) (by omega), eK 92 (by omega) (by omega)]; exact w14
set_option maxRecDepth 20000 in
theorem WF.bits {K K' : KT} (h : WF K) (eK : ∀ i, i < 98 → (i < 24 ∨ 38 ≤ i) → K' i = K i) (e1 : ∀ p, p < K 93 → K' (24 + p) ≤ 1) (e2 : ∀ r, r < K 94 → K' (30 + r) ≤ 1) : WF K' := by
  obtain ⟨w1, w2, w3, w4, w5, w6, w7, w8, w9, w10, w11, w12⟩ := h
  unfold WF
  rw [eK 93 (by omega) (by omega), eK 94 (by omega) (by omega), eK 95 (by omega) (by omega), eK 96 (by omega) (by omega), eK 97 (by omega) (by omega), eK 38 (by omega) (by omega), eK 91 (by omega) (by omega), eK 92 (by omega) (by omega)]
  refine ⟨w1, w2, w3, w4, w5, w6, w7, w8, fun p hp => ⟨e1 p hp, ?_⟩, fun p q hp hq => ?_, fun r hr => ⟨e2 r hr, ?_⟩, fun k hk => ?_⟩
  · rw [eK _ (by omega) (by omega), eK _ (by omega) (by omega)]; exact (w9 p hp).2
  · rw [eK _ (by omega) (by omega)]; exact w10 p q hp hq
  · rw [eK _ (by omega) (by omega), eK _ (by omega) (by omega)]; exact (w11 r hr).2
  · rw [eK _ (by omega) (by omega), eK _ (by omega) (by omega), eK _ (by omega) (by omega)]; exact w12 k hk
-- what the class's deed leaves beside the world; what the model's leaves
def KX (VI VI' : VIT) (s v g : Nat) : Prop := VI' 45 2 = nI (v + 1) ∧ (∀ i, i < v → VI' 46 i = VI 46 (i + s)) ∧ VI' 46 v = nI g ∧ ∀ a k, a ≠ 46 → ¬ (a = 45 ∧ k = 2) → (a < 3 ∨ 12 < a) → VI' a k = VI a k
def KM (VI VI' : VIT) (s v dd : Nat) : Prop := VI' 74 32 = nI (v + 1) ∧ (∀ k, k < 40 * v → VI' 88 k = VI 88 (k + 40 * s)) ∧ (∀ k, k < 39 → VI' 88 (40 * v + k) = VI 76 k) ∧ VI' 88 (40 * v + 39) = nI dd ∧ ∀ a k, a ≠ 88 → a ≠ 76 → ¬ (a = 74 ∧ k = 32) → VI' a k = VI a k
set_option maxRecDepth 20000 in
theorem KX.mk {VI V1 VI' : VIT} {s v g : Nat} (k1 : V1 45 2 = nI (v + 1)) (k2 : ∀ i, i < v → V1 46 i = VI 46 (i + s)) (k3 : V1 46 v = nI g) (k4 : ∀ a k, a ≠ 46 → ¬ (a = 45 ∧ k = 2) → V1 a k = VI a k) (e : ∀ a, a < 3 ∨ 12 < a → VI' a = V1 a) : KX VI VI' s v g := by
  refine ⟨by rw [e 45 (by omega)]; exact k1, fun i hi => by rw [e 46 (by omega)]; exact k2 i hi, by rw [e 46 (by omega)]; exact k3, fun a k h1 h2 h3 => by rw [e a h3]; exact k4 a k h1 h2⟩
set_option maxRecDepth 20000 in
theorem KM.mk {VI V1 VI' : VIT} {s v dd : Nat} (k1 : V1 74 32 = nI (v + 1)) (k2 : ∀ k, k < 40 * v → V1 88 k = VI 88 (k + 40 * s)) (k3 : ∀ k, k < 39 → V1 88 (40 * v + k) = VI 76 k) (k4 : V1 88 (40 * v + 39) = nI dd) (k5 : ∀ a k, a ≠ 88 → ¬ (a = 74 ∧ k = 32) → V1 a k = VI a k) (e : ∀ a, a ≠ 76 → VI' a = V1 a) : KM VI VI' s v dd := by
  refine ⟨by rw [e 74 (by omega)]; exact k1, fun i hi => by rw [e 88 (by omega)]; exact k2 i hi, fun i hi => by rw [e 88 (by omega)]; exact k3 i hi, by rw [e 88 (by omega)]; exact k4, fun a k h1 h2 h3 => by rw [e a h2]; exact k5 a k h1 h3⟩
set_option maxRecDepth 20000 in
theorem KX.row {VI VI' : VIT} {s v g : Nat} (h : KX VI VI' s v g) (a : Nat) (h1 : a ≠ 46) (h2 : a ≠ 45) (h3 : a < 3 ∨ 12 < a) : VI' a = VI a := funext (fun k => h.2.2.2 a k h1 (fun z => h2 z.1) h3)
set_option maxRecDepth 20000 in
theorem St.deed {j : Nat} {ext : HL} {G : VRT} {K K' : KT} {tn : Nat} {T : Nat → Nat} {u s v g : Nat} {US : Nat → KT} {lg : Nat → Nat} {VI VI1 VI2 : VIT} (h : St j ext G K tn T u US lg VI) (hn : Nxt u s v) (hg : g < 65536) (hx : KX VI VI1 s v g) (hX : RW 3 K' VI1) (hm : KM (up VI1 0 17 0) VI2 s v (g % 4)) (hM : RK (VI2 76) K') (hW : WF K') (hu : Undoes (K 93) (K 94) g K' K) (eK : ∀ i, 39 ≤ i → K' i = K i) : St (j + 1) ext G K' tn T (v + 1) (US1 US s v K') (lg1 lg s v g) (up VI2 74 0 0) := by
  have h0 := h
  obtain ⟨h1, h2, h3, h4, h5, h6, h7, h8, h9, h10, h11⟩ := h
  obtain ⟨x1, x2, x3, x4⟩ := hx
  obtain ⟨m1, m2, m3, m4, m5⟩ := hm
  have f1 : ∀ a, 46 < a → VI1 a = VI a := fun a ha => funext (fun k => x4 a k (by omega) (by omega) (by omega))
  refine h0.write ?_ hW ?_ ?_ ?_ ?_ (eK 96 (by omega)) (fun i hi => eK i (by omega))
  · intro a k hw
    have g0 : ¬ (a = 74 ∧ k = 0) := by rintro ⟨rfl, rfl⟩; exact absurd hw (by decide)
    have g1 : ¬ (a = 74 ∧ k = 32) := by rintro ⟨rfl, rfl⟩; exact absurd hw (by decide)
    have g2 : a ≠ 88 := by rintro rfl; cases hw
    have g3 : a ≠ 76 := by rintro rfl; cases hw
    have g4 : ¬ (a = 0 ∧ k = 17) := by rintro ⟨rfl, rfl⟩; exact absurd hw (by decide)
    have g5 : a ≠ 46 := by rintro rfl; cases hw
    have g6 : a ≠ 45 := by rintro rfl; cases hw
    have g7 : a < 3 ∨ 12 < a := by
      by_cases c : 3 ≤ a ∧ a ≤ 12
      · rcases (show a = 3 ∨ a = 4 ∨ a = 5 ∨ a = 6 ∨ a = 7 ∨ a = 8 ∨ a = 9 ∨ a = 10 ∨ a = 11 ∨ a = 12 by omega) with e | e | e | e | e | e | e | e | e | e <;> subst e <;> cases hw
      · omega
    rw [up_ne2 g0, m5 a k g2 g3 g1, up_ne2 g4, x4 a k g5 (fun z => g6 z.1) g7]
  · refine hX.same (fun a q1 q2 => funext (fun k => ?_))
    rw [up_ne (by omega), m5 a k (by omega) (by omega) (by omega), up_ne (by omega)]
  · exact hM
  · refine h6.keep h1 hn hg (eK 93 (by omega)) (eK 94 (by omega)) hu h3 ?_ (fun i hi => ?_) ?_ ?_ (fun k hk => ?_) (fun k hk => ?_) ?_
    · rw [up_ne (by omega), m5 45 2 (by omega) (by omega) (by omega), up_ne (by omega)]; exact x1
    · rw [up_ne (by omega), m5 46 i (by omega) (by omega) (by omega), up_ne (by omega)]; exact x2 i hi
    · rw [up_ne (by omega), m5 46 v (by omega) (by omega) (by omega), up_ne (by omega)]; exact x3
    · rw [up_at' (by omega)]; exact m1
    · rw [up_ne (by omega), m2 k hk, up_ne (by omega), f1 88 (by omega)]
    · rw [up_ne (by omega), m3 k hk, up_ne (by omega), f1 76 (by omega)]
    · rw [up_ne (by omega)]; exact m4
  · rw [up_ne (by omega), m5 0 17 (by omega) (by omega) (by omega), up_at, up_at]
section Deeds
variable {d : Nat} {VI : VIT} {VL : VLT} {G : VRT} {P : Post} {ext : HL} {K : KT}
set_option maxRecDepth 20000 in
theorem m_goodOr_ok {a : Nat} (ha : a < 2147483648) (hP : P (some (.int (nI a))) (LY ++ ext) (up VI 74 0 0) VL (vr G)) : Ex (d + 1) mi237 0 (entL [.ref 74, .int (nI a)] 2) [] (LY ++ ext) VI VL (vr G) 0 0 P := by
  refine x_iload_n rfl rfl ?_
  refine x_ifN_ge rfl ?_
  refine x_aload_n rfl rfl ?_
  refine x_iload_n rfl rfl ?_
  refine x_callV (M' := mi155) (As := [_]) (bc1 := 0) (bs1 := 0) (bc2 := 0) (bs2 := 0) rfl rfl rfl rfl ok155 rfl rfl (by decide) rfl rfl rfl rfl rfl rfl ?_
  refine m_good ?_
  refine x_iret rfl rfl ?_
  exact hP
set_option maxRecDepth 20000 in
theorem m_goodOr_ref {v : Int32} (k : Nat) (hv : v = -nI (k + 1)) (hk : k < 6) (hP : P (some (.int (v))) (LY ++ ext) (up (up VI 74 0 (v)) 75 (k + 1) (VI 75 (k + 1) + 1)) VL (vr G)) : Ex (d + 1) mi237 0 (entL [.ref 74, .int v] 2) [] (LY ++ ext) VI VL (vr G) 0 0 P := by
  obtain ⟨e0, e1, e2, e3⟩ := ref_facts hv hk
  refine x_iload_n rfl rfl ?_
  refine x_if_ge rfl (fun c1 => ?_) (fun c1 => ?_)
  · exact absurd c1 e1
  refine x_aload_n rfl rfl ?_
  refine x_iload_n rfl rfl ?_
  refine x_callV (M' := mi154) (As := [_]) (bc1 := 0) (bs1 := 0) (bc2 := 0) (bs2 := 0) rfl rfl rfl rfl ok154 rfl rfl (by decide) rfl rfl rfl rfl rfl rfl ?_
  refine m_refuses (k + 1) hv (by omega) ?_
  refine x_goto rfl ?_
  refine x_iret rfl rfl ?_
  exact hP
set_option maxRecDepth 20000 in
theorem s_develop_out {r : Int32} (hX : RW 3 K VI) (h : hasF (nI (K 94)) r = 0) (hP : P (some (.int (-2))) (LY ++ ext) VI VL (vr G)) : Ex (d + 4) mi2 0 (entL [.ref 45, .int r] 3) [] (LY ++ ext) VI VL (vr G) 0 0 P := by
  refine x_aload_n rfl rfl ?_
  refine x_getR (u := .ref _) rfl rfl rfl rfl ?_
  refine x_iload_n rfl rfl ?_
  refine x_callV (M' := mi96) (As := [_]) (bc1 := 0) (bs1 := 0) (bc2 := 0) (bs2 := 0) rfl rfl rfl rfl ok96 rfl rfl (by decide) rfl rfl rfl rfl rfl rfl ?_
  refine s_hasRollK hX ?_
  rw [h]
  refine x_if_ne rfl (fun c8 => ?_) (fun c8 => ?_)
  · exact absurd c8 (by first | decide | omega)
  refine x_bipush rfl ?_
  refine x_iret rfl rfl ?_
  exact hP
set_option maxRecDepth 20000 in
theorem s_develop_no {r : Nat} (hX : RW 3 K VI) (hW : WF K) (hr : r < K 94) (h : agK K r = none ∨ K (30 + r) = 1) (hP : P (some (.int (-3))) (LY ++ ext) VI VL (vr G)) : Ex (d + 4) mi2 0 (entL [.ref 45, .int (nI r)] 3) [] (LY ++ ext) VI VL (vr G) 0 0 P := by
  have h8 : K 94 ≤ 8 := hW.2.1
  refine x_aload_n rfl rfl ?_
  refine x_getR (u := .ref _) rfl rfl rfl rfl ?_
  refine x_iload_n rfl rfl ?_
  refine x_callV (M' := mi96) (As := [_]) (bc1 := 0) (bs1 := 0) (bc2 := 0) (bs2 := 0) rfl rfl rfl rfl ok96 rfl rfl (by decide) rfl rfl rfl rfl rfl rfl ?_
  refine s_hasRollK hX ?_
  rw [hasF_in hr (by omega)]
  refine x_if_ne rfl (fun c8 => ?_) (fun c8 => ?_)
  rotate_left
  · exact absurd c8 (by first | decide | omega)
  refine x_aload_n rfl rfl ?_
  refine x_getR (u := .ref _) rfl rfl rfl rfl ?_
  refine x_iload_n rfl rfl ?_
  refine x_callV (M' := mi107) (As := [_]) (bc1 := 0) (bs1 := 0) (bc2 := 0) (bs2 := 0) rfl rfl rfl rfl ok107 rfl rfl (by decide) rfl rfl rfl rfl rfl rfl ?_
  refine s_accordK hX hW hr ?_
  refine x_istore_n (ls' := [_, _, _]) rfl rfl rfl ?_
  refine x_iload_n rfl rfl ?_
  refine x_iconst rfl ?_
  refine x_icmp_eq rfl (fun c25 => ?_) (fun c25 => ?_)
  · refine x_bipush rfl ?_
    refine x_iret rfl rfl ?_
    exact hP
  · refine x_aload_n rfl rfl ?_
    refine x_getR (u := .ref _) rfl rfl rfl rfl ?_
    refine x_iload_n rfl rfl ?_
    refine x_callV (M' := mi99) (As := [_]) (bc1 := 0) (bs1 := 0) (bc2 := 0) (bs2 := 0) rfl rfl rfl rfl ok99 rfl rfl (by decide) rfl rfl rfl rfl rfl rfl ?_
    refine s_isDone_in hX.rn hX.dm hr h8 hW.dm ?_
    rw [dm_bit hW hr]
    refine x_if_eq rfl (fun c36 => ?_) (fun c36 => ?_)
    · (rw [agI_none (agK_lt100 hW hr), Option.map_eq_none_iff] at c25; exact h.elim (fun z => absurd z c25) (fun z => absurd c36 (by rw [z]; decide)))
    · refine x_bipush rfl ?_
      refine x_iret rfl rfl ?_
      exact hP
set_option maxRecDepth 20000 in
theorem s_develop_ok {r c u s v : Nat} (hX : RW 3 K VI) (hW : WF K) (hr : r < K 94) (hc : agK K r = some c) (hz : K (30 + r) = 0) (hu : VI 45 2 = nI u) (hn : Nxt u s v) (hP : ∀ VI' : VIT, KX VI VI' s v (r * 4 + 1) → RW 3 (ku K (30 + r) 1) VI' → P (some (.int (nI (z100 c)))) (LY ++ ext) VI' VL (vr G)) : Ex (d + 4) mi2 0 (entL [.ref 45, .int (nI r)] 3) [] (LY ++ ext) VI VL (vr G) 0 0 P := by
  have h8 : K 94 ≤ 8 := hW.2.1
  have h6 := hW.n
  have h95 : K 95 ≤ 8 := hW.2.2.1
  have hp2 := pow8 (show r ≤ 8 by omega)
  have hl := agK_lt100 hW hr (z100 c) (by rw [hc]; rfl)
  have ec : agI ((agK K r).map z100) = nI (z100 c) := by rw [hc]; rfl
  have hne : ¬ nI (z100 c) = -1 := fun e => by
    have e2 := congrArg Int32.toInt e
    rw [nI_toInt (by omega)] at e2
    have e3 : (-1 : Int32).toInt = -1 := rfl
    omega
  refine x_aload_n rfl rfl ?_
  refine x_getR (u := .ref _) rfl rfl rfl rfl ?_
  refine x_iload_n rfl rfl ?_
  refine x_callV (M' := mi96) (As := [_]) (bc1 := 0) (bs1 := 0) (bc2 := 0) (bs2 := 0) rfl rfl rfl rfl ok96 rfl rfl (by decide) rfl rfl rfl rfl rfl rfl ?_
  refine s_hasRollK hX ?_
  rw [hasF_in hr (by omega)]
  refine x_if_ne rfl (fun c8 => ?_) (fun c8 => ?_)
  rotate_left
  · exact absurd c8 (by first | decide | omega)
  refine x_aload_n rfl rfl ?_
  refine x_getR (u := .ref _) rfl rfl rfl rfl ?_
  refine x_iload_n rfl rfl ?_
  refine x_callV (M' := mi107) (As := [_]) (bc1 := 0) (bs1 := 0) (bc2 := 0) (bs2 := 0) rfl rfl rfl rfl ok107 rfl rfl (by decide) rfl rfl rfl rfl rfl rfl ?_
  refine s_accordK hX hW hr ?_
  rw [ec]
  refine x_istore_n (ls' := [_, _, _]) rfl rfl rfl ?_
  refine x_iload_n rfl rfl ?_
  refine x_iconst rfl ?_
  refine x_icmp_eq rfl (fun c25 => ?_) (fun c25 => ?_)
  · exact absurd c25 hne
  refine x_aload_n rfl rfl ?_
  refine x_getR (u := .ref _) rfl rfl rfl rfl ?_
  refine x_iload_n rfl rfl ?_
  refine x_callV (M' := mi99) (As := [_]) (bc1 := 0) (bs1 := 0) (bc2 := 0) (bs2 := 0) rfl rfl rfl rfl ok99 rfl rfl (by decide) rfl rfl rfl rfl rfl rfl ?_
  refine s_isDone_in hX.rn hX.dm hr h8 hW.dm ?_
  rw [dm_bit hW hr, hz]
  refine x_ifN_eq rfl (fun c36 => ?_) (fun c36 => ?_)
  rotate_left
  · exact absurd c36 (by first | decide | omega)
  refine x_aload_n rfl rfl ?_
  refine x_iconstN (q := 1) rfl ?_
  refine x_iload_n rfl rfl ?_
  refine x_callV (M' := mi10) (As := [_, _]) (bc1 := 0) (bs1 := 0) (bc2 := 0) (bs2 := 0) rfl rfl rfl rfl ok10 rfl rfl (by decide) rfl rfl rfl rfl rfl rfl ?_
  refine s_keep hu hn (fun VI' k1 k2 k3 k4 => ?_)
  refine x_aload_n rfl rfl ?_
  refine x_getR (u := .ref _) rfl rfl rfl rfl ?_
  refine x_dup rfl rfl ?_
  refine x_getE (y := 6) rfl rfl rfl ((k4 3 6 (by omega) (by omega)).trans hX.dm) ?_
  refine x_iconstN (q := 1) rfl ?_
  refine x_iload_n rfl rfl ?_
  refine x_ishlN rfl ?_
  refine x_iorN rfl ?_
  refine x_putI rfl rfl rfl rfl ?_
  refine x_iload_n rfl rfl ?_
  refine x_iret rfl rfl ?_
  refine hP _ (KX.mk k1 k2 k3 k4 (fun a ha => up_ne (by omega))) ?_
  refine (hX.same (fun a _ _ => funext (fun k => k4 a k (by omega) (by omega)))).bits h6 h8 h95 (fun i _ hi => ku_ne (by omega)) ?_ ?_ (fun k _ hk => up_at' hk) (fun a ha _ => up_ne (by omega))
  · rw [show lmK (ku K (30 + r) 1) = lmK K from by show mskN (fun i => ku K (30 + r) 1 (24 + i)) (ku K (30 + r) 1 93) = _; rw [ku_ne (by omega), mskN_congr (g := fun i => K (24 + i)) (fun i hi => ku_ne (by omega))]]
    exact (k4 3 1 (by omega) (by omega)).trans hX.lm
  · rw [dm_set1 hW hr]; exact up_at
set_option maxRecDepth 20000 in
theorem m_develop_out {r : Int32} (hM : RK (VI 76) K) (hW : WF K) (h : hasF (nI (K 94)) r = 0) (hP : P (some (.int (-2))) (LY ++ ext) VI VL (vr G)) : Ex (d + 4) mi241 0 (entL [.ref 74, .int r] 3) [] (LY ++ ext) VI VL (vr G) 0 0 P := by
  refine x_aload_n rfl rfl ?_
  refine x_iload_n rfl rfl ?_
  refine x_callV (M' := mi165) (As := [_]) (bc1 := 0) (bs1 := 0) (bc2 := 0) (bs2 := 0) rfl rfl rfl rfl ok165 rfl rfl (by decide) rfl rfl rfl rfl rfl rfl ?_
  refine m_isRollK hM hW ?_
  rw [h]
  refine x_if_ne rfl (fun c5 => ?_) (fun c5 => ?_)
  · exact absurd c5 (by first | decide | omega)
  refine x_bipush rfl ?_
  refine x_iret rfl rfl ?_
  exact hP
set_option maxRecDepth 20000 in
theorem m_develop_no {r : Nat} (hM : RK (VI 76) K) (hW : WF K) (hr : r < K 94) (h : agK K r = none ∨ K (30 + r) = 1) (hP : P (some (.int (-3))) (LY ++ ext) VI VL (vr G)) : Ex (d + 4) mi241 0 (entL [.ref 74, .int (nI r)] 3) [] (LY ++ ext) VI VL (vr G) 0 0 P := by
  have h8 : K 94 ≤ 8 := hW.2.1
  refine x_aload_n rfl rfl ?_
  refine x_iload_n rfl rfl ?_
  refine x_callV (M' := mi165) (As := [_]) (bc1 := 0) (bs1 := 0) (bc2 := 0) (bs2 := 0) rfl rfl rfl rfl ok165 rfl rfl (by decide) rfl rfl rfl rfl rfl rfl ?_
  refine m_isRollK hM hW ?_
  rw [hasF_in hr (by omega)]
  refine x_if_ne rfl (fun c5 => ?_) (fun c5 => ?_)
  rotate_left
  · exact absurd c5 (by first | decide | omega)
  refine x_aload_n rfl rfl ?_
  refine x_iload_n rfl rfl ?_
  refine x_callV (M' := mi182) (As := [_]) (bc1 := 0) (bs1 := 0) (bc2 := 0) (bs2 := 0) rfl rfl rfl rfl ok182 rfl rfl (by decide) rfl rfl rfl rfl rfl rfl ?_
  refine m_agreement hM hW hr ?_
  refine x_istore_n (ls' := [_, _, _]) rfl rfl rfl ?_
  refine x_aload_n rfl rfl ?_
  refine x_getR (u := .ref _) rfl rfl rfl rfl ?_
  refine x_bipushN (q := 30) rfl ?_
  refine x_iload_n rfl rfl ?_
  refine x_iaddN rfl ?_
  refine x_ialE (j := 30 + r) rfl rfl (rfl) (by omega) (hM.at (30 + r)) ?_
  refine x_iconst rfl ?_
  refine x_icmp_eq rfl (fun c27 => ?_) (fun c27 => ?_)
  · refine x_bipush rfl ?_
    refine x_iret rfl rfl ?_
    exact hP
  · refine x_iload_n rfl rfl ?_
    refine x_iconst rfl ?_
    refine x_icmp_ne rfl (fun c32 => ?_) (fun c32 => ?_)
    · (rw [agI_none (agK_lt hW hr)] at c32; exact h.elim (fun z => absurd z c32) (fun z => absurd (by rw [z]; rfl) c27))
    · refine x_bipush rfl ?_
      refine x_iret rfl rfl ?_
      exact hP
set_option maxRecDepth 20000 in
theorem m_develop_ok {r c u s v : Nat} (hM : RK (VI 76) K) (hW : WF K) (hr : r < K 94) (hc : agK K r = some c) (hz : K (30 + r) = 0) (hu : VI 74 32 = nI u) (hn : Nxt u s v) (hP : ∀ VI' : VIT, KM VI VI' s v 1 → RK (VI' 76) (ku K (30 + r) 1) → P (some (.int (nI (z100 c)))) (LY ++ ext) VI' VL (vr G)) : Ex (d + 4) mi241 0 (entL [.ref 74, .int (nI r)] 3) [] (LY ++ ext) VI VL (vr G) 0 0 P := by
  have h8 : K 94 ≤ 8 := hW.2.1
  have hl := agK_lt hW hr c hc
  have ec : agI (agK K r) = nI c := by rw [hc]; rfl
  have hne : ¬ nI c = -1 := fun e => by
    have e2 := congrArg Int32.toInt e
    rw [nI_toInt (by omega)] at e2
    have e3 : (-1 : Int32).toInt = -1 := rfl
    omega
  refine x_aload_n rfl rfl ?_
  refine x_iload_n rfl rfl ?_
  refine x_callV (M' := mi165) (As := [_]) (bc1 := 0) (bs1 := 0) (bc2 := 0) (bs2 := 0) rfl rfl rfl rfl ok165 rfl rfl (by decide) rfl rfl rfl rfl rfl rfl ?_
  refine m_isRollK hM hW ?_
  rw [hasF_in hr (by omega)]
  refine x_if_ne rfl (fun c5 => ?_) (fun c5 => ?_)
  rotate_left
  · exact absurd c5 (by first | decide | omega)
  refine x_aload_n rfl rfl ?_
  refine x_iload_n rfl rfl ?_
  refine x_callV (M' := mi182) (As := [_]) (bc1 := 0) (bs1 := 0) (bc2 := 0) (bs2 := 0) rfl rfl rfl rfl ok182 rfl rfl (by decide) rfl rfl rfl rfl rfl rfl ?_
  refine m_agreement hM hW hr ?_
  rw [ec]
  refine x_istore_n (ls' := [_, _, _]) rfl rfl rfl ?_
  refine x_aload_n rfl rfl ?_
  refine x_getR (u := .ref _) rfl rfl rfl rfl ?_
  refine x_bipushN (q := 30) rfl ?_
  refine x_iload_n rfl rfl ?_
  refine x_iaddN rfl ?_
  refine x_ialE (j := 30 + r) rfl rfl (rfl) (by omega) ((hM.at (30 + r)).trans (congrArg nI hz)) ?_
  refine x_iconstN (q := 1) rfl ?_
  refine x_icmpN_eq rfl (fun c27 => ?_) (fun c27 => ?_)
  · exact absurd c27 (by first | decide | omega)
  refine x_iload_n rfl rfl ?_
  refine x_iconst rfl ?_
  refine x_icmp_ne rfl (fun c32 => ?_) (fun c32 => ?_)
  rotate_left
  · exact absurd c32 hne
  refine x_aload_n rfl rfl ?_
  refine x_iconstN (q := 1) rfl ?_
  refine x_callV (M' := mi235) (As := [_]) (bc1 := 0) (bs1 := 0) (bc2 := 0) (bs2 := 0) rfl rfl rfl rfl ok235 rfl rfl (by decide) rfl rfl rfl rfl rfl rfl ?_
  refine m_keeps hu hn (fun VI' k1 k2 k3 k4 k5 => ?_)
  refine x_aload_n rfl rfl ?_
  refine x_getR (u := .ref _) rfl rfl rfl rfl ?_
  refine x_bipushN (q := 30) rfl ?_
  refine x_iload_n rfl rfl ?_
  refine x_iaddN rfl ?_
  refine x_iconstN (q := 1) rfl ?_
  refine x_iasN (j := 30 + r) rfl rfl (rfl) (by omega) ?_
  refine x_iload_n rfl rfl ?_
  refine x_iconstN (q := 4) rfl ?_
  refine x_icmpN_ne rfl (fun c55 => ?_) (fun c55 => ?_)
  · refine x_iload_n rfl rfl ?_
    refine x_iret rfl rfl ?_
    refine P_i ?_ (hP _ (KM.mk k1 k2 k3 k4 k5 (fun a ha => up_ne ha)) (RK.ku (show RK (VI' 76) K by rw [show VI' 76 = VI 76 from funext (fun k => k5 76 k (by omega) (by omega))]; exact hM) (by omega) rfl))
    unfold z100
    first | (rw [if_neg c55]; done) | (rw [if_pos c55]; done) | (rw [if_pos c55]; rfl)
  · refine x_bipushN (q := 100) rfl ?_
    refine x_goto rfl ?_
    refine x_iret rfl rfl ?_
    refine P_i ?_ (hP _ (KM.mk k1 k2 k3 k4 k5 (fun a ha => up_ne ha)) (RK.ku (show RK (VI' 76) K by rw [show VI' 76 = VI 76 from funext (fun k => k5 76 k (by omega) (by omega))]; exact hM) (by omega) rfl))
    unfold z100
    first | (rw [if_neg c55]; done) | (rw [if_pos c55]; done) | (rw [if_pos c55]; rfl)
set_option maxRecDepth 20000 in
theorem s_bury_out {r : Int32} (hX : RW 3 K VI) (h : hasF (nI (K 93)) r = 0) (hP : P (some (.int (-2))) (LY ++ ext) VI VL (vr G)) : Ex (d + 2) mi3 0 (entL [.ref 45, .int r] 2) [] (LY ++ ext) VI VL (vr G) 0 0 P := by
  refine x_aload_n rfl rfl ?_
  refine x_getR (u := .ref _) rfl rfl rfl rfl ?_
  refine x_iload_n rfl rfl ?_
  refine x_callV (M' := mi95) (As := [_]) (bc1 := 0) (bs1 := 0) (bc2 := 0) (bs2 := 0) rfl rfl rfl rfl ok95 rfl rfl (by decide) rfl rfl rfl rfl rfl rfl ?_
  refine s_hasPersonK hX ?_
  rw [h]
  refine x_if_ne rfl (fun c8 => ?_) (fun c8 => ?_)
  · exact absurd c8 (by first | decide | omega)
  refine x_bipush rfl ?_
  refine x_iret rfl rfl ?_
  exact hP
set_option maxRecDepth 20000 in
theorem s_bury_no {r : Nat} (hX : RW 3 K VI) (hW : WF K) (hr : r < K 93) (hz : K (24 + r) = 0) (hP : P (some (.int (-3))) (LY ++ ext) VI VL (vr G)) : Ex (d + 2) mi3 0 (entL [.ref 45, .int (nI r)] 2) [] (LY ++ ext) VI VL (vr G) 0 0 P := by
  have h6 := hW.n
  refine x_aload_n rfl rfl ?_
  refine x_getR (u := .ref _) rfl rfl rfl rfl ?_
  refine x_iload_n rfl rfl ?_
  refine x_callV (M' := mi95) (As := [_]) (bc1 := 0) (bs1 := 0) (bc2 := 0) (bs2 := 0) rfl rfl rfl rfl ok95 rfl rfl (by decide) rfl rfl rfl rfl rfl rfl ?_
  refine s_hasPersonK hX ?_
  rw [hasF_in hr (by omega)]
  refine x_if_ne rfl (fun c8 => ?_) (fun c8 => ?_)
  rotate_left
  · exact absurd c8 (by first | decide | omega)
  refine x_aload_n rfl rfl ?_
  refine x_getR (u := .ref _) rfl rfl rfl rfl ?_
  refine x_iload_n rfl rfl ?_
  refine x_callV (M' := mi98) (As := [_]) (bc1 := 0) (bs1 := 0) (bc2 := 0) (bs2 := 0) rfl rfl rfl rfl ok98 rfl rfl (by decide) rfl rfl rfl rfl rfl rfl ?_
  refine s_lives_in hX.n hX.lm hr h6 hW.lm ?_
  rw [lm_bit hW hr, hz]
  refine x_if_ne rfl (fun c22 => ?_) (fun c22 => ?_)
  · exact absurd c22 (by first | decide | omega)
  refine x_bipush rfl ?_
  refine x_iret rfl rfl ?_
  exact hP
set_option maxRecDepth 20000 in
theorem s_bury_ok {r u s v : Nat} (hX : RW 3 K VI) (hW : WF K) (hr : r < K 93) (hz : K (24 + r) = 1) (hu : VI 45 2 = nI u) (hn : Nxt u s v) (hP : ∀ VI' : VIT, KX VI VI' s v (r * 4 + 2) → RW 3 (ku K (24 + r) 0) VI' → P (some (.int (nI (popN (lmK (ku K (24 + r) 0)) 8)))) (LY ++ ext) VI' VL (vr G)) : Ex (d + 2) mi3 0 (entL [.ref 45, .int (nI r)] 2) [] (LY ++ ext) VI VL (vr G) 0 0 P := by
  have h8 : K 94 ≤ 8 := hW.2.1
  have h6 := hW.n
  have h95 : K 95 ≤ 8 := hW.2.2.1
  have hp2 := pow6 (show r ≤ 6 by omega)
  have hlm := hW.lm
  have hle : lmK (ku K (24 + r) 0) < 256 := by rw [lm_set0 hW hr]; exact Nat.lt_of_le_of_lt Nat.and_le_left (by omega)
  have eI : nI (lmK K) &&& (nI (1 * 2 ^ r) ^^^ (-1)) = nI (lmK (ku K (24 + r) 0)) := by
    rw [show (-1 : Int32) = nI 4294967295 from rfl, nb_xor, nb_and, lm_set0 hW hr]
  refine x_aload_n rfl rfl ?_
  refine x_getR (u := .ref _) rfl rfl rfl rfl ?_
  refine x_iload_n rfl rfl ?_
  refine x_callV (M' := mi95) (As := [_]) (bc1 := 0) (bs1 := 0) (bc2 := 0) (bs2 := 0) rfl rfl rfl rfl ok95 rfl rfl (by decide) rfl rfl rfl rfl rfl rfl ?_
  refine s_hasPersonK hX ?_
  rw [hasF_in hr (by omega)]
  refine x_if_ne rfl (fun c8 => ?_) (fun c8 => ?_)
  rotate_left
  · exact absurd c8 (by first | decide | omega)
  refine x_aload_n rfl rfl ?_
  refine x_getR (u := .ref _) rfl rfl rfl rfl ?_
  refine x_iload_n rfl rfl ?_
  refine x_callV (M' := mi98) (As := [_]) (bc1 := 0) (bs1 := 0) (bc2 := 0) (bs2 := 0) rfl rfl rfl rfl ok98 rfl rfl (by decide) rfl rfl rfl rfl rfl rfl ?_
  refine s_lives_in hX.n hX.lm hr h6 hW.lm ?_
  rw [lm_bit hW hr, hz]
  refine x_ifN_ne rfl (fun c22 => ?_) (fun c22 => ?_)
  rotate_left
  · exact absurd c22 (by first | decide | omega)
  refine x_aload_n rfl rfl ?_
  refine x_iconstN (q := 2) rfl ?_
  refine x_iload_n rfl rfl ?_
  refine x_callV (M' := mi10) (As := [_, _]) (bc1 := 0) (bs1 := 0) (bc2 := 0) (bs2 := 0) rfl rfl rfl rfl ok10 rfl rfl (by decide) rfl rfl rfl rfl rfl rfl ?_
  refine s_keep hu hn (fun VI' k1 k2 k3 k4 => ?_)
  refine x_aload_n rfl rfl ?_
  refine x_getR (u := .ref _) rfl rfl rfl rfl ?_
  refine x_dup rfl rfl ?_
  refine x_getE (y := 1) rfl rfl rfl ((k4 3 1 (by omega) (by omega)).trans hX.lm) ?_
  refine x_iconstN (q := 1) rfl ?_
  refine x_iload_n rfl rfl ?_
  refine x_ishlN rfl ?_
  refine x_iconst rfl ?_
  refine x_ixor rfl ?_
  refine x_iand rfl ?_
  rw [eI]
  refine x_putI rfl rfl rfl rfl ?_
  skip
  refine x_aload_n rfl rfl ?_
  refine x_getR (u := .ref _) rfl rfl rfl rfl ?_
  refine x_getE (y := 1) rfl rfl rfl (up_at) ?_
  refine x_callS (M' := mi280) (As := [_]) (bc1 := 0) (bs1 := 0) (bc2 := 0) (bs2 := 0) rfl rfl rfl rfl ok280 rfl rfl rfl rfl rfl rfl ?_
  refine s_bitCount hle ?_
  refine x_iret rfl rfl ?_
  refine hP _ (KX.mk k1 k2 k3 k4 (fun a ha => up_ne (by omega))) ?_
  refine (hX.same (fun a _ _ => funext (fun k => k4 a k (by omega) (by omega)))).bits h6 h8 h95 (fun i _ hi => ku_ne (by omega)) up_at ?_ (fun k hk _ => up_at' hk) (fun a ha _ => up_ne (by omega))
  rw [show dmK (ku K (24 + r) 0) = dmK K from by show mskN (fun i => ku K (24 + r) 0 (30 + i)) (ku K (24 + r) 0 94) = _; rw [ku_ne (by omega), mskN_congr (g := fun i => K (30 + i)) (fun i hi => ku_ne (by omega))]]
  exact (k4 3 6 (by omega) (by omega)).trans hX.dm
set_option maxRecDepth 20000 in
theorem m_bury_out {r : Int32} (hM : RK (VI 76) K) (hW : WF K) (h : hasF (nI (K 93)) r = 0) (hP : P (some (.int (-2))) (LY ++ ext) VI VL (vr G)) : Ex (d + 2) mi242 0 (entL [.ref 74, .int r] 2) [] (LY ++ ext) VI VL (vr G) 0 0 P := by
  refine x_aload_n rfl rfl ?_
  refine x_iload_n rfl rfl ?_
  refine x_callV (M' := mi164) (As := [_]) (bc1 := 0) (bs1 := 0) (bc2 := 0) (bs2 := 0) rfl rfl rfl rfl ok164 rfl rfl (by decide) rfl rfl rfl rfl rfl rfl ?_
  refine m_isPersonK hM hW ?_
  rw [h]
  refine x_if_ne rfl (fun c5 => ?_) (fun c5 => ?_)
  · exact absurd c5 (by first | decide | omega)
  refine x_bipush rfl ?_
  refine x_iret rfl rfl ?_
  exact hP
set_option maxRecDepth 20000 in
theorem m_bury_no {r : Nat} (hM : RK (VI 76) K) (hW : WF K) (hr : r < K 93) (hz : K (24 + r) = 0) (hP : P (some (.int (-3))) (LY ++ ext) VI VL (vr G)) : Ex (d + 2) mi242 0 (entL [.ref 74, .int (nI r)] 2) [] (LY ++ ext) VI VL (vr G) 0 0 P := by
  have h6 := hW.n
  refine x_aload_n rfl rfl ?_
  refine x_iload_n rfl rfl ?_
  refine x_callV (M' := mi164) (As := [_]) (bc1 := 0) (bs1 := 0) (bc2 := 0) (bs2 := 0) rfl rfl rfl rfl ok164 rfl rfl (by decide) rfl rfl rfl rfl rfl rfl ?_
  refine m_isPersonK hM hW ?_
  rw [hasF_in hr (by omega)]
  refine x_if_ne rfl (fun c5 => ?_) (fun c5 => ?_)
  rotate_left
  · exact absurd c5 (by first | decide | omega)
  refine x_aload_n rfl rfl ?_
  refine x_iload_n rfl rfl ?_
  refine x_callV (M' := mi167) (As := [_]) (bc1 := 0) (bs1 := 0) (bc2 := 0) (bs2 := 0) rfl rfl rfl rfl ok167 rfl rfl (by decide) rfl rfl rfl rfl rfl rfl ?_
  refine m_lives (by omega) ?_
  rw [b1_life (hM.at (24 + r)) (hW.life hr), hz]
  refine x_if_ne rfl (fun c16 => ?_) (fun c16 => ?_)
  · exact absurd c16 (by first | decide | omega)
  refine x_bipush rfl ?_
  refine x_iret rfl rfl ?_
  exact hP
set_option maxRecDepth 20000 in
theorem m_bury_ok {r u s v : Nat} (hM : RK (VI 76) K) (hW : WF K) (hr : r < K 93) (hz : K (24 + r) = 1) (hu : VI 74 32 = nI u) (hn : Nxt u s v) (hP : ∀ VI' : VIT, KM VI VI' s v 2 → RK (VI' 76) (ku K (24 + r) 0) → P (some (.int (nI (popN (lmK (ku K (24 + r) 0)) 6)))) (LY ++ ext) VI' VL (vr G)) : Ex (d + 2) mi242 0 (entL [.ref 74, .int (nI r)] 2) [] (LY ++ ext) VI VL (vr G) 0 0 P := by
  have h6 := hW.n
  have hW2 : WF (ku K (24 + r) 0) := hW.bits (fun i _ hi => ku_ne (by omega)) (fun p hp => by unfold ku; split <;> first | omega | exact hW.life hp) (fun q hq => by rw [ku_ne (by omega)]; exact (hW.roll hq).1)
  refine x_aload_n rfl rfl ?_
  refine x_iload_n rfl rfl ?_
  refine x_callV (M' := mi164) (As := [_]) (bc1 := 0) (bs1 := 0) (bc2 := 0) (bs2 := 0) rfl rfl rfl rfl ok164 rfl rfl (by decide) rfl rfl rfl rfl rfl rfl ?_
  refine m_isPersonK hM hW ?_
  rw [hasF_in hr (by omega)]
  refine x_if_ne rfl (fun c5 => ?_) (fun c5 => ?_)
  rotate_left
  · exact absurd c5 (by first | decide | omega)
  refine x_aload_n rfl rfl ?_
  refine x_iload_n rfl rfl ?_
  refine x_callV (M' := mi167) (As := [_]) (bc1 := 0) (bs1 := 0) (bc2 := 0) (bs2 := 0) rfl rfl rfl rfl ok167 rfl rfl (by decide) rfl rfl rfl rfl rfl rfl ?_
  refine m_lives (by omega) ?_
  rw [b1_life (hM.at (24 + r)) (hW.life hr), hz]
  refine x_ifN_ne rfl (fun c16 => ?_) (fun c16 => ?_)
  rotate_left
  · exact absurd c16 (by first | decide | omega)
  refine x_aload_n rfl rfl ?_
  refine x_iconstN (q := 2) rfl ?_
  refine x_callV (M' := mi235) (As := [_]) (bc1 := 0) (bs1 := 0) (bc2 := 0) (bs2 := 0) rfl rfl rfl rfl ok235 rfl rfl (by decide) rfl rfl rfl rfl rfl rfl ?_
  refine m_keeps hu hn (fun VI' k1 k2 k3 k4 k5 => ?_)
  refine x_aload_n rfl rfl ?_
  refine x_getR (u := .ref _) rfl rfl rfl rfl ?_
  refine x_bipushN (q := 24) rfl ?_
  refine x_iload_n rfl rfl ?_
  refine x_iaddN rfl ?_
  refine x_iconstN (q := 0) rfl ?_
  refine x_iasN (j := 24 + r) rfl rfl (rfl) (by omega) ?_
  skip
  have hM2 : RK (up VI' 76 (24 + r) (nI 0) 76) (ku K (24 + r) 0) := RK.ku (show RK (VI' 76) K by rw [show VI' 76 = VI 76 from funext (fun k => k5 76 k (by omega) (by omega))]; exact hM) (by omega) rfl
  refine x_aload_n rfl rfl ?_
  refine x_callV (M' := mi170) (As := []) (bc1 := 0) (bs1 := 0) (bc2 := 0) (bs2 := 0) rfl rfl rfl rfl ok170 rfl rfl (by decide) rfl rfl rfl rfl rfl rfl ?_
  refine m_livingK hM2 hW2 ?_
  refine x_callS (M' := mi158) (As := [_]) (bc1 := 0) (bs1 := 0) (bc2 := 0) (bs2 := 0) rfl rfl rfl rfl ok158 rfl rfl rfl rfl rfl rfl ?_
  refine m_ones (Nat.lt_trans hW2.lm (by decide)) ?_
  refine x_iret rfl rfl ?_
  exact hP _ (KM.mk k1 k2 k3 k4 k5 (fun a ha => up_ne ha)) hM2
set_option maxRecDepth 20000 in
theorem s_pass_no (hX : RW 3 K VI) (hz : K 38 = 999) (hP : P (some (.int (-3))) (LY ++ ext) VI VL (vr G)) : Ex (d + 1) mi4 0 (entL [.ref 45] 1) [] (LY ++ ext) VI VL (vr G) 0 0 P := by
  refine x_aload_n rfl rfl ?_
  refine x_getR (u := .ref _) rfl rfl rfl rfl ?_
  refine x_getR (u := .ref _) rfl rfl rfl rfl ?_
  refine x_iconstN (q := 0) rfl ?_
  refine x_ialE (j := 0) rfl rfl (rfl) (by omega) (hX.t0.trans (congrArg nI hz)) ?_
  refine x_sipushN (q := 999) rfl ?_
  refine x_icmpN_lt rfl (fun c12 => ?_) (fun c12 => ?_)
  · exact absurd c12 (by first | decide | omega)
  refine x_bipush rfl ?_
  refine x_iret rfl rfl ?_
  exact hP
set_option maxRecDepth 20000 in
theorem s_pass_ok {u s v : Nat} (hX : RW 3 K VI) (hW : WF K) (hz : K 38 < 999) (hu : VI 45 2 = nI u) (hn : Nxt u s v) (hP : ∀ VI' : VIT, KX VI VI' s v (0 * 4 + 3) → RW 3 (ku K 38 (K 38 + 1)) VI' → P (some (.int (nI (K 38 + 1)))) (LY ++ ext) VI' VL (vr G)) : Ex (d + 1) mi4 0 (entL [.ref 45] 1) [] (LY ++ ext) VI VL (vr G) 0 0 P := by
  have h8 : K 94 ≤ 8 := hW.2.1
  have h6 := hW.n
  have h95 : K 95 ≤ 8 := hW.2.2.1
  refine x_aload_n rfl rfl ?_
  refine x_getR (u := .ref _) rfl rfl rfl rfl ?_
  refine x_getR (u := .ref _) rfl rfl rfl rfl ?_
  refine x_iconstN (q := 0) rfl ?_
  refine x_ialE (j := 0) rfl rfl (rfl) (by omega) (hX.t0) ?_
  refine x_sipushN (q := 999) rfl ?_
  refine x_icmpN_lt rfl (fun c12 => ?_) (fun c12 => ?_)
  rotate_left
  · exact absurd c12 (by first | decide | omega)
  refine x_aload_n rfl rfl ?_
  refine x_iconstN (q := 3) rfl ?_
  refine x_iconstN (q := 0) rfl ?_
  refine x_callV (M' := mi10) (As := [_, _]) (bc1 := 0) (bs1 := 0) (bc2 := 0) (bs2 := 0) rfl rfl rfl rfl ok10 rfl rfl (by decide) rfl rfl rfl rfl rfl rfl ?_
  refine s_keep hu hn (fun VI' k1 k2 k3 k4 => ?_)
  refine x_aload_n rfl rfl ?_
  refine x_getR (u := .ref _) rfl rfl rfl rfl ?_
  refine x_getR (u := .ref _) rfl rfl rfl rfl ?_
  refine x_iconstN (q := 0) rfl ?_
  refine x_dup2 rfl rfl rfl ?_
  refine x_ialE (j := 0) rfl rfl (rfl) (by omega) ((k4 12 0 (by omega) (by omega)).trans hX.t0) ?_
  refine x_iconstN (q := 1) rfl ?_
  refine x_iaddN rfl ?_
  refine x_iasN (j := 0) rfl rfl (rfl) (by omega) ?_
  refine x_aload_n rfl rfl ?_
  refine x_getR (u := .ref _) rfl rfl rfl rfl ?_
  refine x_getR (u := .ref _) rfl rfl rfl rfl ?_
  refine x_iconstN (q := 0) rfl ?_
  refine x_ialE (j := 0) rfl rfl (rfl) (by omega) (up_at) ?_
  refine x_iret rfl rfl ?_
  refine hP _ (KX.mk k1 k2 k3 k4 (fun a ha => up_ne (by omega))) ?_
  refine hX.keep h6 h8 h95 (fun i _ h38 _ _ => ku_ne h38) (fun a _ _ => ?_) ?_ ?_ ?_
  · rw [up_ne (by omega)]; exact funext (fun k => k4 a k (by omega) (by omega))
  · rw [ku_same]; exact up_at
  · rw [ku_ne (by omega), up_at' (by omega)]; exact (k4 12 1 (by omega) (by omega)).trans hX.t1
  · rw [ku_ne (by omega), up_at' (by omega)]; exact (k4 12 2 (by omega) (by omega)).trans hX.t2
set_option maxRecDepth 20000 in
theorem m_pass_no (hM : RK (VI 76) K) (hz : K 38 = 999) (hP : P (some (.int (-3))) (LY ++ ext) VI VL (vr G)) : Ex (d + 1) mi243 0 (entL [.ref 74] 1) [] (LY ++ ext) VI VL (vr G) 0 0 P := by
  refine x_aload_n rfl rfl ?_
  refine x_getR (u := .ref _) rfl rfl rfl rfl ?_
  refine x_bipushN (q := 38) rfl ?_
  refine x_ialE (j := 38) rfl rfl (rfl) (by omega) ((hM.at 38).trans (congrArg nI hz)) ?_
  refine x_sipushN (q := 999) rfl ?_
  refine x_icmpN_ne rfl (fun c10 => ?_) (fun c10 => ?_)
  · exact absurd c10 (by first | decide | omega)
  refine x_bipush rfl ?_
  refine x_iret rfl rfl ?_
  exact hP
set_option maxRecDepth 20000 in
theorem m_pass_ok {u s v : Nat} (hM : RK (VI 76) K) (hW : WF K) (hz : K 38 < 999) (hu : VI 74 32 = nI u) (hn : Nxt u s v) (hP : ∀ VI' : VIT, KM VI VI' s v 3 → RK (VI' 76) (ku K 38 (K 38 + 1)) → P (some (.int (nI (K 38 + 1)))) (LY ++ ext) VI' VL (vr G)) : Ex (d + 1) mi243 0 (entL [.ref 74] 1) [] (LY ++ ext) VI VL (vr G) 0 0 P := by
  refine x_aload_n rfl rfl ?_
  refine x_getR (u := .ref _) rfl rfl rfl rfl ?_
  refine x_bipushN (q := 38) rfl ?_
  refine x_ialE (j := 38) rfl rfl (rfl) (by omega) (hM.at 38) ?_
  refine x_sipushN (q := 999) rfl ?_
  refine x_icmpN_ne rfl (fun c10 => ?_) (fun c10 => ?_)
  rotate_left
  · exact absurd c10 (by first | decide | omega)
  refine x_aload_n rfl rfl ?_
  refine x_iconstN (q := 3) rfl ?_
  refine x_callV (M' := mi235) (As := [_]) (bc1 := 0) (bs1 := 0) (bc2 := 0) (bs2 := 0) rfl rfl rfl rfl ok235 rfl rfl (by decide) rfl rfl rfl rfl rfl rfl ?_
  refine m_keeps hu hn (fun VI' k1 k2 k3 k4 k5 => ?_)
  refine x_aload_n rfl rfl ?_
  refine x_getR (u := .ref _) rfl rfl rfl rfl ?_
  refine x_bipushN (q := 38) rfl ?_
  refine x_dup2 rfl rfl rfl ?_
  refine x_ialE (j := 38) rfl rfl (rfl) (by omega) ((k5 76 38 (by omega) (by omega)).trans (hM.at 38)) ?_
  refine x_iconstN (q := 1) rfl ?_
  refine x_iaddN rfl ?_
  refine x_iasN (j := 38) rfl rfl (rfl) (by omega) ?_
  refine x_aload_n rfl rfl ?_
  refine x_getR (u := .ref _) rfl rfl rfl rfl ?_
  refine x_bipushN (q := 38) rfl ?_
  refine x_ialE (j := 38) rfl rfl (rfl) (by omega) (up_at) ?_
  refine x_iret rfl rfl ?_
  exact hP _ (KM.mk k1 k2 k3 k4 k5 (fun a ha => up_ne ha)) (RK.ku (show RK (VI' 76) K by rw [show VI' 76 = VI 76 from funext (fun k => k5 76 k (by omega) (by omega))]; exact hM) (by omega) rfl)
set_option maxRecDepth 20000 in
theorem x_developC_ref {r : Int32} {v : Int32} (k : Nat) (hv : v = -nI (k + 1)) (hk : k < 6) (h : ∀ P' : Post, P' (some (.int v)) (LY ++ ext) VI VL (vr G) → Ex (d + 4) mi2 0 (entL [.ref 45, .int r] 3) [] (LY ++ ext) VI VL (vr G) 0 0 P') (hP : P (some (.int (v))) (LY ++ ext) (up (up VI 0 17 (v)) 73 k (VI 73 k + 1)) VL (vr G)) : Ex (d + 5) mi125 0 (entL [.ref 0, .int r] 2) [] (LY ++ ext) VI VL (vr G) 0 0 P := by
  refine x_aload_n rfl rfl ?_
  refine x_aload_n rfl rfl ?_
  refine x_getR (u := .ref _) rfl rfl rfl rfl ?_
  refine x_iload_n rfl rfl ?_
  refine x_callV (M' := mi2) (As := [_]) (bc1 := 0) (bs1 := 0) (bc2 := 0) (bs2 := 0) rfl rfl rfl rfl ok2 rfl rfl (by decide) rfl rfl rfl rfl rfl rfl ?_
  refine h _ ?_
  refine x_callV (M' := mi145) (As := [_]) (bc1 := 0) (bs1 := 0) (bc2 := 0) (bs2 := 0) rfl rfl rfl rfl ok145 rfl rfl (by decide) rfl rfl rfl rfl rfl rfl ?_
  refine s_settled_ref k hv hk ?_
  refine x_iret rfl rfl ?_
  exact hP
set_option maxRecDepth 20000 in
theorem m_developC_ref {r : Int32} {v : Int32} (k : Nat) (hv : v = -nI (k + 1)) (hk : k < 6) (h : ∀ P' : Post, P' (some (.int v)) (LY ++ ext) VI VL (vr G) → Ex (d + 4) mi241 0 (entL [.ref 74, .int r] 3) [] (LY ++ ext) VI VL (vr G) 0 0 P') (hP : P (some (.int (v))) (LY ++ ext) (up (up VI 74 0 (v)) 75 (k + 1) (VI 75 (k + 1) + 1)) VL (vr G)) : Ex (d + 5) mi245 0 (entL [.ref 74, .int r] 2) [] (LY ++ ext) VI VL (vr G) 0 0 P := by
  refine x_aload_n rfl rfl ?_
  refine x_aload_n rfl rfl ?_
  refine x_iload_n rfl rfl ?_
  refine x_callV (M' := mi241) (As := [_]) (bc1 := 0) (bs1 := 0) (bc2 := 0) (bs2 := 0) rfl rfl rfl rfl ok241 rfl rfl (by decide) rfl rfl rfl rfl rfl rfl ?_
  refine h _ ?_
  refine x_callV (M' := mi237) (As := [_]) (bc1 := 0) (bs1 := 0) (bc2 := 0) (bs2 := 0) rfl rfl rfl rfl ok237 rfl rfl (by decide) rfl rfl rfl rfl rfl rfl ?_
  refine m_goodOr_ref k hv hk ?_
  refine x_iret rfl rfl ?_
  exact hP
set_option maxRecDepth 20000 in
theorem x_developC_ok {r : Int32} {a : Nat} {Q : VIT → Prop} (ha : a < 2147483648) (h : ∀ P' : Post, (∀ VI', Q VI' → P' (some (.int (nI a))) (LY ++ ext) VI' VL (vr G)) → Ex (d + 4) mi2 0 (entL [.ref 45, .int r] 3) [] (LY ++ ext) VI VL (vr G) 0 0 P') (hP : ∀ VI', Q VI' → P (some (.int (nI a))) (LY ++ ext) (up VI' 0 17 0) VL (vr G)) : Ex (d + 5) mi125 0 (entL [.ref 0, .int r] 2) [] (LY ++ ext) VI VL (vr G) 0 0 P := by
  refine x_aload_n rfl rfl ?_
  refine x_aload_n rfl rfl ?_
  refine x_getR (u := .ref _) rfl rfl rfl rfl ?_
  refine x_iload_n rfl rfl ?_
  refine x_callV (M' := mi2) (As := [_]) (bc1 := 0) (bs1 := 0) (bc2 := 0) (bs2 := 0) rfl rfl rfl rfl ok2 rfl rfl (by decide) rfl rfl rfl rfl rfl rfl ?_
  refine h _ (fun VI' hq => ?_)
  refine x_callV (M' := mi145) (As := [_]) (bc1 := 0) (bs1 := 0) (bc2 := 0) (bs2 := 0) rfl rfl rfl rfl ok145 rfl rfl (by decide) rfl rfl rfl rfl rfl rfl ?_
  refine s_settled_ok ha ?_
  refine x_iret rfl rfl ?_
  exact hP _ hq
set_option maxRecDepth 20000 in
theorem m_developC_ok {r : Int32} {a : Nat} {Q : VIT → Prop} (ha : a < 2147483648) (h : ∀ P' : Post, (∀ VI', Q VI' → P' (some (.int (nI a))) (LY ++ ext) VI' VL (vr G)) → Ex (d + 4) mi241 0 (entL [.ref 74, .int r] 3) [] (LY ++ ext) VI VL (vr G) 0 0 P') (hP : ∀ VI', Q VI' → P (some (.int (nI a))) (LY ++ ext) (up VI' 74 0 0) VL (vr G)) : Ex (d + 5) mi245 0 (entL [.ref 74, .int r] 2) [] (LY ++ ext) VI VL (vr G) 0 0 P := by
  refine x_aload_n rfl rfl ?_
  refine x_aload_n rfl rfl ?_
  refine x_iload_n rfl rfl ?_
  refine x_callV (M' := mi241) (As := [_]) (bc1 := 0) (bs1 := 0) (bc2 := 0) (bs2 := 0) rfl rfl rfl rfl ok241 rfl rfl (by decide) rfl rfl rfl rfl rfl rfl ?_
  refine h _ (fun VI' hq => ?_)
  refine x_callV (M' := mi237) (As := [_]) (bc1 := 0) (bs1 := 0) (bc2 := 0) (bs2 := 0) rfl rfl rfl rfl ok237 rfl rfl (by decide) rfl rfl rfl rfl rfl rfl ?_
  refine m_goodOr_ok ha ?_
  refine x_iret rfl rfl ?_
  exact hP _ hq
set_option maxRecDepth 20000 in
theorem x_buryC_ref {r : Int32} {v : Int32} (k : Nat) (hv : v = -nI (k + 1)) (hk : k < 6) (h : ∀ P' : Post, P' (some (.int v)) (LY ++ ext) VI VL (vr G) → Ex (d + 2) mi3 0 (entL [.ref 45, .int r] 2) [] (LY ++ ext) VI VL (vr G) 0 0 P') (hP : P (some (.int (v))) (LY ++ ext) (up (up VI 0 17 (v)) 73 k (VI 73 k + 1)) VL (vr G)) : Ex (d + 3) mi126 0 (entL [.ref 0, .int r] 2) [] (LY ++ ext) VI VL (vr G) 0 0 P := by
  refine x_aload_n rfl rfl ?_
  refine x_aload_n rfl rfl ?_
  refine x_getR (u := .ref _) rfl rfl rfl rfl ?_
  refine x_iload_n rfl rfl ?_
  refine x_callV (M' := mi3) (As := [_]) (bc1 := 0) (bs1 := 0) (bc2 := 0) (bs2 := 0) rfl rfl rfl rfl ok3 rfl rfl (by decide) rfl rfl rfl rfl rfl rfl ?_
  refine h _ ?_
  refine x_callV (M' := mi145) (As := [_]) (bc1 := 0) (bs1 := 0) (bc2 := 0) (bs2 := 0) rfl rfl rfl rfl ok145 rfl rfl (by decide) rfl rfl rfl rfl rfl rfl ?_
  refine s_settled_ref k hv hk ?_
  refine x_iret rfl rfl ?_
  exact hP
set_option maxRecDepth 20000 in
theorem m_buryC_ref {r : Int32} {v : Int32} (k : Nat) (hv : v = -nI (k + 1)) (hk : k < 6) (h : ∀ P' : Post, P' (some (.int v)) (LY ++ ext) VI VL (vr G) → Ex (d + 2) mi242 0 (entL [.ref 74, .int r] 2) [] (LY ++ ext) VI VL (vr G) 0 0 P') (hP : P (some (.int (v))) (LY ++ ext) (up (up VI 74 0 (v)) 75 (k + 1) (VI 75 (k + 1) + 1)) VL (vr G)) : Ex (d + 3) mi246 0 (entL [.ref 74, .int r] 2) [] (LY ++ ext) VI VL (vr G) 0 0 P := by
  refine x_aload_n rfl rfl ?_
  refine x_aload_n rfl rfl ?_
  refine x_iload_n rfl rfl ?_
  refine x_callV (M' := mi242) (As := [_]) (bc1 := 0) (bs1 := 0) (bc2 := 0) (bs2 := 0) rfl rfl rfl rfl ok242 rfl rfl (by decide) rfl rfl rfl rfl rfl rfl ?_
  refine h _ ?_
  refine x_callV (M' := mi237) (As := [_]) (bc1 := 0) (bs1 := 0) (bc2 := 0) (bs2 := 0) rfl rfl rfl rfl ok237 rfl rfl (by decide) rfl rfl rfl rfl rfl rfl ?_
  refine m_goodOr_ref k hv hk ?_
  refine x_iret rfl rfl ?_
  exact hP
set_option maxRecDepth 20000 in
theorem x_buryC_ok {r : Int32} {a : Nat} {Q : VIT → Prop} (ha : a < 2147483648) (h : ∀ P' : Post, (∀ VI', Q VI' → P' (some (.int (nI a))) (LY ++ ext) VI' VL (vr G)) → Ex (d + 2) mi3 0 (entL [.ref 45, .int r] 2) [] (LY ++ ext) VI VL (vr G) 0 0 P') (hP : ∀ VI', Q VI' → P (some (.int (nI a))) (LY ++ ext) (up VI' 0 17 0) VL (vr G)) : Ex (d + 3) mi126 0 (entL [.ref 0, .int r] 2) [] (LY ++ ext) VI VL (vr G) 0 0 P := by
  refine x_aload_n rfl rfl ?_
  refine x_aload_n rfl rfl ?_
  refine x_getR (u := .ref _) rfl rfl rfl rfl ?_
  refine x_iload_n rfl rfl ?_
  refine x_callV (M' := mi3) (As := [_]) (bc1 := 0) (bs1 := 0) (bc2 := 0) (bs2 := 0) rfl rfl rfl rfl ok3 rfl rfl (by decide) rfl rfl rfl rfl rfl rfl ?_
  refine h _ (fun VI' hq => ?_)
  refine x_callV (M' := mi145) (As := [_]) (bc1 := 0) (bs1 := 0) (bc2 := 0) (bs2 := 0) rfl rfl rfl rfl ok145 rfl rfl (by decide) rfl rfl rfl rfl rfl rfl ?_
  refine s_settled_ok ha ?_
  refine x_iret rfl rfl ?_
  exact hP _ hq
set_option maxRecDepth 20000 in
theorem m_buryC_ok {r : Int32} {a : Nat} {Q : VIT → Prop} (ha : a < 2147483648) (h : ∀ P' : Post, (∀ VI', Q VI' → P' (some (.int (nI a))) (LY ++ ext) VI' VL (vr G)) → Ex (d + 2) mi242 0 (entL [.ref 74, .int r] 2) [] (LY ++ ext) VI VL (vr G) 0 0 P') (hP : ∀ VI', Q VI' → P (some (.int (nI a))) (LY ++ ext) (up VI' 74 0 0) VL (vr G)) : Ex (d + 3) mi246 0 (entL [.ref 74, .int r] 2) [] (LY ++ ext) VI VL (vr G) 0 0 P := by
  refine x_aload_n rfl rfl ?_
  refine x_aload_n rfl rfl ?_
  refine x_iload_n rfl rfl ?_
  refine x_callV (M' := mi242) (As := [_]) (bc1 := 0) (bs1 := 0) (bc2 := 0) (bs2 := 0) rfl rfl rfl rfl ok242 rfl rfl (by decide) rfl rfl rfl rfl rfl rfl ?_
  refine h _ (fun VI' hq => ?_)
  refine x_callV (M' := mi237) (As := [_]) (bc1 := 0) (bs1 := 0) (bc2 := 0) (bs2 := 0) rfl rfl rfl rfl ok237 rfl rfl (by decide) rfl rfl rfl rfl rfl rfl ?_
  refine m_goodOr_ok ha ?_
  refine x_iret rfl rfl ?_
  exact hP _ hq
set_option maxRecDepth 20000 in
theorem x_passC_ref {v : Int32} (k : Nat) (hv : v = -nI (k + 1)) (hk : k < 6) (h : ∀ P' : Post, P' (some (.int v)) (LY ++ ext) VI VL (vr G) → Ex (d + 1) mi4 0 (entL [.ref 45] 1) [] (LY ++ ext) VI VL (vr G) 0 0 P') (hP : P (some (.int (v))) (LY ++ ext) (up (up VI 0 17 (v)) 73 k (VI 73 k + 1)) VL (vr G)) : Ex (d + 2) mi127 0 (entL [.ref 0] 1) [] (LY ++ ext) VI VL (vr G) 0 0 P := by
  refine x_aload_n rfl rfl ?_
  refine x_aload_n rfl rfl ?_
  refine x_getR (u := .ref _) rfl rfl rfl rfl ?_
  refine x_callV (M' := mi4) (As := []) (bc1 := 0) (bs1 := 0) (bc2 := 0) (bs2 := 0) rfl rfl rfl rfl ok4 rfl rfl (by decide) rfl rfl rfl rfl rfl rfl ?_
  refine h _ ?_
  refine x_callV (M' := mi145) (As := [_]) (bc1 := 0) (bs1 := 0) (bc2 := 0) (bs2 := 0) rfl rfl rfl rfl ok145 rfl rfl (by decide) rfl rfl rfl rfl rfl rfl ?_
  refine s_settled_ref k hv hk ?_
  refine x_iret rfl rfl ?_
  exact hP
set_option maxRecDepth 20000 in
theorem m_passC_ref {v : Int32} (k : Nat) (hv : v = -nI (k + 1)) (hk : k < 6) (h : ∀ P' : Post, P' (some (.int v)) (LY ++ ext) VI VL (vr G) → Ex (d + 1) mi243 0 (entL [.ref 74] 1) [] (LY ++ ext) VI VL (vr G) 0 0 P') (hP : P (some (.int (v))) (LY ++ ext) (up (up VI 74 0 (v)) 75 (k + 1) (VI 75 (k + 1) + 1)) VL (vr G)) : Ex (d + 2) mi247 0 (entL [.ref 74] 1) [] (LY ++ ext) VI VL (vr G) 0 0 P := by
  refine x_aload_n rfl rfl ?_
  refine x_aload_n rfl rfl ?_
  refine x_callV (M' := mi243) (As := []) (bc1 := 0) (bs1 := 0) (bc2 := 0) (bs2 := 0) rfl rfl rfl rfl ok243 rfl rfl (by decide) rfl rfl rfl rfl rfl rfl ?_
  refine h _ ?_
  refine x_callV (M' := mi237) (As := [_]) (bc1 := 0) (bs1 := 0) (bc2 := 0) (bs2 := 0) rfl rfl rfl rfl ok237 rfl rfl (by decide) rfl rfl rfl rfl rfl rfl ?_
  refine m_goodOr_ref k hv hk ?_
  refine x_iret rfl rfl ?_
  exact hP
set_option maxRecDepth 20000 in
theorem x_passC_ok {a : Nat} {Q : VIT → Prop} (ha : a < 2147483648) (h : ∀ P' : Post, (∀ VI', Q VI' → P' (some (.int (nI a))) (LY ++ ext) VI' VL (vr G)) → Ex (d + 1) mi4 0 (entL [.ref 45] 1) [] (LY ++ ext) VI VL (vr G) 0 0 P') (hP : ∀ VI', Q VI' → P (some (.int (nI a))) (LY ++ ext) (up VI' 0 17 0) VL (vr G)) : Ex (d + 2) mi127 0 (entL [.ref 0] 1) [] (LY ++ ext) VI VL (vr G) 0 0 P := by
  refine x_aload_n rfl rfl ?_
  refine x_aload_n rfl rfl ?_
  refine x_getR (u := .ref _) rfl rfl rfl rfl ?_
  refine x_callV (M' := mi4) (As := []) (bc1 := 0) (bs1 := 0) (bc2 := 0) (bs2 := 0) rfl rfl rfl rfl ok4 rfl rfl (by decide) rfl rfl rfl rfl rfl rfl ?_
  refine h _ (fun VI' hq => ?_)
  refine x_callV (M' := mi145) (As := [_]) (bc1 := 0) (bs1 := 0) (bc2 := 0) (bs2 := 0) rfl rfl rfl rfl ok145 rfl rfl (by decide) rfl rfl rfl rfl rfl rfl ?_
  refine s_settled_ok ha ?_
  refine x_iret rfl rfl ?_
  exact hP _ hq
set_option maxRecDepth 20000 in
theorem m_passC_ok {a : Nat} {Q : VIT → Prop} (ha : a < 2147483648) (h : ∀ P' : Post, (∀ VI', Q VI' → P' (some (.int (nI a))) (LY ++ ext) VI' VL (vr G)) → Ex (d + 1) mi243 0 (entL [.ref 74] 1) [] (LY ++ ext) VI VL (vr G) 0 0 P') (hP : ∀ VI', Q VI' → P (some (.int (nI a))) (LY ++ ext) (up VI' 74 0 0) VL (vr G)) : Ex (d + 2) mi247 0 (entL [.ref 74] 1) [] (LY ++ ext) VI VL (vr G) 0 0 P := by
  refine x_aload_n rfl rfl ?_
  refine x_aload_n rfl rfl ?_
  refine x_callV (M' := mi243) (As := []) (bc1 := 0) (bs1 := 0) (bc2 := 0) (bs2 := 0) rfl rfl rfl rfl ok243 rfl rfl (by decide) rfl rfl rfl rfl rfl rfl ?_
  refine h _ (fun VI' hq => ?_)
  refine x_callV (M' := mi237) (As := [_]) (bc1 := 0) (bs1 := 0) (bc2 := 0) (bs2 := 0) rfl rfl rfl rfl ok237 rfl rfl (by decide) rfl rfl rfl rfl rfl rfl ?_
  refine m_goodOr_ok ha ?_
  refine x_iret rfl rfl ?_
  exact hP _ hq
end Deeds
