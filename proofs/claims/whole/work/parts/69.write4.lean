/-! ===== forget, force, end, feed ===== -/
set_option maxRecDepth 20000 in
theorem up_ne2 {α : Type} {f : Nat → Nat → α} {a k b i : Nat} {x : α} (h : ¬ (b = a ∧ i = k)) : up f a k x b i = f b i := by
  by_cases e : b = a
  · subst e; exact up_at' (fun z => h ⟨rfl, z⟩)
  · rw [up_ne e]
set_option maxRecDepth 20000 in
theorem RW.cong {w : Nat} {K K' : KT} {VI VI' : VIT} (h : RW w K VI) (h6 : K 93 ≤ 6) (h8 : K 94 ≤ 8) (h95 : K 95 ≤ 8) (eK : ∀ i, i < 97 → K' i = K i) (e15 : VI' w 15 = nI (K' 97) - 1) (ew : ∀ k, k ≠ 15 → VI' w k = VI w k) (eV : ∀ a, w < a → a ≤ w + 9 → VI' a = VI a) : RW w K' VI' := by
  obtain ⟨w1, w2, w3, w4, w5, w6, w7, w8, w9, w10, w11, w12, w13, w14⟩ := h
  have hlm : lmK K' = lmK K := by
    show mskN (fun r => K' (24 + r)) (K' 93) = _
    rw [eK 93 (by omega), mskN_congr (g := fun r => K (24 + r)) (fun r hr => eK _ (by omega))]
  have hdm : dmK K' = dmK K := by
    show mskN (fun r => K' (30 + r)) (K' 94) = _
    rw [eK 94 (by omega), mskN_congr (g := fun r => K (30 + r)) (fun r hr => eK _ (by omega))]
  unfold RW
  rw [hlm, hdm, eK 93 (by omega), eK 94 (by omega), eK 95 (by omega), eK 96 (by omega), ew 0 (by omega), ew 1 (by omega), ew 5 (by omega), ew 6 (by omega), ew 9 (by omega), ew 14 (by omega), eV (w + 1) (by omega) (by omega), eV (w + 2) (by omega) (by omega), eV (w + 3) (by omega) (by omega), eV (w + 4) (by omega) (by omega), eV (w + 5) (by omega) (by omega), eV (w + 6) (by omega) (by omega), eV (w + 7) (by omega) (by omega), eV (w + 8) (by omega) (by omega), eV (w + 9) (by omega) (by omega), eK 38 (by omega), eK 91 (by omega), eK 92 (by omega)]
  refine ⟨w1, w2, w3, w4, w5, w6, e15, fun p hp => ?_, fun p q hp hq => ?_, fun r hr => ?_, fun k hk => ?_, w12, w13, w14⟩
  · rw [eK _ (by omega), eK _ (by omega)]; exact w8 p hp
  · rw [eK _ (by omega)]; exact w9 p q hp hq
  · rw [eK _ (by omega), eK _ (by omega)]; exact w10 r hr
  · rw [eK _ (by omega), eK _ (by omega), eK _ (by omega)]; exact w11 k hk
set_option maxRecDepth 20000 in
theorem WF.cong {K K' : KT} (h : WF K) (eK : ∀ i, i < 97 → K' i = K i) (e97 : K' 97 ≤ K 96) : WF K' := by
  obtain ⟨w1, w2, w3, w4, w5, w6, w7, w8, w9, w10, w11, w12⟩ := h
  unfold WF
  rw [eK 93 (by omega), eK 94 (by omega), eK 95 (by omega), eK 96 (by omega), eK 38 (by omega), eK 91 (by omega), eK 92 (by omega)]
  refine ⟨w1, w2, w3, w4, e97, w6, w7, w8, fun p hp => ?_, fun p q hp hq => ?_, fun r hr => ?_, fun k hk => ?_⟩
  · rw [eK _ (by omega), eK _ (by omega), eK _ (by omega)]; exact w9 p hp
  · rw [eK _ (by omega)]; exact w10 p q hp hq
  · rw [eK _ (by omega), eK _ (by omega), eK _ (by omega)]; exact w11 r hr
  · rw [eK _ (by omega), eK _ (by omega), eK _ (by omega)]; exact w12 k hk
set_option maxRecDepth 20000 in
theorem WF.forget {K : KT} (h : WF K) : WF (ku K 95 0) := by
  obtain ⟨w1, w2, w3, w4, w5, w6, w7, w8, w9, w10, w11, w12⟩ := h
  have e : ∀ i, i ≠ 95 → ku K 95 0 i = K i := fun i hi => ku_ne hi
  unfold WF
  rw [ku_same, e 93 (by omega), e 94 (by omega), e 96 (by omega), e 97 (by omega), e 38 (by omega), e 91 (by omega), e 92 (by omega)]
  refine ⟨w1, w2, by omega, w4, w5, w6, w7, w8, fun p hp => ?_, fun p q hp hq => ?_, fun r hr => ?_, fun k hk => absurd hk (by omega)⟩
  · rw [e _ (by omega), e _ (by omega), e _ (by omega)]; exact w9 p hp
  · rw [e _ (by omega)]; exact w10 p q hp hq
  · rw [e _ (by omega), e _ (by omega), e _ (by omega)]; exact w11 r hr
set_option maxRecDepth 20000 in
theorem RW.forget {K : KT} {VI : VIT} (h : RW 3 K VI) (hW : WF K) : RW 3 (ku K 95 0) (up VI 3 9 0) := by
  have h6 := hW.n
  have h8 : K 94 ≤ 8 := hW.2.1
  obtain ⟨w1, w2, w3, w4, w5, w6, w7, w8, w9, w10, w11, w12, w13, w14⟩ := h
  have e : ∀ i, i ≠ 95 → ku K 95 0 i = K i := fun i hi => ku_ne hi
  have hlm : lmK (ku K 95 0) = lmK K := by
    show mskN (fun r => ku K 95 0 (24 + r)) (ku K 95 0 93) = _
    rw [e 93 (by omega), mskN_congr (g := fun r => K (24 + r)) (fun r hr => e _ (by omega))]
  have hdm : dmK (ku K 95 0) = dmK K := by
    show mskN (fun r => ku K 95 0 (30 + r)) (ku K 95 0 94) = _
    rw [e 94 (by omega), mskN_congr (g := fun r => K (30 + r)) (fun r hr => e _ (by omega))]
  unfold RW
  rw [hlm, hdm, ku_same, e 93 (by omega), e 94 (by omega), e 96 (by omega), e 97 (by omega), e 38 (by omega), e 91 (by omega), e 92 (by omega)]
  refine ⟨w1, w2, w3, w4, rfl, w6, w7, fun p hp => ?_, fun p q hp hq => ?_, fun r hr => ?_, fun k hk => absurd hk (by omega), w12, w13, w14⟩
  · rw [e _ (by omega), e _ (by omega)]; exact w8 p hp
  · rw [e _ (by omega)]; exact w9 p q hp hq
  · rw [e _ (by omega), e _ (by omega)]; exact w10 r hr
-- the places of the tape
def tp (a k : Nat) : Bool := (Nat.beq a 0 && Nat.beq k 13) || (Nat.beq a 74 && Nat.beq k 13) || Nat.beq a 72 || Nat.beq a 81 || Nat.beq a 82
set_option maxRecDepth 20000 in
theorem tp_no {a : Nat} (h0 : a ≠ 0) (h1 : a ≠ 74) (h2 : a ≠ 72) (h3 : a ≠ 81) (h4 : a ≠ 82) (k : Nat) : tp a k = false := by
  have q : ∀ c, a ≠ c → Nat.beq a c = false := fun c hc => by
    cases e : Nat.beq a c with
    | false => rfl
    | true => exact absurd (Nat.eq_of_beq_eq_true e) hc
  simp only [tp, q 0 h0, q 74 h1, q 72 h2, q 81 h3, q 82 h4, Bool.false_and, Bool.or_false]
set_option maxRecDepth 20000 in
theorem St.tape {j : Nat} {ext : HL} {G : VRT} {K : KT} {tn tn' : Nat} {T T' : Nat → Nat} {u : Nat} {US : Nat → KT} {lg : Nat → Nat} {VI VI' : VIT} (h : St j ext G K tn T u US lg VI) (hF : ∀ a k, tp a k = false → VI' a k = VI a k) (hT : Tape tn' T' VI') : St (j + 1) ext G K tn' T' u US lg VI' := by
  obtain ⟨h1, h2, h3, h4, h5, h6, h7, h8, h9, h10, h11⟩ := h
  have hr : ∀ a, a ≠ 0 → a ≠ 74 → a ≠ 72 → a ≠ 81 → a ≠ 82 → VI' a = VI a := fun a q0 q1 q2 q3 q4 => funext (fun k => hF a k (tp_no q0 q1 q2 q3 q4 k))
  refine ⟨h1, h2.same (fun a _ _ => hr a (by omega) (by omega) (by omega) (by omega) (by omega)), ?_, ?_, hT, h6.same (hF 45 2 rfl) (hF 74 32 rfl) (hr 46 (by omega) (by omega) (by omega) (by omega) (by omega)) (hr 88 (by omega) (by omega) (by omega) (by omega) (by omega)), h7.same (hF 70 3 rfl) (hF 74 50 rfl) (hr 71 (by omega) (by omega) (by omega) (by omega) (by omega)) (hr 99 (by omega) (by omega) (by omega) (by omega) (by omega)), (h8.same (hF 63 6 rfl) (hr 65 (by omega) (by omega) (by omega) (by omega) (by omega))).next, h9.same (hF 0 12 rfl) (fun a _ _ => hr a (by omega) (by omega) (by omega) (by omega) (by omega)) (hr 77 (by omega) (by omega) (by omega) (by omega) (by omega)) (hr 78 (by omega) (by omega) (by omega) (by omega) (by omega)) (fun a _ => hr a (by omega) (by omega) (by omega) (by omega) (by omega)), h10.sameV h1.l6 (fun a _ => hr a (by omega) (by omega) (by omega) (by omega) (by omega)), ?_⟩
  · rw [hr 76 (by omega) (by omega) (by omega) (by omega) (by omega)]; exact h3
  · obtain ⟨m1, m2, m3, m4, m5⟩ := h4
    refine ⟨?_, ?_, ?_, ?_, fun k hk => ?_⟩
    · rw [hF 0 17 rfl, hF 74 0 rfl]; exact m1
    · rw [hF 0 14 rfl, hF 74 14 rfl]; exact m2
    · rw [hF 0 15 rfl, hF 74 6 rfl]; exact m3
    · rw [hF 0 16 rfl, hF 74 42 rfl]; exact m4
    · rw [hF 73 k rfl, hF 75 (k + 1) rfl]; exact m5 k hk
  · rw [hr 80 (by omega) (by omega) (by omega) (by omega) (by omega)]; exact h11
set_option maxRecDepth 20000 in
theorem lies_force {n : Nat} (hn : n ≤ 1000) (l : Int32) : liesF l (-1) (nI n - 1) = decide (l = -1 ∨ hasF (nI n) l = 1) := by
  rcases pk_ix l (n := n) (by omega) with h | h | ⟨i, h1, rfl⟩
  · rw [hasF_neg h]
    simp only [liesF, show ¬ (0 : Int32) = 1 by decide, or_false]
    congr 1
    rw [eq_iff_iff, ← Int32.toInt_inj]
    rw [Int32.lt_iff_toInt_lt] at h
    rw [Int32.lt_iff_toInt_lt, Int32.lt_iff_toInt_lt, show (nI n - 1 : Int32) = nI n - nI 1 from rfl, pk_sub_toInt (by omega) (by omega)]
    have e0 : (0 : Int32).toInt = 0 := rfl
    have e1 : (-1 : Int32).toInt = -1 := rfl
    omega
  · rw [hasF_big h]
    simp only [liesF, show ¬ (0 : Int32) = 1 by decide, or_false]
    congr 1
    rw [eq_iff_iff, ← Int32.toInt_inj]
    rw [Int32.le_iff_toInt_le, nI_toInt (by omega)] at h
    rw [Int32.lt_iff_toInt_lt, Int32.lt_iff_toInt_lt, show (nI n - 1 : Int32) = nI n - nI 1 from rfl, pk_sub_toInt (by omega) (by omega)]
    have e1 : (-1 : Int32).toInt = -1 := rfl
    omega
  · rw [hasF_in h1 (by omega)]
    simp only [or_true, decide_true, liesF, decide_eq_true_eq]
    rw [Int32.lt_iff_toInt_lt, Int32.lt_iff_toInt_lt, show (nI n - 1 : Int32) = nI n - nI 1 from rfl, pk_sub_toInt (by omega) (by omega), nI_toInt (by omega)]
    have e1 : (-1 : Int32).toInt = -1 := rfl
    omega
section Join4
variable {j : Nat} {lay : HL} {VI : VIT} {VL : VLT} {VR : VRT}
set_option maxRecDepth 20000 in
theorem j_forget (h : Inv j lay VI VL VR) : Pr 100 mi134 mi259 [] lay VI VL VR (Inv (j + 1)) := by
  obtain ⟨ext, G, K, tn, T, u, US, lg, rfl, rfl, hS⟩ := h
  have hW := hS.1
  have hX := hS.2.1
  have hM := hS.2.2.1
  have hMi := hS.2.2.2.1
  have hT := hS.2.2.2.2.1
  have hU := hS.2.2.2.2.2.1
  have h6 := hW.n
  have h8 : K 94 ≤ 8 := hW.2.1
  have h95 : K 95 ≤ 8 := hW.2.2.1
  have h96 := hW.l6
  refine ExS.budget (bc := 0) (bs := 0) (x_forget ⟨_, ext, rfl, rfl, m_forget ⟨?_, St.inv (hS.write (K' := ku K 95 0) (u' := u) (US' := US) (lg' := lg) (by repeat (first | exact Fr.refl | refine Fr.up ?_ rfl)) hW.forget ?_ ?_ ((hU.K (fun i hi => ku_ne (by omega)) (ku_ne (by omega)) (ku_ne (by omega))).same rfl rfl rfl rfl) hMi.1 (ku_ne (by omega)) (fun i hi => ku_ne (by omega)))⟩⟩) (by omega) (by omega)
  · rw [show up VI 3 9 0 76 95 = VI 76 95 from rfl, hM.at 95, hX.tn]
  · exact (hX.forget hW).same (fun a _ _ => up_ne (by omega))
  · exact RK.ku hM (by omega) rfl
set_option maxRecDepth 20000 in
theorem j_force {l : Int32} (h : Inv j lay VI VL VR) : Pr 100 mi122 mi215 [.int l] lay VI VL VR (Inv (j + 1)) := by
  obtain ⟨ext, G, K, tn, T, u, US, lg, rfl, rfl, hS⟩ := h
  have hW := hS.1
  have hX := hS.2.1
  have hM := hS.2.2.1
  have hMi := hS.2.2.2.1
  have hT := hS.2.2.2.2.1
  have hU := hS.2.2.2.2.2.1
  have h6 := hW.n
  have h8 : K 94 ≤ 8 := hW.2.1
  have h95 : K 95 ≤ 8 := hW.2.2.1
  have h96 := hW.l6
  have hl := lies_force (n := K 96) (by omega) l
  by_cases hb : l = -1 ∨ hasF (nI (K 96)) l = 1
  · have hv : ∃ v, v ≤ K 96 ∧ l = nI v - 1 := by
      rcases hb with z | z
      · exact ⟨0, by omega, z⟩
      · rcases has_cases (n := K 96) (by omega) l with y | ⟨i, y, rfl⟩
        · rw [y] at z; exact absurd z (by decide)
        · exact ⟨i + 1, by omega, (nI_pred i).symm⟩
    obtain ⟨v, hv1, hv2⟩ := hv
    have hl1 : liesF l (-1) (VI 76 96 - 1) = true := by rw [hM.at 96, hl, decide_eq_true_eq]; exact hb
    refine ExS.budget (bc := 0) (bs := 0) (x_force_ok (by rw [hX.ln]; exact hb) ⟨_, ext, rfl, rfl, m_force_ok hl1 ⟨?_, St.inv (hS.write (K' := ku K 97 v) (u' := u) (US' := US) (lg' := lg) (by repeat (first | exact Fr.refl | refine Fr.up ?_ rfl)) (hW.cong (fun i hi => ku_ne (by omega)) (by rw [ku_same]; exact hv1)) ?_ ?_ ((hU.K (fun i hi => ku_ne (by omega)) (ku_ne (by omega)) (ku_ne (by omega))).same rfl rfl rfl rfl) rfl (ku_ne (by omega)) (fun i hi => ku_ne (by omega)))⟩⟩) (by omega) (by omega)
    · rw [show up (up VI 3 15 l) 0 17 0 76 97 = VI 76 97 from rfl, hM.2, hX.fo]
    · refine hX.cong h6 h8 h95 (fun i hi => ku_ne (by omega)) ?_ (fun k hk => ?_) (fun a _ _ => ?_)
      · rw [ku_same, ← hv2]; rfl
      · rw [up_ne (by omega), up_ne (by omega), up_ne (by omega)]; exact up_at' hk
      · rw [up_ne (by omega), up_ne (by omega), up_ne (by omega), up_ne (by omega)]
    · exact rk97 hM hv2
  · have h1 : ¬ l = -1 := fun z => hb (Or.inl z)
    have h2 : hasF (nI (K 96)) l = 0 := (hasF_01 _ _).resolve_right (fun z => hb (Or.inr z))
    refine Pr_ref hS 1 (by omega) (-2) (fun P z => x_force_bad h1 (by rw [hX.ln]; exact h2) z) (fun P z => m_force_bad ?_ z)
    show liesF l (-1) (VI 76 96 - 1) = false
    rw [hM.at 96, hl, decide_eq_false_iff_not]; exact hb
set_option maxRecDepth 20000 in
theorem j_end {n : Int32} (h : Inv j lay VI VL VR) : Pr 100 mi115 mi189 [.int n] lay VI VL VR (Inv (j + 1)) := by
  obtain ⟨ext, G, K, tn, T, u, US, lg, rfl, rfl, hS⟩ := h
  have hW := hS.1
  have hX := hS.2.1
  have hM := hS.2.2.1
  have hMi := hS.2.2.2.1
  have hT := hS.2.2.2.2.1
  have hU := hS.2.2.2.2.2.1
  have h6 := hW.n
  have h8 : K 94 ≤ 8 := hW.2.1
  have h95 : K 95 ≤ 8 := hW.2.2.1
  have h96 := hW.l6
  by_cases hb : n < 0 ∨ ¬ n ≤ nI tn
  · exact Pr_read (-1) (fun P z => x_end_bad (by rw [hT.2.1]; exact hb) z) (fun P z => m_end_bad (by rw [hT.2.2.1]; exact hb) z) hS.next.inv
  · simp only [not_or, Decidable.not_not] at hb
    obtain ⟨h0, h1⟩ := hb
    obtain ⟨k, hk, rfl⟩ := nI_of2 (M := nI tn) (n := tn) (nI_toInt (by have := hT.1; omega)) h0 h1
    refine ExS.budget (bc := 0) (bs := 0) (x_end_ok h0 (by rw [hT.2.1]; exact h1) ⟨_, ext, rfl, rfl, m_end_ok h0 (show nI k ≤ VI 74 13 by rw [hT.2.2.1]; exact h1) ⟨rfl, St.inv (hS.tape (tn' := k) (T' := T) ?_ ?_)⟩⟩) (by omega) (by omega)
    · intro a i hw
      have h2 : ¬ (a = 74 ∧ i = 13) := by rintro ⟨rfl, rfl⟩; exact absurd hw (by decide)
      have h3 : ¬ (a = 0 ∧ i = 13) := by rintro ⟨rfl, rfl⟩; exact absurd hw (by decide)
      rw [up_ne2 h2, up_ne2 h3]
    · exact ⟨by have := hT.1; omega, rfl, rfl, fun i hi => hT.2.2.2 i (by omega)⟩
end Join4
