/-! ===== the state of both sides: K is the model's kept row as Nats (force as one more) ===== -/
abbrev KT : Type := Nat → Nat
/-- a mask of the bits f i -/
def mskN (f : Nat → Nat) : Nat → Nat
  | 0 => 0
  | i + 1 => mskN f i + f i * 2 ^ i
theorem mskN_lt {f : Nat → Nat} : ∀ {n : Nat}, (∀ i, i < n → f i ≤ 1) → mskN f n < 2 ^ n
  | 0, _ => by simp [mskN]
  | n + 1, h => by
    have h1 := mskN_lt (f := f) (n := n) (fun i hi => h i (by omega))
    have h2 := h n (by omega)
    have h3 : f n * 2 ^ n ≤ 1 * 2 ^ n := Nat.mul_le_mul_right _ h2
    simp only [mskN, Nat.pow_succ]
    omega
theorem mskN_bit {f : Nat → Nat} : ∀ {n : Nat}, (∀ i, i < n → f i ≤ 1) → ∀ i, i < n → (mskN f n).testBit i = decide (f i = 1)
  | 0, _, i, hi => by omega
  | n + 1, h, i, hi => by
    have hlt := mskN_lt (f := f) (n := n) (fun i hi => h i (by omega))
    have h2 := h n (by omega)
    simp only [mskN]
    by_cases e : i = n
    · subst e
      rcases (show f i = 0 ∨ f i = 1 by omega) with q | q
      · rw [q, Nat.zero_mul, Nat.add_zero, Nat.testBit_lt_two_pow hlt]; simp
      · rw [q, Nat.one_mul, Nat.add_comm, Nat.testBit_two_pow_add_eq, Nat.testBit_lt_two_pow hlt]; simp
    · have ih := mskN_bit (f := f) (n := n) (fun i hi => h i (by omega)) i (by omega)
      rcases (show f n = 0 ∨ f n = 1 by omega) with q | q
      · rw [q, Nat.zero_mul, Nat.add_zero]; exact ih
      · rw [q, Nat.one_mul, Nat.add_comm, Nat.testBit_two_pow_add_gt (by omega)]; exact ih
abbrev lmK (K : KT) : Nat := mskN (fun p => K (24 + p)) (K 93)
abbrev dmK (K : KT) : Nat := mskN (fun r => K (30 + r)) (K 94)
/-- what can stand in a row of the model -/
def WF (K : KT) : Prop :=
  K 93 ≤ 6 ∧ K 94 ≤ 8 ∧ K 95 ≤ 8 ∧ K 96 ≤ 6 ∧ K 97 ≤ K 96 ∧ K 38 ≤ 999 ∧ K 91 ≤ 10 ∧ K 92 ≤ 9 ∧
  (∀ p, p < K 93 → K (24 + p) ≤ 1 ∧ K (39 + p) ≤ 9 ∧ K (45 + p) ≤ 99) ∧ (∀ p q, p < K 93 → q < 4 → K (4 * p + q) < 4) ∧
  (∀ r, r < K 94 → K (30 + r) ≤ 1 ∧ K (51 + r) < 4 ∧ 0 < K (59 + r) ∧ K (59 + r) < 2 ^ K 93) ∧
  (∀ k, k < K 95 → K (67 + 3 * k) < K (68 + 3 * k) ∧ K (68 + 3 * k) < K 93 ∧ K (69 + 3 * k) < 4)
/-- the class's world at w holds K -/
def RW (w : Nat) (K : KT) (VI : VIT) : Prop :=
  VI w 0 = nI (K 93) ∧ VI w 1 = nI (lmK K) ∧ VI w 5 = nI (K 94) ∧ VI w 6 = nI (dmK K) ∧ VI w 9 = nI (K 95) ∧ VI w 14 = nI (K 96) ∧ VI w 15 = nI (K 97) - 1 ∧
  (∀ p, p < K 93 → VI (w + 1) p = nI (K (39 + p)) ∧ VI (w + 2) p = nI (K (45 + p))) ∧ (∀ p q, p < K 93 → q < 4 → VI (w + 3) (p * 4 + q) = nI (K (4 * p + q))) ∧
  (∀ r, r < K 94 → VI (w + 4) r = nI (K (51 + r)) ∧ VI (w + 5) r = nI (K (59 + r))) ∧
  (∀ k, k < K 95 → ((VI (w + 6) k = nI (K (67 + 3 * k)) ∧ VI (w + 7) k = nI (K (68 + 3 * k))) ∨ (VI (w + 6) k = nI (K (68 + 3 * k)) ∧ VI (w + 7) k = nI (K (67 + 3 * k)))) ∧ VI (w + 8) k = nI (K (69 + 3 * k))) ∧
  VI (w + 9) 0 = nI (K 38) ∧ VI (w + 9) 1 = nI (K 91) ∧ VI (w + 9) 2 = nI (K 92)
/-- a row of the model holds K -/
def RK (f : Nat → Int32) (K : KT) : Prop := (∀ i, i < 5705 → i ≠ 97 → f i = nI (K i)) ∧ f 97 = nI (K 97) - 1
theorem WF.n {K : KT} (h : WF K) : K 93 ≤ 6 := h.1
theorem WF.lm {K : KT} (h : WF K) : lmK K < 64 := Nat.lt_of_lt_of_le (mskN_lt (fun p hp => (h.2.2.2.2.2.2.2.2.1 p hp).1)) (Nat.le_trans (Nat.pow_le_pow_right (by omega) h.1) (by decide))
theorem WF.dm {K : KT} (h : WF K) : dmK K < 256 := Nat.lt_of_lt_of_le (mskN_lt (fun r hr => (h.2.2.2.2.2.2.2.2.2.2.1 r hr).1)) (Nat.le_trans (Nat.pow_le_pow_right (by omega) h.2.1) (by decide))
theorem RW.same {w : Nat} {K : KT} {VI VI' : VIT} (h : RW w K VI) (e : ∀ a, w ≤ a → a ≤ w + 9 → VI' a = VI a) : RW w K VI' := by
  unfold RW at h ⊢
  rw [e w (by omega) (by omega), e (w + 1) (by omega) (by omega), e (w + 2) (by omega) (by omega), e (w + 3) (by omega) (by omega), e (w + 4) (by omega) (by omega), e (w + 5) (by omega) (by omega), e (w + 6) (by omega) (by omega), e (w + 7) (by omega) (by omega), e (w + 8) (by omega) (by omega), e (w + 9) (by omega) (by omega)]
  exact h
/-- a change of the row at places that the statement on K follows -/
theorem RK.set {f g : Nat → Int32} {K K' : KT} (h : RK f K) (e : ∀ i, i < 5705 → i ≠ 97 → (g i = f i ∧ K' i = K i) ∨ g i = nI (K' i)) (e2 : (g 97 = f 97 ∧ K' 97 = K 97) ∨ g 97 = nI (K' 97) - 1) : RK g K' := by
  refine ⟨fun i hi hn => ?_, ?_⟩
  · rcases e i hi hn with ⟨h1, h2⟩ | h1
    · rw [h1, h2]; exact h.1 i hi hn
    · exact h1
  · rcases e2 with ⟨h1, h2⟩ | h1
    · rw [h1, h2]; exact h.2
    · exact h1
