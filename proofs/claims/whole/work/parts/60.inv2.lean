/-! ===== the invariant's pieces ===== -/
/-- what both sides keep in fields and counts -/
def Misc (VI : VIT) : Prop := VI 0 17 = VI 74 0 ∧ VI 0 14 = VI 74 14 ∧ VI 0 15 = VI 74 6 ∧ VI 0 16 = VI 74 42 ∧ ∀ k, k < 6 → VI 73 k = VI 75 (k + 1)
/-- the tape: tn bytes T -/
def Tape (tn : Nat) (T : Nat → Nat) (VI : VIT) : Prop := tn ≤ 400 ∧ VI 0 13 = nI tn ∧ VI 74 13 = nI tn ∧ ∀ k, k < tn → T k < 256 ∧ VI 72 k = nI (T k) ∧ VI 81 k = (nI (T k)).toInt8.toInt32
/-- what a row of the log takes back: from A to B -/
def Undoes (n rn : Nat) (g : Nat) (A B : KT) : Prop :=
  (g % 4 = 0 ∧ ∃ dy p q m, dy < 4 ∧ p < n ∧ q < n ∧ p ≠ q ∧ m < 16 ∧ g / 4 = ((dy * 8 + p) * 8 + q) * 16 + m ∧ B (4 * p + dy) = m / 4 ∧ B (4 * q + dy) = m % 4 ∧ ∀ k, k < 39 → k ≠ 4 * p + dy → k ≠ 4 * q + dy → B k = A k) ∨
  (g % 4 = 1 ∧ g / 4 < rn ∧ A (30 + g / 4) = 1 ∧ B (30 + g / 4) = 0 ∧ ∀ k, k < 39 → k ≠ 30 + g / 4 → B k = A k) ∨
  (g % 4 = 2 ∧ g / 4 < n ∧ A (24 + g / 4) = 0 ∧ B (24 + g / 4) = 1 ∧ ∀ k, k < 39 → k ≠ 24 + g / 4 → B k = A k) ∨
  (g = 3 ∧ A 38 = B 38 + 1 ∧ ∀ k, k < 38 → B k = A k)
/-- the deeds that can be undone: u of them, US i the row ahead of the i-th, lg i its row in the log -/
def Und (K : KT) (u : Nat) (US : Nat → KT) (lg : Nat → Nat) (VI : VIT) : Prop :=
  u ≤ 16 ∧ VI 45 2 = nI u ∧ VI 74 32 = nI u ∧ (∀ k, k < 39 → US u k = K k) ∧
  ∀ i, i < u → VI 46 i = nI (lg i) ∧ lg i < 65536 ∧ VI 88 (40 * i + 39) = nI (lg i % 4) ∧ (∀ k, k < 39 → VI 88 (40 * i + k) = nI (US i k)) ∧ Undoes (K 93) (K 94) (lg i) (US (i + 1)) (US i)
/-- the drawn marks -/
def Drawn (VI : VIT) : Prop := (VI 70 3 = 0 ∧ VI 74 50 = -1) ∨ ∃ n, n ≤ 6 ∧ VI 70 3 = nI n ∧ VI 74 50 = nI n ∧ ∀ k, k < 4 * n → VI 71 k = VI 99 k
/-- the search's stamp -/
def Stamp (j : Nat) (VI : VIT) : Prop := ∃ s, s ≤ 66 * j ∧ VI 63 6 = nI s ∧ ∀ k, k < 4096 → ∃ x, x ≤ s ∧ VI 65 k = nI x
set_option maxRecDepth 20000 in
theorem Misc.same {VI VI' : VIT} (h : Misc VI) (e0 : ∀ k, 14 ≤ k → VI' 0 k = VI 0 k) (e1 : ∀ k, (k = 0 ∨ k = 14 ∨ k = 6 ∨ k = 42) → VI' 74 k = VI 74 k) (e2 : VI' 73 = VI 73) (e3 : VI' 75 = VI 75) : Misc VI' := by
  unfold Misc at h ⊢
  rw [e0 17 (by omega), e0 14 (by omega), e0 15 (by omega), e0 16 (by omega), e1 0 (by omega), e1 14 (by omega), e1 6 (by omega), e1 42 (by omega), e2, e3]
  exact h
set_option maxRecDepth 20000 in
theorem Tape.same {tn : Nat} {T : Nat → Nat} {VI VI' : VIT} (h : Tape tn T VI) (e0 : VI' 0 13 = VI 0 13) (e1 : VI' 74 13 = VI 74 13) (e2 : VI' 72 = VI 72) (e3 : VI' 81 = VI 81) : Tape tn T VI' := by
  unfold Tape at h ⊢
  rw [e0, e1, e2, e3]
  exact h
set_option maxRecDepth 20000 in
theorem Und.same {K : KT} {u : Nat} {US : Nat → KT} {lg : Nat → Nat} {VI VI' : VIT} (h : Und K u US lg VI) (e0 : VI' 45 2 = VI 45 2) (e1 : VI' 74 32 = VI 74 32) (e2 : VI' 46 = VI 46) (e3 : VI' 88 = VI 88) : Und K u US lg VI' := by
  unfold Und at h ⊢
  rw [e0, e1, e2, e3]
  exact h
set_option maxRecDepth 20000 in
theorem Drawn.same {VI VI' : VIT} (h : Drawn VI) (e0 : VI' 70 3 = VI 70 3) (e1 : VI' 74 50 = VI 74 50) (e2 : VI' 71 = VI 71) (e3 : VI' 99 = VI 99) : Drawn VI' := by
  unfold Drawn at h ⊢
  rw [e0, e1, e2, e3]
  exact h
set_option maxRecDepth 20000 in
theorem Stamp.same {j : Nat} {VI VI' : VIT} (h : Stamp j VI) (e0 : VI' 63 6 = VI 63 6) (e1 : VI' 65 = VI 65) : Stamp j VI' := by
  unfold Stamp at h ⊢
  rw [e0, e1]
  exact h
set_option maxRecDepth 20000 in
theorem Und.none {K : KT} {VI : VIT} (h0 : VI 45 2 = 0) (h1 : VI 74 32 = 0) : Und K 0 (fun _ => K) (fun _ => 0) VI := ⟨by omega, h0, h1, fun _ _ => rfl, fun i hi => absurd hi (by omega)⟩
