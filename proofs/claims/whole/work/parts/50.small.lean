/-! ===== small facts ===== -/
theorem hasF_z (p : Int32) : hasF 0 p = 0 := by
  unfold hasF
  split
  · rfl
  · rename_i h
    rw [if_pos (Int32.not_lt.mp h)]
theorem dayEq (e : Int32) : b1 (liesF e 0 3) = hasF 4 e := by
  unfold hasF liesF b1
  by_cases h1 : e < 0
  · simp [h1]
  · have h3 : (3 < e) ↔ 4 ≤ e := by
      rw [Int32.lt_iff_toInt_lt, Int32.le_iff_toInt_le]
      have e3 : (3 : Int32).toInt = 3 := rfl
      have e4 : (4 : Int32).toInt = 4 := rfl
      omega
    by_cases h4 : 4 ≤ e <;> simp [h1, h3, h4]
theorem three {w : Int32} (h1 : ¬ w < 0) (h2 : ¬ 3 ≤ w) : w = 0 ∨ w = 1 ∨ w = 2 := by
  rw [Int32.lt_iff_toInt_lt] at h1
  rw [Int32.le_iff_toInt_le] at h2
  have e3 : (3 : Int32).toInt = 3 := rfl
  have e2 : (2 : Int32).toInt = 2 := rfl
  have e0 : (0 : Int32).toInt = 0 := rfl
  have e1 : (1 : Int32).toInt = 1 := rfl
  have h3 : w.toInt = 0 ∨ w.toInt = 1 ∨ w.toInt = 2 := by omega
  rcases h3 with h | h | h
  · exact Or.inl (Int32.toInt_inj.mp (h.trans e0.symm))
  · exact Or.inr (Or.inl (Int32.toInt_inj.mp (h.trans e1.symm)))
  · exact Or.inr (Or.inr (Int32.toInt_inj.mp (h.trans e2.symm)))
theorem nI_back {a : Int32} (h0 : ¬ a < 0) : ∃ k : Nat, a = nI k ∧ (k : Int) = a.toInt := by
  have h : 0 ≤ a.toInt := by rw [Int32.lt_iff_toInt_lt] at h0; have e0 : (0 : Int32).toInt = 0 := rfl; omega
  refine ⟨a.toInt.toNat, ?_, by omega⟩
  have h2 := a.toInt_lt
  apply Int32.toInt_inj.mp
  rw [nI_toInt (by omega)]
  omega
theorem in17 {a : Int32} (h0 : ¬ a < 0) (h1 : ¬ 17 ≤ a) : ∃ k : Nat, k < 17 ∧ a = nI k := by
  obtain ⟨k, e, hk⟩ := nI_back h0
  exact ⟨k, by rw [Int32.le_iff_toInt_le] at h1; have e0 : (17 : Int32).toInt = 17 := rfl; omega, e⟩
theorem in3 {a : Int32} (h0 : ¬ a < 0) (h1 : ¬ 3 ≤ a) : a = 0 ∨ a = 1 ∨ a = 2 := by
  obtain ⟨k, e, hk⟩ := nI_back h0
  have : k < 3 := by rw [Int32.le_iff_toInt_le] at h1; have e0 : (3 : Int32).toInt = 3 := rfl; omega
  match k, this with
  | 0, _ => exact Or.inl e
  | 1, _ => exact Or.inr (Or.inl e)
  | 2, _ => exact Or.inr (Or.inr e)
theorem in2 {a : Int32} (h0 : ¬ a < 0) (h1 : ¬ 2 ≤ a) : a = 0 ∨ a = 1 := by
  obtain ⟨k, e, hk⟩ := nI_back h0
  have : k < 2 := by rw [Int32.le_iff_toInt_le] at h1; have e0 : (2 : Int32).toInt = 2 := rfl; omega
  match k, this with
  | 0, _ => exact Or.inl e
  | 1, _ => exact Or.inr e
