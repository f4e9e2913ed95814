/-! ===== the class reads: codes and what they tell ===== -/
set_option maxRecDepth 20000 in
theorem vm_fuel {nw L : Nat} {cd : Nat → Nat} {e : Nat → Int} : ∀ (f g i : Nat) (s : List Int), L + 1 ≤ i + f → 1 ≤ f → L + 1 ≤ i + g → 1 ≤ g → vm nw cd L e f i s = vm nw cd L e g i s
  | 0, _, _, _, _, h, _, _ => absurd h (by omega)
  | f + 1, g, i, s, h1, h2, h3, h4 => by
    obtain ⟨g, rfl⟩ : ∃ g', g = g' + 1 := ⟨g - 1, by omega⟩
    by_cases cx : i + 1 < L ∧ cd i ≠ 0
    · have ih : ∀ j s, i + 2 ≤ j → vm nw cd L e f j s = vm nw cd L e g j s := fun j s hj => vm_fuel f g j s (by omega) (by omega) (by omega) (by omega)
      by_cases c1 : cd i = 1
      · rw [vm_num cx c1, vm_num cx c1, ih (i + 2) _ (Nat.le_refl _)]
      by_cases c2 : cd i = 2
      · rw [vm_word cx c2, vm_word cx c2, ih (i + 2) _ (Nat.le_refl _)]
      cases s with
      | nil => rw [vm_nil cx c1 c2, vm_nil cx c1 c2]
      | cons a s1 =>
        by_cases c3 : cd i = 3
        · rw [vm_not cx c3, vm_not cx c3, ih (i + 2) _ (Nat.le_refl _)]
        have hj : i + 2 ≤ max i (cd (i + 1) - 2) + 2 := by omega
        by_cases c4 : cd i = 4
        · rw [vm_and cx c4, vm_and cx c4, ih (i + 2) _ (Nat.le_refl _), ih _ _ hj]
        by_cases c5 : cd i = 5
        · rw [vm_or cx c5, vm_or cx c5, ih (i + 2) _ (Nat.le_refl _), ih _ _ hj]
        cases s1 with
        | nil => rw [vm_one cx c1 c2 c3 c4 c5, vm_one cx c1 c2 c3 c4 c5]
        | cons q s2 =>
          rw [vm_jn cx c1 c2 c3 c4 c5, vm_jn cx c1 c2 c3 c4 c5]
          cases jn (cd i) q a with
          | none => rfl
          | some v => exact ih (i + 2) _ (Nat.le_refl _)
    · rw [vm_end cx, vm_end cx]
/-- the machine's fuel, shut up so that nothing counts it down -/
noncomputable def fuelC : Nat := Classical.choose (show ∃ n : Nat, n = 1000 from ⟨1000, rfl⟩)
set_option maxRecDepth 20000 in
theorem fuelC_eq : fuelC = 1000 := Classical.choose_spec (show ∃ n : Nat, n = 1000 from ⟨1000, rfl⟩)
noncomputable def runV (nw : Nat) (cd : Nat → Nat) (L : Nat) (e : Nat → Int) (i : Nat) (s : List Int) : Option Int := vm nw cd L e fuelC i s
section RunV
variable {nw L i j : Nat} {cd : Nat → Nat} {e : Nat → Int} {s : List Int} {a q : Int}
set_option maxRecDepth 20000 in
theorem run_eq : runV nw cd L e i s = vm nw cd L e 1000 i s := by
  unfold runV
  rw [fuelC_eq]
set_option maxRecDepth 20000 in
theorem run_from (hL : L ≤ 896) (hj : i + 2 ≤ j) : vm nw cd L e 999 j s = runV nw cd L e j s := (vm_fuel 999 1000 j s (by omega) (by omega) (by omega) (by omega)).trans run_eq.symm
set_option maxRecDepth 20000 in
theorem run_num (hL : L ≤ 896) (h : i + 1 < L) (c : cd i = 1) (hs : s.length < 64) : runV nw cd L e i s = runV nw cd L e (i + 2) ((cd (i + 1) : Int) :: s) := by
  rw [run_eq, show (1000 : Nat) = 999 + 1 from rfl, vm_num ⟨h, by omega⟩ c, if_neg (by omega)]
  exact run_from (i := i) hL (Nat.le_refl _)
set_option maxRecDepth 20000 in
theorem run_word (hL : L ≤ 896) (h : i + 1 < L) (c : cd i = 2) (hs : s.length < 64) (hw : cd (i + 1) < nw) : runV nw cd L e i s = runV nw cd L e (i + 2) (e (cd (i + 1)) :: s) := by
  rw [run_eq, show (1000 : Nat) = 999 + 1 from rfl, vm_word ⟨h, by omega⟩ c, if_neg (by omega)]
  exact run_from (i := i) hL (Nat.le_refl _)
set_option maxRecDepth 20000 in
theorem run_not (hL : L ≤ 896) (h : i + 1 < L) (c : cd i = 3) : runV nw cd L e i (a :: s) = runV nw cd L e (i + 2) ((1 - a) :: s) := by
  rw [run_eq, show (1000 : Nat) = 999 + 1 from rfl, vm_not ⟨h, by omega⟩ c]
  exact run_from (i := i) hL (Nat.le_refl _)
set_option maxRecDepth 20000 in
theorem run_and (hL : L ≤ 896) (h : i + 1 < L) (c : cd i = 4) (hj : cd (i + 1) = j) (h2 : i + 2 ≤ j) : runV nw cd L e i (a :: s) = if a = 0 then runV nw cd L e j (a :: s) else runV nw cd L e (i + 2) s := by
  rw [run_eq, show (1000 : Nat) = 999 + 1 from rfl, vm_and ⟨h, by omega⟩ c, hj, show max i (j - 2) + 2 = j by omega, run_from (i := i) hL h2, run_from (i := i) hL (Nat.le_refl _)]
set_option maxRecDepth 20000 in
theorem run_or (hL : L ≤ 896) (h : i + 1 < L) (c : cd i = 5) (hj : cd (i + 1) = j) (h2 : i + 2 ≤ j) : runV nw cd L e i (a :: s) = if a = 0 then runV nw cd L e (i + 2) s else runV nw cd L e j (a :: s) := by
  rw [run_eq, show (1000 : Nat) = 999 + 1 from rfl, vm_or ⟨h, by omega⟩ c, hj, show max i (j - 2) + 2 = j by omega, run_from (i := i) hL h2, run_from (i := i) hL (Nat.le_refl _)]
set_option maxRecDepth 20000 in
theorem run_jn (hL : L ≤ 896) (h : i + 1 < L) (c : 5 < cd i) : runV nw cd L e i (a :: q :: s) = (jn (cd i) q a).bind (fun v => runV nw cd L e (i + 2) (v :: s)) := by
  rw [run_eq, show (1000 : Nat) = 999 + 1 from rfl, vm_jn ⟨h, by omega⟩ (by omega) (by omega) (by omega) (by omega) (by omega)]
  rw [show (fun v => vm nw cd L e 999 (i + 2) (v :: s)) = (fun v => runV nw cd L e (i + 2) (v :: s)) from funext (fun v => run_from (i := i) hL (Nat.le_refl _))]
set_option maxRecDepth 20000 in
theorem run_end (c : cd i = 0) : runV nw cd L e i s = fin1 s := by
  rw [run_eq, show (1000 : Nat) = 999 + 1 from rfl, vm_end (fun z => z.2 c)]
end RunV
