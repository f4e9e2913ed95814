/-! ===== the class reads: codes and what they tell ===== -/
set_option maxRecDepth 20000 in
theorem vm_fuel {nw L : Nat} {cd : Nat → Nat} {e : Nat → Int} : ∀ (f g i : Nat) (s : List Int), L + 1 ≤ i + f → 1 ≤ f → L + 1 ≤ i + g → 1 ≤ g → vm nw cd L e f i s = vm nw cd L e g i s
  | 0, _, _, _, _, h, _, _ => absurd h (by omega)
  | f + 1, g, i, s, h1, h2, h3, h4 => by
    obtain ⟨g, rfl⟩ : ∃ g', g = g' + 1 := ⟨g - 1, by omega⟩
    by_cases cx : i + 1 < L ∧ cd i ≠ 0
    · have ih : ∀ j s, i + 2 ≤ j → vm nw cd L e f j s = vm nw cd L e g j s := fun j s hj => vm_fuel f g j s (by omega) (by omega) (by omega) (by omega)
      by_cases c1 : cd i = 1
      · rw [vm_num cx c1, vm_num cx c1, ih (i + 2) _ (Nat.le_refl _)]
      by_cases c2 : cd i = 2
      · rw [vm_word cx c2, vm_word cx c2, ih (i + 2) _ (Nat.le_refl _)]
      cases s with
      | nil => rw [vm_nil cx c1 c2, vm_nil cx c1 c2]
      | cons a s1 =>
        by_cases c3 : cd i = 3
        · rw [vm_not cx c3, vm_not cx c3, ih (i + 2) _ (Nat.le_refl _)]
        have hj : i + 2 ≤ max i (cd (i + 1) - 2) + 2 := by omega
        by_cases c4 : cd i = 4
        · rw [vm_and cx c4, vm_and cx c4, ih (i + 2) _ (Nat.le_refl _), ih _ _ hj]
        by_cases c5 : cd i = 5
        · rw [vm_or cx c5, vm_or cx c5, ih (i + 2) _ (Nat.le_refl _), ih _ _ hj]
        cases s1 with
        | nil => rw [vm_one cx c1 c2 c3 c4 c5, vm_one cx c1 c2 c3 c4 c5]
        | cons q s2 =>
          rw [vm_jn cx c1 c2 c3 c4 c5, vm_jn cx c1 c2 c3 c4 c5]
          cases jn (cd i) q a with
          | none => rfl
          | some v => exact ih (i + 2) _ (Nat.le_refl _)
    · rw [vm_end cx, vm_end cx]
def runV (nw : Nat) (cd : Nat → Nat) (L : Nat) (e : Nat → Int) (i : Nat) (s : List Int) : Option Int := vm nw cd L e 1000 i s
section RunV
variable {nw L i j : Nat} {cd : Nat → Nat} {e : Nat → Int} {s : List Int} {a q : Int}
set_option maxRecDepth 20000 in
theorem run_from (hL : L ≤ 896) (hj : i + 2 ≤ j) : vm nw cd L e 999 j s = runV nw cd L e j s := vm_fuel 999 1000 j s (by omega) (by omega) (by omega) (by omega)
set_option maxRecDepth 20000 in
theorem run_num (hL : L ≤ 896) (h : i + 1 < L) (c : cd i = 1) (hs : s.length < 64) : runV nw cd L e i s = runV nw cd L e (i + 2) ((cd (i + 1) : Int) :: s) := (vm_num (f := 999) ⟨h, by omega⟩ c).trans ((if_neg (by omega)).trans (run_from (i := i) hL (Nat.le_refl _)))
set_option maxRecDepth 20000 in
theorem run_word (hL : L ≤ 896) (h : i + 1 < L) (c : cd i = 2) (hs : s.length < 64) (hw : cd (i + 1) < nw) : runV nw cd L e i s = runV nw cd L e (i + 2) (e (cd (i + 1)) :: s) := (vm_word (f := 999) ⟨h, by omega⟩ c).trans ((if_neg (by omega)).trans (run_from (i := i) hL (Nat.le_refl _)))
set_option maxRecDepth 20000 in
theorem run_not (hL : L ≤ 896) (h : i + 1 < L) (c : cd i = 3) : runV nw cd L e i (a :: s) = runV nw cd L e (i + 2) ((1 - a) :: s) := (vm_not (f := 999) ⟨h, by omega⟩ c).trans (run_from (i := i) hL (Nat.le_refl _))
set_option maxRecDepth 20000 in
theorem run_and (hL : L ≤ 896) (h : i + 1 < L) (c : cd i = 4) (hj : cd (i + 1) = j) (h2 : i + 2 ≤ j) : runV nw cd L e i (a :: s) = if a = 0 then runV nw cd L e j (a :: s) else runV nw cd L e (i + 2) s := by
  refine (vm_and (f := 999) ⟨h, by omega⟩ c).trans ?_
  rw [hj, show max i (j - 2) + 2 = j by omega, run_from (i := i) hL h2, run_from (i := i) hL (Nat.le_refl _)]
set_option maxRecDepth 20000 in
theorem run_or (hL : L ≤ 896) (h : i + 1 < L) (c : cd i = 5) (hj : cd (i + 1) = j) (h2 : i + 2 ≤ j) : runV nw cd L e i (a :: s) = if a = 0 then runV nw cd L e (i + 2) s else runV nw cd L e j (a :: s) := by
  refine (vm_or (f := 999) ⟨h, by omega⟩ c).trans ?_
  rw [hj, show max i (j - 2) + 2 = j by omega, run_from (i := i) hL h2, run_from (i := i) hL (Nat.le_refl _)]
set_option maxRecDepth 20000 in
theorem run_jn (hL : L ≤ 896) (h : i + 1 < L) (c : 5 < cd i) : runV nw cd L e i (a :: q :: s) = (jn (cd i) q a).bind (fun v => runV nw cd L e (i + 2) (v :: s)) := by
  refine (vm_jn (f := 999) ⟨h, by omega⟩ (by omega) (by omega) (by omega) (by omega) (by omega)).trans ?_
  congr 1
  funext v
  exact run_from (i := i) hL (Nat.le_refl _)
set_option maxRecDepth 20000 in
theorem run_end (c : cd i = 0) : runV nw cd L e i s = fin1 s := vm_end (f := 999) (fun z => z.2 c)
end RunV
/-- the code as Nats -/
def cdv (V : VIT) (k : Nat) : Nat := (V 40 k).toInt.toNat
set_option maxRecDepth 20000 in
theorem cdv_eq {V : VIT} {k c : Nat} (h : V 40 k = nI c) (hc : c < 2147483648) : cdv V k = c := by
  unfold cdv
  rw [h, nI_toInt hc]
  rfl
set_option maxRecDepth 20000 in
theorem cdv_ok {V : VIT} {k c : Nat} (h : V 40 k = nI c) (hc : c < 1000000) : V 40 k = nI (cdv V k) ∧ cdv V k < 1000000 := by
  rw [cdv_eq h (by omega)]
  exact ⟨h, hc⟩
set_option maxRecDepth 20000 in
theorem cdv_same {V V' : VIT} {k : Nat} (h : V' 40 k = V 40 k) : cdv V' k = cdv V k := by unfold cdv; rw [h]
/-- the code from l to l' tells x, h places of the stack are enough -/
def Seg (nw h : Nat) (wm : Nat → Nat) (V : VIT) (l l' : Nat) (x : Den) : Prop := l ≤ l' ∧ (∀ k, l ≤ k → k < l' → V 40 k = nI (cdv V k) ∧ cdv V k < 1000000) ∧ ∀ (cd : Nat → Nat) (L : Nat) (e : Env) (s : List Int), L ≤ 896 → l' ≤ L → (∀ k, l ≤ k → k < l' → cd k = cdv V k) → s.length + h ≤ 64 → runV nw cd L (fun k => e (wm k)) l s = (x e).bind (fun v => runV nw cd L (fun k => e (wm k)) l' (v :: s))
section SegS
variable {nw h h' l l1 l2 l' : Nat} {wm : Nat → Nat} {V V' : VIT} {x y : Den}
set_option maxRecDepth 20000 in
theorem Seg.same (hs : Seg nw h wm V l l' x) (hV : ∀ k, l ≤ k → k < l' → V' 40 k = V 40 k) : Seg nw h wm V' l l' x := by
  obtain ⟨h1, h2, h3⟩ := hs
  refine ⟨h1, fun k a b => ?_, fun cd L e s q1 q2 q3 q4 => h3 cd L e s q1 q2 (fun k a b => ?_) q4⟩
  · rw [cdv_same (hV k a b), hV k a b]; exact h2 k a b
  · rw [← cdv_same (hV k a b)]; exact q3 k a b
set_option maxRecDepth 20000 in
theorem Seg.mono (hs : Seg nw h wm V l l' x) (hh : h ≤ h') : Seg nw h' wm V l l' x := ⟨hs.1, hs.2.1, fun cd L e s q1 q2 q3 q4 => hs.2.2 cd L e s q1 q2 q3 (by omega)⟩
set_option maxRecDepth 20000 in
theorem Seg.num {v : Nat} (h0 : V 40 l = nI 1) (h1 : V 40 (l + 1) = nI v) (hv : v < 1000000) (hh : 1 ≤ h) : Seg nw h wm V l (l + 2) (dNum v) := by
  refine ⟨by omega, fun k a b => ?_, fun cd L e s q1 q2 q3 q4 => ?_⟩
  · by_cases c : k = l
    · rw [c]; exact cdv_ok h0 (by omega)
    · rw [show k = l + 1 by omega]; exact cdv_ok h1 hv
  · have e0 := q3 l (Nat.le_refl _) (by omega)
    have e1 := q3 (l + 1) (by omega) (by omega)
    rw [cdv_eq h0 (by omega)] at e0
    rw [cdv_eq h1 (by omega)] at e1
    rw [run_num q1 (by omega) e0 (by omega), e1]
    rfl
set_option maxRecDepth 20000 in
theorem Seg.word {w m : Nat} (h0 : V 40 l = nI 2) (h1 : V 40 (l + 1) = nI w) (hw : w < nw) (hw2 : w < 1000) (hm : wm w = m) (hh : 1 ≤ h) : Seg nw h wm V l (l + 2) (dWord m) := by
  refine ⟨by omega, fun k a b => ?_, fun cd L e s q1 q2 q3 q4 => ?_⟩
  · by_cases c : k = l
    · rw [c]; exact cdv_ok h0 (by omega)
    · rw [show k = l + 1 by omega]; exact cdv_ok h1 (by omega)
  · have e0 := q3 l (Nat.le_refl _) (by omega)
    have e1 := q3 (l + 1) (by omega) (by omega)
    rw [cdv_eq h0 (by omega)] at e0
    rw [cdv_eq h1 (by omega)] at e1
    rw [run_word q1 (by omega) e0 (by omega) (by rw [e1]; exact hw), e1, hm]
    rfl
-- two codes behind one another, an instruction behind them
set_option maxRecDepth 20000 in
theorem seg_cells {op v : Nat} (ha : ∀ k, l ≤ k → k < l1 → V 40 k = nI (cdv V k) ∧ cdv V k < 1000000) (h0 : V 40 l1 = nI op) (h1 : V 40 (l1 + 1) = nI v) (hop : op < 1000000) (hv : v < 1000000) : ∀ k, l ≤ k → k < l1 + 2 → V 40 k = nI (cdv V k) ∧ cdv V k < 1000000 := by
  intro k a b
  by_cases c : k < l1
  · exact ha k a c
  · by_cases c2 : k = l1
    · rw [c2]; exact cdv_ok h0 hop
    · rw [show k = l1 + 1 by omega]; exact cdv_ok h1 hv
set_option maxRecDepth 20000 in
theorem Seg.not (hs : Seg nw h wm V l l1 x) (h0 : V 40 l1 = nI 3) (h1 : V 40 (l1 + 1) = nI 0) : Seg nw h wm V l (l1 + 2) (dNot x) := by
  have hll := hs.1
  refine ⟨by omega, seg_cells hs.2.1 h0 h1 (by omega) (by omega), fun cd L e s q1 q2 q3 q4 => ?_⟩
  have e0 := q3 l1 hll (by omega)
  rw [cdv_eq h0 (by omega)] at e0
  rw [hs.2.2 cd L e s q1 (by omega) (fun k a b => q3 k a (by omega)) q4]
  unfold dNot
  cases x e with
  | none => rfl
  | some a => exact run_not q1 (by omega) e0
set_option maxRecDepth 20000 in
theorem Seg.bin {op : Nat} (hs : Seg nw h wm V l l1 x) (ht : Seg nw h' wm V l1 l2 y) (hh : h' + 1 ≤ h) (h0 : V 40 l2 = nI op) (h1 : V 40 (l2 + 1) = nI 0) (ho : 5 < op) (ho2 : op < 1000000) : Seg nw h wm V l (l2 + 2) (dBin op x y) := by
  have hll := hs.1
  have hll2 := ht.1
  refine ⟨by omega, seg_cells (fun k a b => ?_) h0 h1 ho2 (by omega), fun cd L e s q1 q2 q3 q4 => ?_⟩
  · by_cases c : k < l1
    · exact hs.2.1 k a c
    · exact ht.2.1 k (by omega) b
  have e0 := q3 l2 (by omega) (by omega)
  rw [cdv_eq h0 (by omega)] at e0
  rw [hs.2.2 cd L e s q1 (by omega) (fun k a b => q3 k a (by omega)) q4]
  unfold dBin
  cases x e with
  | none => rfl
  | some a =>
    show runV nw cd L (fun k => e (wm k)) l1 (a :: s) = ((y e).bind (fun b => jn op a b)).bind (fun v => runV nw cd L (fun k => e (wm k)) (l2 + 2) (v :: s))
    rw [ht.2.2 cd L e (a :: s) q1 (by omega) (fun k a b => q3 k (by omega) (by omega)) (by simp only [List.length_cons]; omega)]
    cases y e with
    | none => rfl
    | some b =>
      show runV nw cd L (fun k => e (wm k)) l2 (b :: a :: s) = (jn op a b).bind (fun v => runV nw cd L (fun k => e (wm k)) (l2 + 2) (v :: s))
      rw [run_jn q1 (by omega) (by omega), e0]
set_option maxRecDepth 20000 in
theorem Seg.and (hs : Seg nw h wm V l l1 x) (h0 : V 40 l1 = nI 4) (h1 : V 40 (l1 + 1) = nI l2) (ht : Seg nw h wm V (l1 + 2) l2 y) (hl : l2 < 1000000) : Seg nw h wm V l l2 (dAnd x y) := by
  have hll := hs.1
  have hll2 := ht.1
  have hc := seg_cells hs.2.1 h0 h1 (by omega) hl
  refine ⟨by omega, fun k a b => ?_, fun cd L e s q1 q2 q3 q4 => ?_⟩
  · by_cases c : k < l1 + 2
    · exact hc k a c
    · exact ht.2.1 k (by omega) b
  have e0 := q3 l1 (by omega) (by omega)
  have e1 := q3 (l1 + 1) (by omega) (by omega)
  rw [cdv_eq h0 (by omega)] at e0
  rw [cdv_eq h1 (by omega)] at e1
  rw [hs.2.2 cd L e s q1 (by omega) (fun k a b => q3 k a (by omega)) q4]
  unfold dAnd
  cases x e with
  | none => rfl
  | some a =>
    show runV nw cd L (fun k => e (wm k)) l1 (a :: s) = (if a = 0 then some a else y e).bind (fun v => runV nw cd L (fun k => e (wm k)) l2 (v :: s))
    rw [run_and q1 (by omega) e0 e1 hll2]
    by_cases az : a = 0
    · rw [if_pos az, if_pos az]; rfl
    · rw [if_neg az, if_neg az]
      exact ht.2.2 cd L e s q1 (by omega) (fun k a b => q3 k (by omega) (by omega)) q4
set_option maxRecDepth 20000 in
theorem Seg.or (hs : Seg nw h wm V l l1 x) (h0 : V 40 l1 = nI 5) (h1 : V 40 (l1 + 1) = nI l2) (ht : Seg nw h wm V (l1 + 2) l2 y) (hl : l2 < 1000000) : Seg nw h wm V l l2 (dOr x y) := by
  have hll := hs.1
  have hll2 := ht.1
  have hc := seg_cells hs.2.1 h0 h1 (by omega) hl
  refine ⟨by omega, fun k a b => ?_, fun cd L e s q1 q2 q3 q4 => ?_⟩
  · by_cases c : k < l1 + 2
    · exact hc k a c
    · exact ht.2.1 k (by omega) b
  have e0 := q3 l1 (by omega) (by omega)
  have e1 := q3 (l1 + 1) (by omega) (by omega)
  rw [cdv_eq h0 (by omega)] at e0
  rw [cdv_eq h1 (by omega)] at e1
  rw [hs.2.2 cd L e s q1 (by omega) (fun k a b => q3 k a (by omega)) q4]
  unfold dOr
  cases x e with
  | none => rfl
  | some a =>
    show runV nw cd L (fun k => e (wm k)) l1 (a :: s) = (if a = 0 then y e else some a).bind (fun v => runV nw cd L (fun k => e (wm k)) l2 (v :: s))
    rw [run_or q1 (by omega) e0 e1 hll2]
    by_cases az : a = 0
    · rw [if_pos az, if_pos az]
      exact ht.2.2 cd L e s q1 (by omega) (fun k a b => q3 k (by omega) (by omega)) q4
    · rw [if_neg az, if_neg az]; rfl
set_option maxRecDepth 20000 in
theorem Seg.tells {cd : Nat → Nat} {L : Nat} (hs : Seg nw h wm V l l' x) (hh : h ≤ 64) (hL : L ≤ 896) (hl : l' ≤ L) (hcd : ∀ k, l ≤ k → k < l' → cd k = cdv V k) (h0 : cd l' = 0) (hn : nw = if wm 0 = 8 then 9 else 36) : Tells cd L l wm x := by
  intro e
  have h1 := hs.2.2 cd L e [] hL hl hcd (by simp only [List.length_nil]; omega)
  rw [hn] at h1
  refine h1.trans ?_
  cases x e with
  | none => rfl
  | some a => exact run_end h0
end SegS
/-! ===== tokens of both sides ===== -/
def TR (t c v : Nat) : Prop := (c = 0 ∧ (t = 256 ∨ t = 257)) ∨ (∃ w, w < 27 ∧ t = 300 + w ∧ c = wpi w) ∨ (c = 50 ∧ t = 1000 + min v 1000000) ∨ (t < 256 ∧ c = 100 + t)
set_option maxRecDepth 20000 in
theorem wpi_inj : ∀ a, a < 27 → ∀ b, b < 27 → wpi a = wpi b → a = b := by decide +kernel
set_option maxRecDepth 20000 in
theorem wpi_rng : ∀ a, a < 27 → 1 ≤ wpi a ∧ wpi a ≤ 27 := by decide +kernel
set_option maxRecDepth 20000 in
theorem wpi_law : ∀ w, w < 27 → (14 ≤ w ∧ w ≤ 22 ↔ 8 ≤ wpi w ∧ wpi w ≤ 16) ∧ (14 ≤ w → w ≤ 22 → lwm (w - 14) = wpi w) := by decide +kernel
set_option maxRecDepth 20000 in
theorem wpi_kind : ∀ w, w < 27 → (w ≤ 2 ↔ wpi w ≤ 3) ∧ (w ≤ 2 → wpi w = w + 1) := by decide +kernel
section TokS
variable {t c v : Nat}
set_option maxRecDepth 20000 in
theorem TR.word {w : Nat} (h : TR t c v) (hw : w < 27) : t = 300 + w ↔ c = wpi w := by
  have hr := wpi_rng w hw
  rcases h with ⟨h1, h2⟩ | ⟨w', h1, h2, h3⟩ | ⟨h1, h2⟩ | ⟨h1, h2⟩
  · constructor <;> intro z <;> omega
  · refine ⟨fun z => ?_, fun z => ?_⟩
    · rw [h3, show w' = w by omega]
    · have := wpi_inj w' h1 w hw (by omega)
      omega
  · constructor <;> intro z <;> omega
  · constructor <;> intro z <;> omega
set_option maxRecDepth 20000 in
theorem TR.sign {q : Nat} (h : TR t c v) (hq : q < 256) : t = q ↔ c = 100 + q := by
  rcases h with ⟨h1, h2⟩ | ⟨w', h1, h2, h3⟩ | ⟨h1, h2⟩ | ⟨h1, h2⟩
  · constructor <;> intro z <;> omega
  · have hr := wpi_rng w' h1
    constructor <;> intro z <;> omega
  · constructor <;> intro z <;> omega
  · constructor <;> intro z <;> omega
set_option maxRecDepth 20000 in
theorem TR.num (h : TR t c v) : (1000 ≤ t ↔ c = 50) ∧ (c = 50 → t = 1000 + min v 1000000) := by
  rcases h with ⟨h1, h2⟩ | ⟨w', h1, h2, h3⟩ | ⟨h1, h2⟩ | ⟨h1, h2⟩
  · refine ⟨⟨fun z => ?_, fun z => ?_⟩, fun z => ?_⟩ <;> omega
  · have hr := wpi_rng w' h1
    refine ⟨⟨fun z => ?_, fun z => ?_⟩, fun z => ?_⟩ <;> omega
  · refine ⟨⟨fun z => ?_, fun z => ?_⟩, fun z => ?_⟩ <;> omega
  · refine ⟨⟨fun z => ?_, fun z => ?_⟩, fun z => ?_⟩ <;> omega
set_option maxRecDepth 20000 in
theorem TR.law (h : TR t c v) : (314 ≤ t ∧ t ≤ 322 ↔ 8 ≤ c ∧ c ≤ 16) ∧ (314 ≤ t → t ≤ 322 → lwm (t - 314) = c) := by
  rcases h with ⟨h1, h2⟩ | ⟨w', h1, h2, h3⟩ | ⟨h1, h2⟩ | ⟨h1, h2⟩
  · refine ⟨⟨fun z => ?_, fun z => ?_⟩, fun z z2 => ?_⟩ <;> omega
  · have hr := wpi_law w' h1
    refine ⟨⟨fun z => ?_, fun z => ?_⟩, fun z z2 => ?_⟩
    · rw [h3]; exact hr.1.mp (by omega)
    · rw [h3] at z; have := hr.1.mpr z; omega
    · rw [h3, ← hr.2 (by omega) (by omega), show t - 314 = w' - 14 by omega]
  · refine ⟨⟨fun z => ?_, fun z => ?_⟩, fun z z2 => ?_⟩ <;> omega
  · refine ⟨⟨fun z => ?_, fun z => ?_⟩, fun z z2 => ?_⟩ <;> omega
set_option maxRecDepth 20000 in
theorem TR.kind (h : TR t c v) : (300 ≤ t ∧ t ≤ 302 ↔ 1 ≤ c ∧ c ≤ 3) ∧ (1 ≤ c → c ≤ 3 → t = 299 + c) := by
  rcases h with ⟨h1, h2⟩ | ⟨w', h1, h2, h3⟩ | ⟨h1, h2⟩ | ⟨h1, h2⟩
  · refine ⟨⟨fun z => ?_, fun z => ?_⟩, fun z z2 => ?_⟩ <;> omega
  · have hr := wpi_kind w' h1
    have hg := wpi_rng w' h1
    refine ⟨⟨fun z => ?_, fun z => ?_⟩, fun z z2 => ?_⟩
    · have := hr.1.mp (by omega); omega
    · have := hr.1.mpr (by omega); omega
    · have := hr.2 (hr.1.mpr (by omega)); omega
  · refine ⟨⟨fun z => ?_, fun z => ?_⟩, fun z z2 => ?_⟩ <;> omega
  · refine ⟨⟨fun z => ?_, fun z => ?_⟩, fun z z2 => ?_⟩ <;> omega
end TokS
/-! ===== the class reads: its tools ===== -/
def CkA (o : Bool) (N : Nat) (ct tc tv pl : Nat → Nat) (V : VIT) : Prop := (∀ i, i ≤ N → V 41 i = nI (ct i) ∧ V 42 i = nI (pl i) ∧ TR (ct i) (tc i) (tv i) ∧ ct i < 1002000) ∧ V 37 4 = nI (N + 1) ∧ V 37 7 = nI (if o = true then 1 else 0) ∧ N ≤ 400 ∧ (∀ i, N ≤ i → tc i = 0) ∧ ∀ i, tc i < 1000 ∧ tv i < 100000000 ∧ pl i ≤ 400
def FrRC (V0 V : VIT) : Prop := ∀ a k, ¬ (a = 37 ∧ (k = 1 ∨ k = 5 ∨ k = 6)) → ¬ (a = 38 ∧ k = 3) → a ≠ 40 → V a k = V0 a k
set_option maxRecDepth 20000 in
theorem FrRC.refl {V : VIT} : FrRC V V := fun _ _ _ _ _ => rfl
set_option maxRecDepth 20000 in
theorem FrRC.up {V0 V : VIT} {k : Nat} {x : Int32} (h : FrRC V0 V) (hk : k = 1 ∨ k = 5 ∨ k = 6) : FrRC V0 (up V 37 k x) := fun a j q1 q2 q3 => by rw [up_ne2 (by omega)]; exact h a j q1 q2 q3
set_option maxRecDepth 20000 in
theorem FrRC.cd {V0 V : VIT} {k : Nat} {x : Int32} (h : FrRC V0 V) : FrRC V0 (up V 40 k x) := fun a j q1 q2 q3 => by rw [up_ne2 (by omega)]; exact h a j q1 q2 q3
set_option maxRecDepth 20000 in
theorem FrRC.put {V0 V : VIT} {l m : Nat} {x y z : Int32} (h : FrRC V0 V) : FrRC V0 (up (up (up V 40 l x) 40 m y) 38 3 z) := fun a j q1 q2 q3 => by rw [up_ne2 (by omega), up_ne2 (by omega), up_ne2 (by omega)]; exact h a j q1 q2 q3
set_option maxRecDepth 20000 in
theorem CkA.fr {o : Bool} {N : Nat} {ct tc tv pl : Nat → Nat} {V V' : VIT} (h : CkA o N ct tc tv pl V) (hF : FrRC V V') : CkA o N ct tc tv pl V' := by
  obtain ⟨h1, h2, h3, h4⟩ := h
  refine ⟨fun i hi => ?_, by rw [hF 37 4 (by omega) (by omega) (by omega)]; exact h2, by rw [hF 37 7 (by omega) (by omega) (by omega)]; exact h3, h4⟩
  rw [hF 41 i (by omega) (by omega) (by omega), hF 42 i (by omega) (by omega) (by omega)]
  exact h1 i hi
def CS (i p l : Nat) (V : VIT) : Prop := V 37 5 = nI i ∧ V 37 6 = nI p ∧ V 37 1 = -1 ∧ V 38 3 = nI l
set_option maxRecDepth 20000 in
theorem CS.tok {i p l j : Nat} {V : VIT} (h : CS i p l V) : CS j p l (up V 37 5 (nI j)) := ⟨up_at, (up_at' (by omega)).trans h.2.1, (up_at' (by omega)).trans h.2.2.1, (up_ne2 (by omega)).trans h.2.2.2⟩
set_option maxRecDepth 20000 in
theorem CS.part {i p l j : Nat} {V : VIT} (h : CS i p l V) : CS i j l (up V 37 6 (nI j)) := ⟨(up_at' (by omega)).trans h.1, up_at, (up_at' (by omega)).trans h.2.2.1, (up_ne2 (by omega)).trans h.2.2.2⟩
set_option maxRecDepth 20000 in
theorem CS.put {i p l j m : Nat} {x y : Int32} {V : VIT} (h : CS i p l V) : CS i p j (up (up (up V 40 l x) 40 m y) 38 3 (nI j)) := by
  refine ⟨?_, ?_, ?_, up_at⟩
  · rw [up_ne2 (by omega), up_ne2 (by omega), up_ne2 (by omega)]; exact h.1
  · rw [up_ne2 (by omega), up_ne2 (by omega), up_ne2 (by omega)]; exact h.2.1
  · rw [up_ne2 (by omega), up_ne2 (by omega), up_ne2 (by omega)]; exact h.2.2.1
set_option maxRecDepth 20000 in
theorem CS.land {i p l m : Nat} {x : Int32} {V : VIT} (h : CS i p l V) : CS i p l (up V 40 m x) := by
  refine ⟨?_, ?_, ?_, ?_⟩
  · rw [up_ne2 (by omega)]; exact h.1
  · rw [up_ne2 (by omega)]; exact h.2.1
  · rw [up_ne2 (by omega)]; exact h.2.2.1
  · rw [up_ne2 (by omega)]; exact h.2.2.2
section PutS
variable {V : VIT} {l k : Nat} {x y z : Int32}
set_option maxRecDepth 20000 in
theorem put_lt (h : k < l) : (up (up (up V 40 l x) 40 (l + 1) y) 38 3 z) 40 k = V 40 k := by rw [up_ne2 (by omega), up_ne2 (by omega), up_ne2 (by omega)]
set_option maxRecDepth 20000 in
theorem put_0 : (up (up (up V 40 l x) 40 (l + 1) y) 38 3 z) 40 l = x := by rw [up_ne2 (by omega), up_ne2 (by omega), up_at]
set_option maxRecDepth 20000 in
theorem put_1 : (up (up (up V 40 l x) 40 (l + 1) y) 38 3 z) 40 (l + 1) = y := by rw [up_ne2 (by omega), up_at]
set_option maxRecDepth 20000 in
theorem Seg.put {nw h a b : Nat} {wm : Nat → Nat} {d : Den} (hs : Seg nw h wm V a b d) (hb : b ≤ l) : Seg nw h wm (up (up (up V 40 l x) 40 (l + 1) y) 38 3 z) a b d := hs.same (fun k _ q => put_lt (by omega))
end PutS
section Read6
variable {d : Nat} {V0 V : VIT} {VL : VLT} {G : VRT} {P : Post} {ext : HL} {o : Bool} {N i p l c : Nat} {ct tc tv pl : Nat → Nat}
set_option maxRecDepth 20000 in
theorem x_token (hA : CkA o N ct tc tv pl V) (h5 : V 37 5 = nI i) (hi : i ≤ N) (hP : P (some (.int (nI (ct i)))) (LY ++ ext) V VL (vr G)) : Ex d mi48 0 (entL [.ref 37] 1) [] (LY ++ ext) V VL (vr G) 0 0 P := by
  have hN := hA.2.2.2.1
  refine x_aload_n rfl rfl ?_
  refine x_getE (y := 5) rfl rfl rfl h5 ?_
  refine x_aload_n rfl rfl ?_
  refine x_getE (y := 4) rfl rfl rfl hA.2.1 ?_
  refine x_icmpN_ge rfl (fun c8 => ?_) (fun c8 => ?_)
  · exact absurd c8 (by first | decide | omega)
  refine x_aload_n rfl rfl ?_
  refine x_getR (u := .ref _) rfl rfl rfl rfl ?_
  refine x_aload_n rfl rfl ?_
  refine x_getE (y := 5) rfl rfl rfl h5 ?_
  refine x_ialE (j := i) rfl rfl (rfl) (by omega) ((hA.1 i hi).1) ?_
  refine x_goto rfl ?_
  refine x_iret rfl rfl ?_
  exact hP
set_option maxRecDepth 20000 in
theorem x_wrong (hA : CkA o N ct tc tv pl V) (h5 : V 37 5 = nI i) (hi : i ≤ N) (hP : P (some (.int (nI 0))) (LY ++ ext) (up V 37 1 (nI (pl i))) VL (vr G)) : Ex d mi49 0 (entL [.ref 37] 1) [] (LY ++ ext) V VL (vr G) 0 0 P := by
  have hN := hA.2.2.2.1
  refine x_aload_n rfl rfl ?_
  refine x_aload_n rfl rfl ?_
  refine x_getE (y := 5) rfl rfl rfl h5 ?_
  refine x_aload_n rfl rfl ?_
  refine x_getE (y := 4) rfl rfl rfl hA.2.1 ?_
  refine x_icmpN_ge rfl (fun c9 => ?_) (fun c9 => ?_)
  · exact absurd c9 (by first | decide | omega)
  refine x_aload_n rfl rfl ?_
  refine x_getR (u := .ref _) rfl rfl rfl rfl ?_
  refine x_aload_n rfl rfl ?_
  refine x_getE (y := 5) rfl rfl rfl h5 ?_
  refine x_ialE (j := i) rfl rfl (rfl) (by omega) ((hA.1 i hi).2.1) ?_
  refine x_goto rfl ?_
  refine x_putI rfl rfl rfl rfl ?_
  refine x_iconstN (q := 0) rfl ?_
  refine x_zret rfl rfl (by first | exact Or.inl rfl | exact Or.inr rfl) ?_
  exact hP
set_option maxRecDepth 20000 in
theorem x_passed1 (hA : CkA o N ct tc tv pl V) (h5 : V 37 5 = nI i) (hi : i ≤ N) (h : ct i = c) (hP : P (some (.int (nI 1))) (LY ++ ext) (up V 37 5 (nI (i + 1))) VL (vr G)) : Ex (d + 1) mi50 0 (entL [.ref 37, .int (nI c)] 2) [] (LY ++ ext) V VL (vr G) 0 0 P := by
  have hN := hA.2.2.2.1
  have hc := (hA.1 i hi).2.2.2
  refine x_aload_n rfl rfl ?_
  refine x_callV (M' := mi48) (As := []) (bc1 := 0) (bs1 := 0) (bc2 := 0) (bs2 := 0) rfl rfl rfl rfl ok48 rfl rfl (by decide) rfl rfl rfl rfl rfl rfl ?_
  refine x_token hA h5 hi ?_
  refine x_iload_n rfl rfl ?_
  refine x_icmpN_eq rfl (fun c5 => ?_) (fun c5 => ?_)
  rotate_left
  · exact absurd c5 (by first | decide | omega)
  refine x_aload_n rfl rfl ?_
  refine x_dup rfl rfl ?_
  refine x_getE (y := 5) rfl rfl rfl h5 ?_
  refine x_iconstN (q := 1) rfl ?_
  refine x_iaddN rfl ?_
  refine x_putI rfl rfl rfl rfl ?_
  refine x_iconstN (q := 1) rfl ?_
  refine x_zret rfl rfl (by first | exact Or.inl rfl | exact Or.inr rfl) ?_
  exact hP
set_option maxRecDepth 20000 in
theorem x_passedN (hA : CkA o N ct tc tv pl V) (h5 : V 37 5 = nI i) (hi : i ≤ N) (hc9 : c < 1000) (h : ct i ≠ c) (hP : P (some (.int (nI 0))) (LY ++ ext) (up V 37 1 (nI (pl i))) VL (vr G)) : Ex (d + 1) mi50 0 (entL [.ref 37, .int (nI c)] 2) [] (LY ++ ext) V VL (vr G) 0 0 P := by
  have hN := hA.2.2.2.1
  have hc := (hA.1 i hi).2.2.2
  refine x_aload_n rfl rfl ?_
  refine x_callV (M' := mi48) (As := []) (bc1 := 0) (bs1 := 0) (bc2 := 0) (bs2 := 0) rfl rfl rfl rfl ok48 rfl rfl (by decide) rfl rfl rfl rfl rfl rfl ?_
  refine x_token hA h5 hi ?_
  refine x_iload_n rfl rfl ?_
  refine x_icmpN_eq rfl (fun c5 => ?_) (fun c5 => ?_)
  · exact absurd c5 (by first | decide | omega)
  refine x_aload_n rfl rfl ?_
  refine x_callV (M' := mi49) (As := []) (bc1 := 0) (bs1 := 0) (bc2 := 0) (bs2 := 0) rfl rfl rfl rfl ok49 rfl rfl (by decide) rfl rfl rfl rfl rfl rfl ?_
  refine x_wrong hA h5 hi ?_
  refine x_zret rfl rfl (by first | exact Or.inl rfl | exact Or.inr rfl) ?_
  exact hP
set_option maxRecDepth 20000 in
theorem x_putC {op v : Nat} (h3 : V 38 3 = nI l) (hl : l + 1 < 896) (hP : P (some (.int (nI l))) (LY ++ ext) (up (up (up V 40 l (nI op)) 40 (l + 1) (nI v)) 38 3 (nI (l + 2))) VL (vr G)) : Ex d mi86 0 (entL [.ref 38, .int (nI op), .int (nI v)] 3) [] (LY ++ ext) V VL (vr G) 0 0 P := by
  refine x_aload_n rfl rfl ?_
  refine x_getE (y := 3) rfl rfl rfl h3 ?_
  refine x_iconstN (q := 1) rfl ?_
  refine x_iaddN rfl ?_
  refine x_aload_n rfl rfl ?_
  refine x_getR (u := .ref _) rfl rfl rfl rfl ?_
  refine x_alen0 rfl rfl ?_
  refine x_icmpN_ge rfl (fun c11 => ?_) (fun c11 => ?_)
  · exact absurd c11 (by first | decide | omega)
  refine x_aload_n rfl rfl ?_
  refine x_getR (u := .ref _) rfl rfl rfl rfl ?_
  refine x_aload_n rfl rfl ?_
  refine x_getE (y := 3) rfl rfl rfl h3 ?_
  refine x_iload_n rfl rfl ?_
  refine x_iasN (j := l) rfl rfl (rfl) (by omega) ?_
  refine x_aload_n rfl rfl ?_
  refine x_getR (u := .ref _) rfl rfl rfl rfl ?_
  refine x_aload_n rfl rfl ?_
  refine x_getE (y := 3) rfl rfl rfl ((up_ne2 (by omega)).trans h3) ?_
  refine x_iconstN (q := 1) rfl ?_
  refine x_iaddN rfl ?_
  refine x_iload_n rfl rfl ?_
  refine x_iasN (j := l + 1) rfl rfl (rfl) (by omega) ?_
  refine x_aload_n rfl rfl ?_
  refine x_dup rfl rfl ?_
  refine x_getE (y := 3) rfl rfl rfl ((up_ne2 (by omega)).trans ((up_ne2 (by omega)).trans h3)) ?_
  refine x_iconstN (q := 2) rfl ?_
  refine x_iaddN rfl ?_
  refine x_putI rfl rfl rfl rfl ?_
  refine x_aload_n rfl rfl ?_
  refine x_getE (y := 3) rfl rfl rfl up_at ?_
  refine x_iconstN (q := 2) rfl ?_
  refine x_isubN rfl ?_
  refine x_iret rfl rfl ?_
  rw [show l + 2 - 2 = l by omega]
  exact hP
set_option maxRecDepth 20000 in
theorem x_land {j : Nat} (h3 : V 38 3 = nI l) (hj : j + 1 < l) (hl : l ≤ 896) (hP : P none (LY ++ ext) (up V 40 (j + 1) (nI l)) VL (vr G)) : Ex d mi87 0 (entL [.ref 38, .int (nI j)] 2) [] (LY ++ ext) V VL (vr G) 0 0 P := by
  refine x_iload_n rfl rfl ?_
  refine x_ifN_lt rfl ?_
  refine x_iload_n rfl rfl ?_
  refine x_iconstN (q := 1) rfl ?_
  refine x_iaddN rfl ?_
  refine x_aload_n rfl rfl ?_
  refine x_getE (y := 3) rfl rfl rfl h3 ?_
  refine x_icmpN_ge rfl (fun c11 => ?_) (fun c11 => ?_)
  · exact absurd c11 (by first | decide | omega)
  refine x_aload_n rfl rfl ?_
  refine x_getR (u := .ref _) rfl rfl rfl rfl ?_
  refine x_iload_n rfl rfl ?_
  refine x_iconstN (q := 1) rfl ?_
  refine x_iaddN rfl ?_
  refine x_aload_n rfl rfl ?_
  refine x_getE (y := 3) rfl rfl rfl h3 ?_
  refine x_iasN (j := j + 1) rfl rfl (rfl) (by omega) ?_
  refine x_vret rfl rfl ?_
  exact hP
end Read6
