/-- the code as Nats -/
def cdv (V : VIT) (k : Nat) : Nat := (V 40 k).toInt.toNat
set_option maxRecDepth 20000 in
theorem cdv_eq {V : VIT} {k c : Nat} (h : V 40 k = nI c) (hc : c < 2147483648) : cdv V k = c := by
  unfold cdv
  rw [h, nI_toInt hc]
  rfl
set_option maxRecDepth 20000 in
theorem cdv_ok {V : VIT} {k c : Nat} (h : V 40 k = nI c) (hc : c < 1000000) : V 40 k = nI (cdv V k) ∧ cdv V k < 1000000 := by
  rw [cdv_eq h (by omega)]
  exact ⟨h, hc⟩
set_option maxRecDepth 20000 in
theorem cdv_same {V V' : VIT} {k : Nat} (h : V' 40 k = V 40 k) : cdv V' k = cdv V k := by unfold cdv; rw [h]
/-- where the code's jumps from a to b lead -/
def JmpOK (V : VIT) (a b : Nat) : Prop := a ≤ b ∧ (b - a) % 2 = 0 ∧ ∀ i, a ≤ i → i < b → (i - a) % 2 = 0 → (cdv V i = 4 ∨ cdv V i = 5) → i + 2 ≤ cdv V (i + 1) ∧ cdv V (i + 1) ≤ b ∧ (cdv V (i + 1) - a) % 2 = 0
set_option maxRecDepth 20000 in
theorem JmpOK.same {V V' : VIT} {a b : Nat} (h : JmpOK V a b) (hV : ∀ k, a ≤ k → k < b → V' 40 k = V 40 k) : JmpOK V' a b := by
  obtain ⟨h0, h1, h2⟩ := h
  refine ⟨h0, h1, fun i a1 a2 a3 a4 => ?_⟩
  rw [cdv_same (hV i a1 a2)] at a4
  rw [cdv_same (hV (i + 1) (by omega) (by omega))]
  exact h2 i a1 a2 a3 a4
set_option maxRecDepth 20000 in
theorem JmpOK.app {V : VIT} {a b c : Nat} (h : JmpOK V a b) (h' : JmpOK V b c) : JmpOK V a c := by
  obtain ⟨h0, h1, h2⟩ := h
  obtain ⟨g0, g1, g2⟩ := h'
  refine ⟨by omega, by omega, fun i a1 a2 a3 a4 => ?_⟩
  by_cases q : i < b
  · have := h2 i a1 q a3 a4
    omega
  · have := g2 i (by omega) a2 (by omega) a4
    omega
set_option maxRecDepth 20000 in
theorem JmpOK.ins {V : VIT} {a op : Nat} (h : V 40 a = nI op) (ho : op < 2147483648) (h4 : op ≠ 4) (h5 : op ≠ 5) : JmpOK V a (a + 2) := by
  refine ⟨by omega, by omega, fun i a1 a2 a3 a4 => ?_⟩
  have e : i = a := by omega
  rw [e, cdv_eq h ho] at a4
  omega
set_option maxRecDepth 20000 in
theorem JmpOK.jmp {V : VIT} {a b c op : Nat} (h : JmpOK V a b) (h0 : V 40 b = nI op) (ho : op < 2147483648) (h1 : V 40 (b + 1) = nI c) (hc : c < 2147483648) (h' : JmpOK V (b + 2) c) : JmpOK V a c := by
  obtain ⟨p0, p1, p2⟩ := h
  obtain ⟨g0, g1, g2⟩ := h'
  refine ⟨by omega, by omega, fun i a1 a2 a3 a4 => ?_⟩
  by_cases q : i < b
  · have := p2 i a1 q a3 a4
    omega
  · by_cases q2 : i = b
    · rw [q2, cdv_eq h1 hc]
      omega
    · have := g2 i (by omega) a2 (by omega) a4
      omega
/-- the code from l to l' tells x, h places of the stack are enough -/
def SegC (nw h : Nat) (wm : Nat → Nat) (V : VIT) (l l' : Nat) (x : Den) : Prop := l ≤ l' ∧ (∀ k, l ≤ k → k < l' → V 40 k = nI (cdv V k) ∧ cdv V k < 1000000) ∧ (∀ (cd : Nat → Nat) (L : Nat) (e : Env) (s : List Int), L ≤ 896 → l' ≤ L → (∀ k, l ≤ k → k < l' → cd k = cdv V k) → s.length + h ≤ 64 → runV nw cd L (fun k => e (wm k)) l s = (x e).bind (fun v => runV nw cd L (fun k => e (wm k)) l' (v :: s))) ∧ JmpOK V l l'
section SegS
variable {nw h h' l l1 l2 l' : Nat} {wm : Nat → Nat} {V V' : VIT} {x y : Den}
set_option maxRecDepth 20000 in
theorem SegC.same (hs : SegC nw h wm V l l' x) (hV : ∀ k, l ≤ k → k < l' → V' 40 k = V 40 k) : SegC nw h wm V' l l' x := by
  obtain ⟨h1, h2, h3, h4⟩ := hs
  refine ⟨h1, fun k a b => ?_, fun cd L e s q1 q2 q3 q4 => h3 cd L e s q1 q2 (fun k a b => ?_) q4, h4.same hV⟩
  · rw [cdv_same (hV k a b), hV k a b]; exact h2 k a b
  · rw [← cdv_same (hV k a b)]; exact q3 k a b
set_option maxRecDepth 20000 in
theorem SegC.mono (hs : SegC nw h wm V l l' x) (hh : h ≤ h') : SegC nw h' wm V l l' x := ⟨hs.1, hs.2.1, fun cd L e s q1 q2 q3 q4 => hs.2.2.1 cd L e s q1 q2 q3 (by omega), hs.2.2.2⟩
set_option maxRecDepth 20000 in
theorem SegC.num {v : Nat} (h0 : V 40 l = nI 1) (h1 : V 40 (l + 1) = nI v) (hv : v < 1000000) (hh : 1 ≤ h) : SegC nw h wm V l (l + 2) (dNum v) := by
  refine ⟨by omega, fun k a b => ?_, fun cd L e s q1 q2 q3 q4 => ?_, JmpOK.ins h0 (by omega) (by omega) (by omega)⟩
  · by_cases c : k = l
    · rw [c]; exact cdv_ok h0 (by omega)
    · rw [show k = l + 1 by omega]; exact cdv_ok h1 hv
  · have e0 := q3 l (Nat.le_refl _) (by omega)
    have e1 := q3 (l + 1) (by omega) (by omega)
    rw [cdv_eq h0 (by omega)] at e0
    rw [cdv_eq h1 (by omega)] at e1
    rw [run_num q1 (by omega) e0 (by omega), e1]
    rfl
set_option maxRecDepth 20000 in
theorem SegC.word {w m : Nat} (h0 : V 40 l = nI 2) (h1 : V 40 (l + 1) = nI w) (hw : w < nw) (hw2 : w < 1000) (hm : wm w = m) (hh : 1 ≤ h) : SegC nw h wm V l (l + 2) (dWord m) := by
  refine ⟨by omega, fun k a b => ?_, fun cd L e s q1 q2 q3 q4 => ?_, JmpOK.ins h0 (by omega) (by omega) (by omega)⟩
  · by_cases c : k = l
    · rw [c]; exact cdv_ok h0 (by omega)
    · rw [show k = l + 1 by omega]; exact cdv_ok h1 (by omega)
  · have e0 := q3 l (Nat.le_refl _) (by omega)
    have e1 := q3 (l + 1) (by omega) (by omega)
    rw [cdv_eq h0 (by omega)] at e0
    rw [cdv_eq h1 (by omega)] at e1
    rw [run_word q1 (by omega) e0 (by omega) (by rw [e1]; exact hw), e1, hm]
    rfl
-- two codes behind one another, an instruction behind them
set_option maxRecDepth 20000 in
theorem seg_cells {op v : Nat} (ha : ∀ k, l ≤ k → k < l1 → V 40 k = nI (cdv V k) ∧ cdv V k < 1000000) (h0 : V 40 l1 = nI op) (h1 : V 40 (l1 + 1) = nI v) (hop : op < 1000000) (hv : v < 1000000) : ∀ k, l ≤ k → k < l1 + 2 → V 40 k = nI (cdv V k) ∧ cdv V k < 1000000 := by
  intro k a b
  by_cases c : k < l1
  · exact ha k a c
  · by_cases c2 : k = l1
    · rw [c2]; exact cdv_ok h0 hop
    · rw [show k = l1 + 1 by omega]; exact cdv_ok h1 hv
set_option maxRecDepth 20000 in
theorem SegC.not (hs : SegC nw h wm V l l1 x) (h0 : V 40 l1 = nI 3) (h1 : V 40 (l1 + 1) = nI 0) : SegC nw h wm V l (l1 + 2) (dNot x) := by
  have hll := hs.1
  refine ⟨by omega, seg_cells hs.2.1 h0 h1 (by omega) (by omega), fun cd L e s q1 q2 q3 q4 => ?_, hs.2.2.2.app (JmpOK.ins h0 (by omega) (by omega) (by omega))⟩
  have e0 := q3 l1 hll (by omega)
  rw [cdv_eq h0 (by omega)] at e0
  rw [hs.2.2.1 cd L e s q1 (by omega) (fun k a b => q3 k a (by omega)) q4]
  unfold dNot
  cases x e with
  | none => rfl
  | some a => exact run_not q1 (by omega) e0
set_option maxRecDepth 20000 in
theorem SegC.bin {op : Nat} (hs : SegC nw h wm V l l1 x) (ht : SegC nw h' wm V l1 l2 y) (hh : h' + 1 ≤ h) (h0 : V 40 l2 = nI op) (h1 : V 40 (l2 + 1) = nI 0) (ho : 5 < op) (ho2 : op < 1000000) : SegC nw h wm V l (l2 + 2) (dBin op x y) := by
  have hll := hs.1
  have hll2 := ht.1
  refine ⟨by omega, seg_cells (fun k a b => ?_) h0 h1 ho2 (by omega), fun cd L e s q1 q2 q3 q4 => ?_, (hs.2.2.2.app ht.2.2.2).app (JmpOK.ins h0 (by omega) (by omega) (by omega))⟩
  · by_cases c : k < l1
    · exact hs.2.1 k a c
    · exact ht.2.1 k (by omega) b
  have e0 := q3 l2 (by omega) (by omega)
  rw [cdv_eq h0 (by omega)] at e0
  rw [hs.2.2.1 cd L e s q1 (by omega) (fun k a b => q3 k a (by omega)) q4]
  unfold dBin
  cases x e with
  | none => rfl
  | some a =>
    show runV nw cd L (fun k => e (wm k)) l1 (a :: s) = ((y e).bind (fun b => jn op a b)).bind (fun v => runV nw cd L (fun k => e (wm k)) (l2 + 2) (v :: s))
    rw [ht.2.2.1 cd L e (a :: s) q1 (by omega) (fun k a b => q3 k (by omega) (by omega)) (by simp only [List.length_cons]; omega)]
    cases y e with
    | none => rfl
    | some b =>
      show runV nw cd L (fun k => e (wm k)) l2 (b :: a :: s) = (jn op a b).bind (fun v => runV nw cd L (fun k => e (wm k)) (l2 + 2) (v :: s))
      rw [run_jn q1 (by omega) (by omega), e0]
set_option maxRecDepth 20000 in
theorem SegC.and (hs : SegC nw h wm V l l1 x) (h0 : V 40 l1 = nI 4) (h1 : V 40 (l1 + 1) = nI l2) (ht : SegC nw h wm V (l1 + 2) l2 y) (hl : l2 < 1000000) : SegC nw h wm V l l2 (dAnd x y) := by
  have hll := hs.1
  have hll2 := ht.1
  have hc := seg_cells hs.2.1 h0 h1 (by omega) hl
  refine ⟨by omega, fun k a b => ?_, fun cd L e s q1 q2 q3 q4 => ?_, JmpOK.jmp hs.2.2.2 h0 (by omega) h1 (by omega) ht.2.2.2⟩
  · by_cases c : k < l1 + 2
    · exact hc k a c
    · exact ht.2.1 k (by omega) b
  have e0 := q3 l1 (by omega) (by omega)
  have e1 := q3 (l1 + 1) (by omega) (by omega)
  rw [cdv_eq h0 (by omega)] at e0
  rw [cdv_eq h1 (by omega)] at e1
  rw [hs.2.2.1 cd L e s q1 (by omega) (fun k a b => q3 k a (by omega)) q4]
  unfold dAnd
  cases x e with
  | none => rfl
  | some a =>
    show runV nw cd L (fun k => e (wm k)) l1 (a :: s) = (if a = 0 then some a else y e).bind (fun v => runV nw cd L (fun k => e (wm k)) l2 (v :: s))
    rw [run_and q1 (by omega) e0 e1 hll2]
    by_cases az : a = 0
    · rw [if_pos az, if_pos az]; rfl
    · rw [if_neg az, if_neg az]
      exact ht.2.2.1 cd L e s q1 (by omega) (fun k a b => q3 k (by omega) (by omega)) q4
set_option maxRecDepth 20000 in
theorem SegC.or (hs : SegC nw h wm V l l1 x) (h0 : V 40 l1 = nI 5) (h1 : V 40 (l1 + 1) = nI l2) (ht : SegC nw h wm V (l1 + 2) l2 y) (hl : l2 < 1000000) : SegC nw h wm V l l2 (dOr x y) := by
  have hll := hs.1
  have hll2 := ht.1
  have hc := seg_cells hs.2.1 h0 h1 (by omega) hl
  refine ⟨by omega, fun k a b => ?_, fun cd L e s q1 q2 q3 q4 => ?_, JmpOK.jmp hs.2.2.2 h0 (by omega) h1 (by omega) ht.2.2.2⟩
  · by_cases c : k < l1 + 2
    · exact hc k a c
    · exact ht.2.1 k (by omega) b
  have e0 := q3 l1 (by omega) (by omega)
  have e1 := q3 (l1 + 1) (by omega) (by omega)
  rw [cdv_eq h0 (by omega)] at e0
  rw [cdv_eq h1 (by omega)] at e1
  rw [hs.2.2.1 cd L e s q1 (by omega) (fun k a b => q3 k a (by omega)) q4]
  unfold dOr
  cases x e with
  | none => rfl
  | some a =>
    show runV nw cd L (fun k => e (wm k)) l1 (a :: s) = (if a = 0 then y e else some a).bind (fun v => runV nw cd L (fun k => e (wm k)) l2 (v :: s))
    rw [run_or q1 (by omega) e0 e1 hll2]
    by_cases az : a = 0
    · rw [if_pos az, if_pos az]
      exact ht.2.2.1 cd L e s q1 (by omega) (fun k a b => q3 k (by omega) (by omega)) q4
    · rw [if_neg az, if_neg az]; rfl
set_option maxRecDepth 20000 in
theorem SegC.tells {cd : Nat → Nat} {L : Nat} (hs : SegC nw h wm V l l' x) (hh : h ≤ 64) (hL : L ≤ 896) (hl : l' ≤ L) (hcd : ∀ k, l ≤ k → k < l' → cd k = cdv V k) (h0 : cd l' = 0) (hn : nw = if wm 0 = 8 then 9 else 36) : Tells cd L l wm x := by
  intro e
  have h1 := hs.2.2.1 cd L e [] hL hl hcd (by simp only [List.length_nil]; omega)
  rw [hn, run_eq] at h1
  refine h1.trans ?_
  cases x e with
  | none => rfl
  | some a => exact run_end h0
end SegS
