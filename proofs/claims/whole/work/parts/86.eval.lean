/-! ===== the model tells sums and tests: its tools ===== -/
def EvS (K : KT) (B n : Nat) (tc : Nat → Nat) (V : VIT) : Prop := RK (V 76) K ∧ V 74 23 = nI (B + n) ∧ B ≤ 2400 ∧ n ≤ 400 ∧ (∀ i, i < n → tc i = K (105 + (B + i))) ∧ (∀ i, n ≤ i → tc i = 0) ∧ ∀ i, tc i < 1000
def FrE (V0 V : VIT) : Prop := ∀ a k, ¬ (a = 74 ∧ (k = 22 ∨ k = 24)) → V a k = V0 a k
set_option maxRecDepth 20000 in
theorem FrE.refl {V : VIT} : FrE V V := fun _ _ _ => rfl
set_option maxRecDepth 20000 in
theorem FrE.trans {V V1 V2 : VIT} (h : FrE V V1) (h1 : FrE V1 V2) : FrE V V2 := fun a k q => (h1 a k q).trans (h a k q)
set_option maxRecDepth 20000 in
theorem FrE.go {V0 V : VIT} {x : Int32} (h : FrE V0 V) : FrE V0 (up V 74 22 x) := fun a k q => by
  rw [up_ne2 (by omega)]; exact h a k q
set_option maxRecDepth 20000 in
theorem FrE.br {V0 V : VIT} {x : Int32} (h : FrE V0 V) : FrE V0 (up V 74 24 x) := fun a k q => by
  rw [up_ne2 (by omega)]; exact h a k q
set_option maxRecDepth 20000 in
theorem EvS.fr {K : KT} {B n : Nat} {tc : Nat → Nat} {V V' : VIT} (h : EvS K B n tc V) (hF : FrE V V') : EvS K B n tc V' := by
  obtain ⟨h1, h2, h3⟩ := h
  refine ⟨?_, (hF 74 23 (by omega)).trans h2, h3⟩
  rw [show V' 76 = V 76 from funext (fun k => hF 76 k (by omega))]; exact h1
-- go stands at i, broken is b
def At (B i b : Nat) (V : VIT) : Prop := V 74 22 = nI (B + i) ∧ V 74 24 = nI b ∧ b ≤ 1
set_option maxRecDepth 20000 in
theorem lgT {a b : Int64} : 0 < lg_cmp a b ↔ b.toInt < a.toInt := by
  unfold lg_cmp
  simp only [gt_iff_lt, Int64.lt_iff_toInt_lt, ← Int64.toInt_inj]
  repeat' split
  all_goals (constructor <;> intro hh <;> first | omega | decide | exact absurd hh (by decide))
set_option maxRecDepth 20000 in
theorem lgG {a b : Int64} : 0 ≤ lg_cmp a b ↔ b.toInt ≤ a.toInt := by
  unfold lg_cmp
  simp only [gt_iff_lt, Int64.lt_iff_toInt_lt, ← Int64.toInt_inj]
  repeat' split
  all_goals (constructor <;> intro hh <;> first | omega | decide | exact absurd hh (by decide))
set_option maxRecDepth 20000 in
theorem lgL {a b : Int64} : lg_cmp a b ≤ 0 ↔ a.toInt ≤ b.toInt := by
  unfold lg_cmp
  simp only [gt_iff_lt, Int64.lt_iff_toInt_lt, ← Int64.toInt_inj]
  repeat' split
  all_goals (constructor <;> intro hh <;> first | omega | decide | exact absurd hh (by decide))
set_option maxRecDepth 20000 in
theorem lgE {a b : Int64} : lg_cmp a b = 0 ↔ a.toInt = b.toInt := by
  unfold lg_cmp
  simp only [gt_iff_lt, Int64.lt_iff_toInt_lt, ← Int64.toInt_inj]
  repeat' split
  all_goals (constructor <;> intro hh <;> first | omega | decide | exact absurd hh (by decide))
-- a value told under live l, broken b0 at first, b behind it
def Rel (l b0 : Nat) (o : Option Int) (v : Int64) (b : Nat) : Prop := (l = 1 → b0 = 0 → (∀ a, o = some a → v.toInt = a ∧ -1000000000 ≤ a ∧ a ≤ 1000000000 ∧ b = 0) ∧ (o = none → b = 1)) ∧ (l = 0 ∨ b0 = 1 → b = b0)
set_option maxRecDepth 20000 in
theorem bndI_some {a : Int} (h : -1000000000 ≤ a ∧ a ≤ 1000000000) : bndI a = some a := if_neg (by omega)
set_option maxRecDepth 20000 in
theorem bndI_none {a : Int} (h : ¬ (-1000000000 ≤ a ∧ a ≤ 1000000000)) : bndI a = none := if_pos (by omega)
section Ev1
variable {d : Nat} {V : VIT} {VL : VLT} {G : VRT} {P : Post} {ext : HL} {K : KT} {B n i b l : Nat} {tc : Nat → Nat}
set_option maxRecDepth 20000 in
theorem m_sign {lay : HL} {VR : VRT} {c : Nat} (hc : c < 256) (hP : P (some (.int (nI (100 + c)))) lay V VL VR) : Ex d mi199 0 (entL [.int (nI c)] 1) [] lay V VL VR 0 0 P := by
  refine x_bipushN (q := 100) rfl ?_
  refine x_iload_n rfl rfl ?_
  refine x_iaddN rfl ?_
  refine x_iret rfl rfl ?_
  exact hP
set_option maxRecDepth 20000 in
theorem m_codeAt (hE : EvS K B n tc V) (hi : i ≤ 1000) (hP : P (some (.int (nI (tc i)))) (LY ++ ext) V VL (vr G)) : Ex d mi216 0 (entL [.ref 74, .int (nI (B + i))] 2) [] (LY ++ ext) V VL (vr G) 0 0 P := by
  obtain ⟨h1, h2, h3, h4, h5, h6, h7⟩ := hE
  by_cases c : i < n
  · rw [h5 i c] at hP
    refine x_iload_n rfl rfl ?_
    refine x_aload_n rfl rfl ?_
    refine x_getE (y := 23) rfl rfl rfl (h2) ?_
    refine x_icmpN_ge rfl (fun c5 => ?_) (fun c5 => ?_)
    · exact absurd c5 (by first | decide | omega)
    refine x_aload_n rfl rfl ?_
    refine x_getR (u := .ref _) rfl rfl rfl rfl ?_
    refine x_bipushN (q := 105) rfl ?_
    refine x_iload_n rfl rfl ?_
    refine x_iaddN rfl ?_
    refine x_ialE (j := 105 + (B + i)) rfl rfl (rfl) (by omega) (h1.at (105 + (B + i))) ?_
    refine x_goto rfl ?_
    refine x_iret rfl rfl ?_
    exact hP
  · rw [h6 i (by omega)] at hP
    refine x_iload_n rfl rfl ?_
    refine x_aload_n rfl rfl ?_
    refine x_getE (y := 23) rfl rfl rfl (h2) ?_
    refine x_icmpN_ge rfl (fun c5 => ?_) (fun c5 => ?_)
    rotate_left
    · exact absurd c5 (by first | decide | omega)
    refine x_iconstN (q := 0) rfl ?_
    refine x_iret rfl rfl ?_
    exact hP
set_option maxRecDepth 20000 in
theorem m_passes_yes {c : Nat} (hE : EvS K B n tc V) (hA : V 74 22 = nI (B + i)) (hc0 : 0 < c) (h : tc i = c) (hP : i < n → P (some (.int (nI 1))) (LY ++ ext) (up V 74 22 (nI (B + i + 1))) VL (vr G)) : Ex (d + 1) mi217 0 (entL [.ref 74, .int (nI c)] 3) [] (LY ++ ext) V VL (vr G) 0 0 P := by
  have h7 := hE.2.2.2.2.2.2 i
  have h3 := hE.2.2.1
  have h4 := hE.2.2.2.1
  have hi : i < n := by
    refine Nat.lt_of_not_le (fun z => ?_)
    have := hE.2.2.2.2.2.1 i z
    omega
  refine x_aload_n rfl rfl ?_
  refine x_aload_n rfl rfl ?_
  refine x_getE (y := 22) rfl rfl rfl (hA) ?_
  refine x_callV (M' := mi216) (As := [_]) (bc1 := 0) (bs1 := 0) (bc2 := 0) (bs2 := 0) rfl rfl rfl rfl ok216 rfl rfl (by decide) rfl rfl rfl rfl rfl rfl ?_
  refine m_codeAt hE (by omega) ?_
  refine x_iload_n rfl rfl ?_
  refine x_icmpN_ne rfl (fun c9 => ?_) (fun c9 => ?_)
  · exact absurd c9 (by first | decide | omega)
  refine x_iconstN (q := 1) rfl ?_
  refine x_goto rfl ?_
  refine x_istore_n (ls' := [_, _, _]) rfl rfl rfl ?_
  refine x_iload_n rfl rfl ?_
  refine x_ifN_eq rfl (fun c19 => ?_) (fun c19 => ?_)
  · exact absurd c19 (by first | decide | omega)
  refine x_aload_n rfl rfl ?_
  refine x_dup rfl rfl ?_
  refine x_getE (y := 22) rfl rfl rfl (hA) ?_
  refine x_iconstN (q := 1) rfl ?_
  refine x_iaddN rfl ?_
  refine x_putI rfl rfl rfl rfl ?_
  refine x_iload_n rfl rfl ?_
  refine x_zret rfl rfl (by first | exact Or.inl rfl | exact Or.inr rfl) ?_
  exact hP hi
set_option maxRecDepth 20000 in
theorem m_passes_no {c : Nat} (hE : EvS K B n tc V) (hA : V 74 22 = nI (B + i)) (hi : i ≤ 1000) (hc : c < 1000) (h : tc i ≠ c) (hP : P (some (.int (nI 0))) (LY ++ ext) V VL (vr G)) : Ex (d + 1) mi217 0 (entL [.ref 74, .int (nI c)] 3) [] (LY ++ ext) V VL (vr G) 0 0 P := by
  have h7 := hE.2.2.2.2.2.2 i
  have h3 := hE.2.2.1
  refine x_aload_n rfl rfl ?_
  refine x_aload_n rfl rfl ?_
  refine x_getE (y := 22) rfl rfl rfl (hA) ?_
  refine x_callV (M' := mi216) (As := [_]) (bc1 := 0) (bs1 := 0) (bc2 := 0) (bs2 := 0) rfl rfl rfl rfl ok216 rfl rfl (by decide) rfl rfl rfl rfl rfl rfl ?_
  refine m_codeAt hE hi ?_
  refine x_iload_n rfl rfl ?_
  refine x_icmpN_ne rfl (fun c9 => ?_) (fun c9 => ?_)
  rotate_left
  · exact absurd c9 (by first | decide | omega)
  refine x_iconstN (q := 0) rfl ?_
  refine x_istore_n (ls' := [_, _, _]) rfl rfl rfl ?_
  refine x_iload_n rfl rfl ?_
  refine x_ifN_eq rfl (fun c19 => ?_) (fun c19 => ?_)
  rotate_left
  · exact absurd c19 (by first | decide | omega)
  refine x_iload_n rfl rfl ?_
  refine x_zret rfl rfl (by first | exact Or.inl rfl | exact Or.inr rfl) ?_
  exact hP
set_option maxRecDepth 20000 in
theorem m_bounded {v : Int64} (hl : l ≤ 1) (hb : V 74 24 = nI b) (hb1 : b ≤ 1) (hP : ∀ (w : Int64) (V' : VIT) (b' : Nat), FrE V V' → V' 74 22 = V 74 22 → V' 74 24 = nI b' → b' ≤ 1 → Rel l b (bndI v.toInt) w b' → P (some (.long w)) (LY ++ ext) V' VL (vr G)) : Ex d mi218 0 (entL [.ref 74, .long v, .int (nI l)] 4) [] (LY ++ ext) V VL (vr G) 0 0 P := by
  have e1 : (1000000000 : Int64).toInt = 1000000000 := rfl
  have e2 : (-1000000000 : Int64).toInt = -1000000000 := rfl
  by_cases c : -1000000000 ≤ v.toInt ∧ v.toInt ≤ 1000000000
  · have es := bndI_some c
    by_cases hbb : b = 0
    · subst hbb
      have hr : Rel l 0 (bndI v.toInt) v 0 := ⟨fun _ _ => ⟨fun a ha => by rw [es] at ha; cases ha; exact ⟨rfl, c.1, c.2, rfl⟩, fun z => by rw [es] at z; cases z⟩, fun _ => rfl⟩
      have hk := hP v V 0 FrE.refl rfl hb (by omega) hr
      rcases (show l = 0 ∨ l = 1 by omega) with rfl | rfl
      · refine x_iload_n rfl rfl ?_
        refine x_ifN_eq rfl (fun c1 => ?_) (fun c1 => ?_)
        rotate_left
        · exact absurd c1 (by first | decide | omega)
        refine x_aload_n rfl rfl ?_
        refine x_getE (y := 24) rfl rfl rfl (hb) ?_
        refine x_ifN_eq rfl (fun c29 => ?_) (fun c29 => ?_)
        rotate_left
        · exact absurd c29 (by first | decide | omega)
        refine x_lload_n rfl rfl ?_
        refine x_lret rfl rfl ?_
        exact hk
      · refine x_iload_n rfl rfl ?_
        refine x_ifN_eq rfl (fun c1 => ?_) (fun c1 => ?_)
        · exact absurd c1 (by first | decide | omega)
        refine x_lload_n rfl rfl ?_
        refine x_ldc2 rfl ?_
        refine x_lcmp rfl ?_
        refine x_if_gt rfl (fun c9 => ?_) (fun c9 => ?_)
        · exact absurd (lgT.mp c9) (by omega)
        refine x_lload_n rfl rfl ?_
        refine x_ldc2 rfl ?_
        refine x_lcmp rfl ?_
        refine x_if_ge rfl (fun c17 => ?_) (fun c17 => ?_)
        rotate_left
        · exact absurd (lgG.mpr (by omega)) c17
        refine x_aload_n rfl rfl ?_
        refine x_getE (y := 24) rfl rfl rfl (hb) ?_
        refine x_ifN_eq rfl (fun c29 => ?_) (fun c29 => ?_)
        rotate_left
        · exact absurd c29 (by first | decide | omega)
        refine x_lload_n rfl rfl ?_
        refine x_lret rfl rfl ?_
        exact hk
    · have e : b = 1 := by omega
      subst e
      have hk := hP 0 V 1 FrE.refl rfl hb (by omega) ⟨fun _ z => absurd z (by omega), fun _ => rfl⟩
      rcases (show l = 0 ∨ l = 1 by omega) with rfl | rfl
      · refine x_iload_n rfl rfl ?_
        refine x_ifN_eq rfl (fun c1 => ?_) (fun c1 => ?_)
        rotate_left
        · exact absurd c1 (by first | decide | omega)
        refine x_aload_n rfl rfl ?_
        refine x_getE (y := 24) rfl rfl rfl (hb) ?_
        refine x_ifN_eq rfl (fun c29 => ?_) (fun c29 => ?_)
        · exact absurd c29 (by first | decide | omega)
        refine x_lconst rfl ?_
        refine x_goto rfl ?_
        refine x_lret rfl rfl ?_
        exact hk
      · refine x_iload_n rfl rfl ?_
        refine x_ifN_eq rfl (fun c1 => ?_) (fun c1 => ?_)
        · exact absurd c1 (by first | decide | omega)
        refine x_lload_n rfl rfl ?_
        refine x_ldc2 rfl ?_
        refine x_lcmp rfl ?_
        refine x_if_gt rfl (fun c9 => ?_) (fun c9 => ?_)
        · exact absurd (lgT.mp c9) (by omega)
        refine x_lload_n rfl rfl ?_
        refine x_ldc2 rfl ?_
        refine x_lcmp rfl ?_
        refine x_if_ge rfl (fun c17 => ?_) (fun c17 => ?_)
        rotate_left
        · exact absurd (lgG.mpr (by omega)) c17
        refine x_aload_n rfl rfl ?_
        refine x_getE (y := 24) rfl rfl rfl (hb) ?_
        refine x_ifN_eq rfl (fun c29 => ?_) (fun c29 => ?_)
        · exact absurd c29 (by first | decide | omega)
        refine x_lconst rfl ?_
        refine x_goto rfl ?_
        refine x_lret rfl rfl ?_
        exact hk
  · have es := bndI_none c
    rcases (show l = 0 ∨ l = 1 by omega) with rfl | rfl
    · rcases (show b = 0 ∨ b = 1 by omega) with rfl | rfl
      · have hk := hP v V 0 FrE.refl rfl hb (by omega) ⟨fun z => absurd z (by omega), fun _ => rfl⟩
        refine x_iload_n rfl rfl ?_
        refine x_ifN_eq rfl (fun c1 => ?_) (fun c1 => ?_)
        rotate_left
        · exact absurd c1 (by first | decide | omega)
        refine x_aload_n rfl rfl ?_
        refine x_getE (y := 24) rfl rfl rfl (hb) ?_
        refine x_ifN_eq rfl (fun c29 => ?_) (fun c29 => ?_)
        rotate_left
        · exact absurd c29 (by first | decide | omega)
        refine x_lload_n rfl rfl ?_
        refine x_lret rfl rfl ?_
        exact hk
      · have hk := hP 0 V 1 FrE.refl rfl hb (by omega) ⟨fun z => absurd z (by omega), fun _ => rfl⟩
        refine x_iload_n rfl rfl ?_
        refine x_ifN_eq rfl (fun c1 => ?_) (fun c1 => ?_)
        rotate_left
        · exact absurd c1 (by first | decide | omega)
        refine x_aload_n rfl rfl ?_
        refine x_getE (y := 24) rfl rfl rfl (hb) ?_
        refine x_ifN_eq rfl (fun c29 => ?_) (fun c29 => ?_)
        · exact absurd c29 (by first | decide | omega)
        refine x_lconst rfl ?_
        refine x_goto rfl ?_
        refine x_lret rfl rfl ?_
        exact hk
    · have hk := hP 0 (up V 74 24 (nI 1)) 1 FrE.refl.br rfl up_at (by omega) ⟨fun _ _ => ⟨fun a ha => (by rw [es] at ha; cases ha), fun _ => rfl⟩, fun z => by omega⟩
      by_cases c2 : 1000000000 < v.toInt
      · refine x_iload_n rfl rfl ?_
        refine x_ifN_eq rfl (fun c1 => ?_) (fun c1 => ?_)
        · exact absurd c1 (by first | decide | omega)
        refine x_lload_n rfl rfl ?_
        refine x_ldc2 rfl ?_
        refine x_lcmp rfl ?_
        refine x_if_gt rfl (fun c9 => ?_) (fun c9 => ?_)
        rotate_left
        · exact absurd (lgT.mpr (by omega)) c9
        refine x_aload_n rfl rfl ?_
        refine x_iconstN (q := 1) rfl ?_
        refine x_putZ rfl rfl rfl rfl (by first | exact Or.inl rfl | exact Or.inr rfl) ?_
        refine x_aload_n rfl rfl ?_
        refine x_getE (y := 24) rfl rfl rfl (up_at) ?_
        refine x_ifN_eq rfl (fun c29 => ?_) (fun c29 => ?_)
        · exact absurd c29 (by first | decide | omega)
        refine x_lconst rfl ?_
        refine x_goto rfl ?_
        refine x_lret rfl rfl ?_
        exact hk
      · refine x_iload_n rfl rfl ?_
        refine x_ifN_eq rfl (fun c1 => ?_) (fun c1 => ?_)
        · exact absurd c1 (by first | decide | omega)
        refine x_lload_n rfl rfl ?_
        refine x_ldc2 rfl ?_
        refine x_lcmp rfl ?_
        refine x_if_gt rfl (fun c9 => ?_) (fun c9 => ?_)
        · exact absurd (lgT.mp c9) (by omega)
        refine x_lload_n rfl rfl ?_
        refine x_ldc2 rfl ?_
        refine x_lcmp rfl ?_
        refine x_if_ge rfl (fun c17 => ?_) (fun c17 => ?_)
        · exact absurd (lgG.mp c17) (by omega)
        refine x_aload_n rfl rfl ?_
        refine x_iconstN (q := 1) rfl ?_
        refine x_putZ rfl rfl rfl rfl (by first | exact Or.inl rfl | exact Or.inr rfl) ?_
        refine x_aload_n rfl rfl ?_
        refine x_getE (y := 24) rfl rfl rfl (up_at) ?_
        refine x_ifN_eq rfl (fun c29 => ?_) (fun c29 => ?_)
        · exact absurd c29 (by first | decide | omega)
        refine x_lconst rfl ?_
        refine x_goto rfl ?_
        refine x_lret rfl rfl ?_
        exact hk
end Ev1
/-! ===== what a reading came to lies in the text ===== -/
def OKr (tc : Nat → Nat) (n i : Nat) (r : PRd) : Prop := r.1 = 1 → i ≤ r.2.1 ∧ r.2.1 ≤ n ∧ ∀ j, i ≤ j → j < r.2.1 → tc j < 200
set_option maxRecDepth 20000 in
theorem OKr.mono {tc : Nat → Nat} {n i i' : Nat} {r : PRd} (h : OKr tc n i' r) (hi : i ≤ i') (ht : ∀ j, i ≤ j → j < i' → tc j < 200) : OKr tc n i r := fun z => by
  obtain ⟨h1, h2, h3⟩ := h z
  refine ⟨by omega, h2, fun j q1 q2 => ?_⟩
  by_cases c : j < i'
  · exact ht j q1 c
  · exact h3 j (by omega) q2
set_option maxRecDepth 20000 in
theorem OKr.tok {tc : Nat → Nat} {n i : Nat} {r : PRd} (h : OKr tc n (i + 1) r) (ht : tc i < 200) : OKr tc n i r := h.mono (by omega) (fun j q1 q2 => by rw [show j = i by omega]; exact ht)
set_option maxRecDepth 20000 in
theorem OKr.bad {tc : Nat → Nat} {n i : Nat} {r : PRd} (h : r.1 ≠ 1) : OKr tc n i r := fun z => absurd z h
set_option maxRecDepth 20000 in
theorem OKr.here {tc : Nat → Nat} {n i p : Nat} {x : Den} (h : i ≤ n) : OKr tc n i (1, i, p, x) := fun _ => ⟨Nat.le_refl _, h, fun j q1 q2 => absurd q2 (Nat.not_lt.mpr q1)⟩
set_option maxRecDepth 20000 in
theorem pbd_ok {tc : Nat → Nat} {n i : Nat} {r : PRd} {k : Nat → Nat → Den → PRd} (h : OKr tc n i r) (hk : ∀ i' p' y, i ≤ i' → i' ≤ n → OKr tc n i' (k i' p' y)) : OKr tc n i (pbd r k) := by
  unfold pbd
  by_cases c : r.1 = 1
  · rw [if_pos c]
    obtain ⟨h1, h2, h3⟩ := h c
    exact (hk _ _ _ h1 h2).mono h1 h3
  · rw [if_neg c]; exact OKr.bad c
set_option maxRecDepth 20000 in
theorem nrun_ok {tc : Nat → Nat} {c n : Nat} (h0 : ∀ j, n ≤ j → tc j = 0) (hc : 0 < c) (hc2 : c < 200) : ∀ m i, i ≤ n → i + nrun tc c i m ≤ n ∧ ∀ j, i ≤ j → j < i + nrun tc c i m → tc j < 200
  | 0, i, hi => ⟨hi, fun j q1 q2 => absurd q2 (Nat.not_lt.mpr q1)⟩
  | m + 1, i, hi => by
    show i + (if tc i = c then nrun tc c (i + 1) m + 1 else 0) ≤ n ∧ ∀ j, i ≤ j → j < i + (if tc i = c then nrun tc c (i + 1) m + 1 else 0) → tc j < 200
    by_cases e : tc i = c
    · have hn : i < n := Nat.lt_of_not_le (fun z => by have := h0 i z; omega)
      obtain ⟨h1, h2⟩ := nrun_ok h0 hc hc2 m (i + 1) hn
      rw [if_pos e]
      refine ⟨by omega, fun j q1 q2 => ?_⟩
      by_cases c3 : j = i
      · rw [c3]; omega
      · exact h2 j (by omega) (by omega)
    · rw [if_neg e]; exact ⟨hi, fun j q1 q2 => absurd q2 (Nat.not_lt.mpr q1)⟩
set_option maxRecDepth 20000 in
theorem prs_ok {o : Bool} {tc tv : Nat → Nat} {n : Nat} (h0 : ∀ j, n ≤ j → tc j = 0) : ∀ f m dp i p x, i ≤ n → OKr tc n i (prs o tc tv f m dp i p x)
  | 0, _, _, _, _, _, _ => OKr.bad (by show ¬ 2 = 1; omega)
  | f + 1, m, dp, i, p, x, hi => by
    have ih := prs_ok (o := o) (tv := tv) h0 f
    have lt : tc i ≠ 0 → i < n := fun z => Nat.lt_of_not_le (fun q => z (h0 i q))
    have lt1 : tc (i + 1) ≠ 0 → i + 1 < n := fun z => Nat.lt_of_not_le (fun q => z (h0 (i + 1) q))
    rw [prs]
    by_cases hm0 : m = 0
    · rw [if_pos hm0]
      exact pbd_ok (ih 2 dp i p x hi) (fun i' p' y a b => ih 1 dp i' p' y b)
    rw [if_neg hm0]
    by_cases hm1 : m = 1
    · rw [if_pos hm1]
      split
      · rename_i e
        exact (pbd_ok (ih 2 dp (i + 1) p x (lt (by omega))) (fun i' p' y a b => ih 1 dp i' p' _ b)).tok (by omega)
      · exact OKr.here hi
    rw [if_neg hm1]
    by_cases hm2 : m = 2
    · rw [if_pos hm2]
      exact pbd_ok (ih 4 dp i p x hi) (fun i' p' y a b => ih 3 dp i' p' y b)
    rw [if_neg hm2]
    by_cases hm3 : m = 3
    · rw [if_pos hm3]
      split
      · rename_i e
        exact (pbd_ok (ih 4 dp (i + 1) p x (lt (by omega))) (fun i' p' y a b => ih 3 dp i' p' _ b)).tok (by omega)
      · exact OKr.here hi
    rw [if_neg hm3]
    by_cases hm4 : m = 4
    · rw [if_pos hm4]
      obtain ⟨h1, h2⟩ := nrun_ok (c := 7) h0 (by omega) (by omega) 401 i hi
      exact (pbd_ok (ih 10 dp _ p x h1) (fun i' p' y a b => OKr.here b)).mono (by omega) h2
    rw [if_neg hm4]
    by_cases hm5 : m = 5
    · rw [if_pos hm5]
      exact pbd_ok (ih 7 dp i p x hi) (fun i' p' y a b => ih 6 dp i' p' y b)
    rw [if_neg hm5]
    by_cases hm6 : m = 6
    · rw [if_pos hm6]
      split
      · rename_i e
        exact (pbd_ok (ih 7 dp (i + 1) p x (lt (by omega))) (fun i' p' y a b => ih 6 dp i' p' _ b)).tok (by omega)
      · exact OKr.here hi
    rw [if_neg hm6]
    by_cases hm7 : m = 7
    · rw [if_pos hm7]
      exact pbd_ok (ih 9 dp i p x hi) (fun i' p' y a b => ih 8 dp i' p' y b)
    rw [if_neg hm7]
    by_cases hm8 : m = 8
    · rw [if_pos hm8]
      split
      · rename_i e
        exact (pbd_ok (ih 9 dp (i + 1) p x (lt (by omega))) (fun i' p' y a b => ih 8 dp i' p' _ b)).tok (by omega)
      · exact OKr.here hi
    rw [if_neg hm8]
    by_cases hm9 : m = 9
    · rw [if_pos hm9]
      split
      · rename_i e
        split
        · exact OKr.bad (by show ¬ 0 = 1; omega)
        · refine (pbd_ok (ih 5 (dp + 1) (i + 1) p x (lt (by omega))) (fun i' p' y a b => ?_)).tok (by omega)
          split
          · rename_i e2
            exact (OKr.here (Nat.lt_of_not_le (fun q => by have := h0 i' q; omega))).tok (by omega)
          · exact OKr.bad (by show ¬ 0 = 1; omega)
      split
      · exact OKr.bad (by show ¬ 0 = 1; omega)
      split
      · rename_i e
        exact (OKr.here (lt (by omega))).tok (by omega)
      split
      · split
        · rename_i e
          exact (OKr.here (lt (by omega))).tok (by omega)
        · exact OKr.bad (by show ¬ 0 = 1; omega)
      split
      · split
        · rename_i e1 e2
          exact ((OKr.here (lt1 (by omega))).tok (by omega)).tok (by omega)
        · exact OKr.bad (by show ¬ 0 = 1; omega)
      split
      · split
        · rename_i e1 e2
          exact ((OKr.here (lt1 (by omega))).tok (by omega)).tok (by omega)
        · exact OKr.bad (by show ¬ 0 = 1; omega)
      split
      · rename_i e
        exact (OKr.here (lt (by omega))).tok (by omega)
      · exact OKr.bad (by show ¬ 0 = 1; omega)
    · rw [if_neg hm9]
      split
      · rename_i e
        split
        · exact OKr.bad (by show ¬ 0 = 1; omega)
        · refine (pbd_ok (ih 0 (dp + 1) (i + 1) p x (lt (by omega))) (fun i' p' y a b => ?_)).tok (by omega)
          split
          · rename_i e2
            exact (OKr.here (Nat.lt_of_not_le (fun q => by have := h0 i' q; omega))).tok (by omega)
          · exact OKr.bad (by show ¬ 0 = 1; omega)
      · refine pbd_ok (ih 5 dp i p x hi) (fun i' p' y a b => ?_)
        split
        · rename_i e
          exact (pbd_ok (ih 5 dp (i' + 1) p' x (Nat.lt_of_not_le (fun q => by have := h0 i' q; omega))) (fun i2 p2 z a2 b2 => OKr.here b2)).tok (by omega)
        · exact OKr.bad (by show ¬ 0 = 1; omega)
