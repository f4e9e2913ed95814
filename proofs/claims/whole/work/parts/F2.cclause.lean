/-! ===== the class reads clauses ===== -/
/-- what stands in the head's last place -/
def TesV (nw : Nat) (wm : Nat → Nat) (V0 V : VIT) (l m fl : Nat) (te : Den) : Prop := (fl = 0 ∧ V 39 (6 * m + 5) = V0 39 (6 * m + 5)) ∨ (fl = 1 ∧ ∃ s, V 39 (6 * m + 5) = nI s ∧ TelV nw wm V l s te)
/-- clause i stands in the class's text -/
def ClaV (nw : Nat) (wm : Nat → Nat) (V : VIT) (l i : Nat) (c : Cla) : Prop := V 39 (6 * i) = nI c.1 ∧ V 39 (6 * i + 1) = nI c.2.1 ∧ ((wm 0 = 8 ∧ c.1 = 2) ∨ (wm 0 = 16 ∧ c.1 = 3 ∧ V 39 (6 * i + 2) = -1) ∨ ∃ s, V 39 (6 * i + 2) = nI s ∧ TelV nw wm V l s c.2.2.1) ∧ (wm 0 = 16 → (c.1 ≠ 0 ∧ V 39 (6 * i + 3) = -1 ∧ V 39 (6 * i + 4) = -1) ∨ (c.1 = 0 ∧ (∃ s, V 39 (6 * i + 3) = nI s ∧ TelV nw wm V l s c.2.2.2.1) ∧ ∃ s, V 39 (6 * i + 4) = nI s ∧ TelV nw wm V l s c.2.2.2.2.1)) ∧ ((c.2.2.2.2.2.1 = 0 ∧ V 39 (6 * i + 5) = -1) ∨ (c.2.2.2.2.2.1 = 1 ∧ ∃ s, V 39 (6 * i + 5) = nI s ∧ TelV nw wm V l s c.2.2.2.2.2.2))
set_option maxRecDepth 20000 in
theorem ClaV.same {nw l l' i : Nat} {wm : Nat → Nat} {V V' : VIT} {c : Cla} (h : ClaV nw wm V l i c) (hl : l ≤ l') (hV : ∀ k, k < l → V' 40 k = V 40 k) (hH : ∀ k, k < 6 * i + 6 → V' 39 k = V 39 k) : ClaV nw wm V' l' i c := by
  obtain ⟨h1, h2, h3, h4, h5⟩ := h
  have t : ∀ {s : Nat} {x : Den}, TelV nw wm V l s x → TelV nw wm V' l' s x := fun q => q.same hl hV
  refine ⟨by rw [hH _ (by omega)]; exact h1, by rw [hH _ (by omega)]; exact h2, ?_, fun w => ?_, ?_⟩
  · rw [hH _ (by omega)]
    rcases h3 with q | q | ⟨s, q1, q2⟩
    · exact Or.inl q
    · exact Or.inr (Or.inl q)
    · exact Or.inr (Or.inr ⟨s, q1, t q2⟩)
  · rw [hH _ (by omega), hH _ (by omega)]
    rcases h4 w with q | ⟨q0, ⟨s, q1, q2⟩, s', q3, q4⟩
    · exact Or.inl q
    · exact Or.inr ⟨q0, ⟨s, q1, t q2⟩, s', q3, t q4⟩
  · rw [hH _ (by omega)]
    rcases h5 with q | ⟨q0, s, q1, q2⟩
    · exact Or.inl q
    · exact Or.inr ⟨q0, s, q1, t q2⟩
def FrK (V0 V : VIT) : Prop := ∀ a k, ¬ (a = 37 ∧ (k = 1 ∨ k = 5 ∨ k = 6)) → ¬ (a = 38 ∧ (k = 2 ∨ k = 3)) → a ≠ 39 → a ≠ 40 → V a k = V0 a k
set_option maxRecDepth 20000 in
theorem FrK.refl {V : VIT} : FrK V V := fun _ _ _ _ _ _ => rfl
set_option maxRecDepth 20000 in
theorem FrTx.frK {V0 V : VIT} (h : FrTx V0 V) : FrK V0 V := fun a k q1 q2 q3 q4 => h a k q1 (by omega) q3 q4
set_option maxRecDepth 20000 in
theorem FrK.trans {V0 V1 V2 : VIT} (h1 : FrK V0 V1) (h2 : FrK V1 V2) : FrK V0 V2 := fun a k q1 q2 q3 q4 => (h2 a k q1 q2 q3 q4).trans (h1 a k q1 q2 q3 q4)
set_option maxRecDepth 20000 in
theorem FrK.up {V0 V : VIT} {k : Nat} {x : Int32} (h : FrK V0 V) (hk : k = 1 ∨ k = 5 ∨ k = 6) : FrK V0 (up V 37 k x) := fun a j q1 q2 q3 q4 => by rw [up_ne2 (by omega)]; exact h a j q1 q2 q3 q4
set_option maxRecDepth 20000 in
theorem CkA.frK {o : Bool} {N : Nat} {ct tc tv pl : Nat → Nat} {V V' : VIT} (h : CkA o N ct tc tv pl V) (hF : FrK V V') : CkA o N ct tc tv pl V' := by
  obtain ⟨h1, h2, h3, h4⟩ := h
  refine ⟨fun i hi => ?_, by rw [hF 37 4 (by omega) (by omega) (by omega) (by omega)]; exact h2, by rw [hF 37 7 (by omega) (by omega) (by omega) (by omega)]; exact h3, h4⟩
  rw [hF 41 i (by omega) (by omega) (by omega) (by omega), hF 42 i (by omega) (by omega) (by omega) (by omega)]
  exact h1 i hi
set_option maxRecDepth 20000 in
theorem neg_sub1 {t : Nat} (h : t < 1000) : nI t - nI 1000 < nI 1 := by
  have h1 := neg_sub h
  rw [Int32.lt_iff_toInt_lt] at h1 ⊢
  rw [show (0 : Int32).toInt = 0 from rfl] at h1
  rw [nI_toInt (by omega)]
  omega
section ReadG
variable {d : Nat} {V0 V : VIT} {VL : VLT} {G : VRT} {P : Post} {ext : HL} {o : Bool} {N f nw i p l m : Nat} {ct tc tv pl wm : Nat → Nat}
set_option maxRecDepth 20000 in
theorem x_cond {kd tm : Nat} {x y z : Den} (hnw : nw = if o = true then 36 else 9) (hwm : wm = if o = true then owm else lwm) (hA : CkA o N ct tc tv pl V) (hS : CS i p l V) (h2 : V 38 2 = nI (m + 1)) (hm : m < 12) (hi : i ≤ N) (hp : p ≤ 50) (hl : l ≤ 2 * i)
  (h1 : ∀ (V' : VIT) (l' i' p' fl : Nat) (te : Den), pIf o tc tv i p kd tm x y z = (1, i', p', kd, tm, x, y, z, fl, te) → FrTx V V' → (∀ j, j ≠ 6 * m + 5 → V' 39 j = V 39 j) → (∀ j, j < l → V' 40 j = V 40 j) → CS i' p' l' V' → i' ≤ N → p' ≤ 50 → i ≤ i' → l' ≤ 2 * i' → l ≤ l' → CodR V' l l' → TesV nw wm V V' l' m fl te → P (some (.int (nI 1))) (LY ++ ext) V' VL (vr G))
  (h0 : ∀ (V' : VIT) (i' : Nat), (pIf o tc tv i p kd tm x y z).1 = 0 → (pIf o tc tv i p kd tm x y z).2.1 = i' → FrTx V V' → V' 37 1 = nI (pl i') → P (some (.int (nI 0))) (LY ++ ext) V' VL (vr G)) : Ex (d + 32) mi54 0 (entL [.ref 37] 1) [] (LY ++ ext) V VL (vr G) 0 0 P := by
  have hN := hA.2.2.2.1
  by_cases h4 : tc i = 4
  · have hin : i < N := Nat.lt_of_not_le (fun z => by have := hA.2.2.2.2.1 i z; omega)
    have hf := pTest_f (o := o) (tv := tv) (p := p) hA.2.2.2.2.1 (show i + 1 ≤ N from hin) hN
    have e2 : pIf o tc tv i p kd tm x y z = (if (pTest o tc tv (i + 1) p).1 = 1 then ((1, (pTest o tc tv (i + 1) p).2.1, (pTest o tc tv (i + 1) p).2.2.1, kd, tm, x, y, z, 1, (pTest o tc tv (i + 1) p).2.2.2) : PCl) else ((pTest o tc tv (i + 1) p).1, (pTest o tc tv (i + 1) p).2.1, (pTest o tc tv (i + 1) p).2.2.1, kd, tm, x, y, z, 1, dz)) := if_pos h4
    refine x_cond1 (d := d) hnw hwm hA hS h2 hm hi hp hl h4 (fun c V' l' g1 g2 g3 g4 g5 g6 g7 g8 g9 => ?_) (fun c V' g1 g2 => ?_)
    · obtain ⟨o1, o2, o3⟩ := prs_ok (o := o) (tv := tv) hA.2.2.2.2.1 PFuel 0 0 (i + 1) p dz hin c
      have op := (prs_c (o := o) (tc := tc) (tv := tv) PFuel 0 0 (i + 1) p dz hp).1 c
      rw [if_pos c] at e2
      exact h1 V' l' _ _ _ _ e2 g1 g2 g4 g5 o2 op (Nat.le_trans (Nat.le_succ i) o1) g6 g7 g8 (Or.inr ⟨rfl, l, g3, g9⟩)
    · rw [if_neg (by omega)] at e2
      exact h0 V' _ (by rw [e2]; exact c) (by rw [e2]) g1 g2
  · have e2 : pIf o tc tv i p kd tm x y z = (1, i, p, kd, tm, x, y, z, 0, dz) := if_neg h4
    exact x_cond0 (d := d + 2) hA hS hi h4 (h1 V l _ _ _ _ e2 FrTx.refl (fun _ _ => rfl) (fun _ _ => rfl) hS hi hp (Nat.le_refl _) hl (Nat.le_refl _) (fun k a b => absurd b (by omega)) (Or.inl ⟨rfl, rfl⟩))
set_option maxRecDepth 20000 in
theorem x_addClause {kd : Nat} (h2 : V 38 2 = nI m) (hm : m < 12) (hP : ∀ V' : VIT, (∀ a k, ¬ (a = 39 ∧ 6 * m ≤ k ∧ k < 6 * m + 6) → ¬ (a = 38 ∧ k = 2) → V' a k = V a k) → V' 38 2 = nI (m + 1) → V' 39 (6 * m) = nI kd → V' 39 (6 * m + 1) = nI 1 → (∀ k, 2 ≤ k → k < 6 → V' 39 (6 * m + k) = -1) → P none (LY ++ ext) V' VL (vr G)) : Ex d mi83 0 (entL [.ref 38, .int (nI kd)] 3) [] (LY ++ ext) V VL (vr G) 0 0 P := by
  have hlp : ∀ (r j : Nat) (V1 : VIT), j + r = 6 → (∀ a k, ¬ (a = 39 ∧ 6 * m ≤ k ∧ k < 6 * m + 6) → V1 a k = V a k) → (∀ k, k < j → V1 39 (6 * m + k) = -1) → Ex (d + 0) mi83 11 [.ref 38, .int (nI kd), .int (nI j)] [] (LY ++ ext) V1 VL (vr G) 0 0 P := by
    intro r
    induction r with
    | zero =>
      intro j V1 hj hF hk
      have hc : V1 38 2 = nI m := (hF 38 2 (by omega)).trans h2
      have hc1 : ∀ (u : Int32), up V1 39 (m * 6 + 0) u 38 2 = nI m := fun u => (up_ne2 (by omega)).trans hc
      have hc2 : ∀ (u w : Int32), up (up V1 39 (m * 6 + 0) u) 39 (m * 6 + 1) w 38 2 = nI m := fun u w => (up_ne2 (by omega)).trans (hc1 u)
      refine x_iload_n rfl rfl ?_
      refine x_bipushN (q := 6) rfl ?_
      refine x_icmpN_ge rfl (fun c14 => ?_) (fun c14 => ?_)
      rotate_left
      · exact absurd c14 (by first | decide | omega)
      refine x_aload_n rfl rfl ?_
      refine x_getR (u := .ref _) rfl rfl rfl rfl ?_
      refine x_aload_n rfl rfl ?_
      refine x_getE (y := 2) rfl rfl rfl hc ?_
      refine x_bipushN (q := 6) rfl ?_
      refine x_imulN rfl ?_
      refine x_iconstN (q := 0) rfl ?_
      refine x_iaddN rfl ?_
      refine x_iload_n rfl rfl ?_
      refine x_iasN (j := m * 6 + 0) rfl rfl (rfl) (by omega) ?_
      refine x_aload_n rfl rfl ?_
      refine x_getR (u := .ref _) rfl rfl rfl rfl ?_
      refine x_aload_n rfl rfl ?_
      refine x_getE (y := 2) rfl rfl rfl (hc1 _) ?_
      refine x_bipushN (q := 6) rfl ?_
      refine x_imulN rfl ?_
      refine x_iconstN (q := 1) rfl ?_
      refine x_iaddN rfl ?_
      refine x_iconstN (q := 1) rfl ?_
      refine x_iasN (j := m * 6 + 1) rfl rfl (rfl) (by omega) ?_
      refine x_aload_n rfl rfl ?_
      refine x_dup rfl rfl ?_
      refine x_getE (y := 2) rfl rfl rfl (hc2 _ _) ?_
      refine x_iconstN (q := 1) rfl ?_
      refine x_iaddN rfl ?_
      refine x_putI rfl rfl rfl rfl ?_
      refine x_vret rfl rfl ?_
      refine hP _ (fun a k q1 q2 => ?_) up_at ?_ ?_ (fun k q1 q2 => ?_)
      · rw [up_ne2 (by omega), up_ne2 (by omega), up_ne2 (by omega)]; exact hF a k q1
      · rw [up_ne (by omega), up_at' (by omega), show m * 6 + 0 = 6 * m by omega, up_at]
      · rw [up_ne (by omega), show m * 6 + 1 = 6 * m + 1 by omega, up_at]
      · rw [up_ne (by omega), up_at' (by omega), up_at' (by omega)]; exact hk k (by omega)
    | succ r ih =>
      intro j V1 hj hF hk
      have hc : V1 38 2 = nI m := (hF 38 2 (by omega)).trans h2
      refine x_iload_n rfl rfl ?_
      refine x_bipushN (q := 6) rfl ?_
      refine x_icmpN_ge rfl (fun c14 => ?_) (fun c14 => ?_)
      · exact absurd c14 (by first | decide | omega)
      refine x_aload_n rfl rfl ?_
      refine x_getR (u := .ref _) rfl rfl rfl rfl ?_
      refine x_aload_n rfl rfl ?_
      refine x_getE (y := 2) rfl rfl rfl hc ?_
      refine x_bipushN (q := 6) rfl ?_
      refine x_imulN rfl ?_
      refine x_iload_n rfl rfl ?_
      refine x_iaddN rfl ?_
      refine x_iconst rfl ?_
      refine x_iasN (j := m * 6 + j) rfl rfl (rfl) (by omega) ?_
      refine x_iincN (q := 1) (ls' := [_, _, _]) rfl rfl rfl rfl ?_
      refine x_goto rfl ?_
      refine ih (j + 1) _ (by omega) (fun a k q => ?_) (fun k q => ?_)
      · rw [up_ne2 (by omega)]; exact hF a k q
      · by_cases c : k = j
        · rw [c, show 6 * m + j = m * 6 + j by omega, up_at]
        · rw [up_at' (by omega)]; exact hk k (by omega)
  refine x_aload_n rfl rfl ?_
  refine x_getE (y := 2) rfl rfl rfl h2 ?_
  refine x_bipushN (q := 12) rfl ?_
  refine x_icmpN_ge rfl (fun c6 => ?_) (fun c6 => ?_)
  · exact absurd c6 (by first | decide | omega)
  refine x_iconstN (q := 0) rfl ?_
  refine x_istore_n (ls' := [_, _, _]) rfl rfl rfl ?_
  exact hlp 6 0 V (by omega) (fun _ _ _ => rfl) (fun k q => absurd q (by omega))
set_option maxRecDepth 20000 in
theorem addC_S {V' : VIT} (hS : CS i p l V) (hF : ∀ a k, ¬ (a = 39 ∧ 6 * m ≤ k ∧ k < 6 * m + 6) → ¬ (a = 38 ∧ k = 2) → V' a k = V a k) : CS i p l V' := ⟨(hF 37 5 (by omega) (by omega)).trans hS.1, (hF 37 6 (by omega) (by omega)).trans hS.2.1, (hF 37 1 (by omega) (by omega)).trans hS.2.2.1, (hF 38 3 (by omega) (by omega)).trans hS.2.2.2⟩
set_option maxRecDepth 20000 in
theorem addC_F {V' : VIT} (hF0 : FrK V0 V) (hF : ∀ a k, ¬ (a = 39 ∧ 6 * m ≤ k ∧ k < 6 * m + 6) → ¬ (a = 38 ∧ k = 2) → V' a k = V a k) : FrK V0 V' := fun a k q1 q2 q3 q4 => (hF a k (by omega) (by omega)).trans (hF0 a k q1 q2 q3 q4)
set_option maxRecDepth 20000 in
theorem x_lawClause (hA : CkA false N ct tc tv pl V) (hS : CS i p l V) (h2 : V 38 2 = nI m) (hm : m < 12) (hi : i ≤ N) (hp : p ≤ 50) (hl : l ≤ 2 * i)
  (h1 : ∀ (V' : VIT) (l' i' p' : Nat) (c : Cla), pLawC tc tv i p = (1, i', p', c) → FrK V V' → (∀ j, j < 6 * m → V' 39 j = V 39 j) → (∀ j, j < l → V' 40 j = V 40 j) → CS i' p' l' V' → V' 38 2 = nI (m + 1) → i' ≤ N → p' ≤ 50 → i < i' → l' ≤ 2 * i' → l ≤ l' → CodR V' l l' → ClaV 9 lwm V' l' m c → P (some (.int (nI 1))) (LY ++ ext) V' VL (vr G))
  (h0 : ∀ (V' : VIT) (i' : Nat), (pLawC tc tv i p).1 = 0 → (pLawC tc tv i p).2.1 = i' → FrK V V' → V' 37 1 = nI (pl i') → P (some (.int (nI 0))) (LY ++ ext) V' VL (vr G)) : Ex (d + 33) mi51 0 (entL [.ref 37] 2) [] (LY ++ ext) V VL (vr G) 0 0 P := by
  have hN := hA.2.2.2.1
  obtain ⟨-, -, hTR, hct⟩ := hA.1 i hi
  obtain ⟨k1, k2⟩ := hTR.kind
  have hw0 : lwm 0 = 8 := rfl
  by_cases c : 1 ≤ tc i ∧ tc i ≤ 3
  · have ek := k2 c.1 c.2
    have hin : i < N := Nat.lt_of_not_le (fun z => by have := hA.2.2.2.2.1 i z; omega)
    have hFt : FrK V (up V 37 5 (nI (i + 1))) := FrK.refl.up (by omega)
    have hlow : ∀ (V2 V3 : VIT), (∀ a k, ¬ (a = 39 ∧ 6 * m ≤ k ∧ k < 6 * m + 6) → ¬ (a = 38 ∧ k = 2) → V2 a k = (up V 37 5 (nI (i + 1))) a k) → (∀ j, j < 6 * m → V3 39 j = V2 39 j) → ∀ j, j < 6 * m → V3 39 j = V 39 j := fun V2 V3 q1 q2 j hj => by rw [q2 j hj, q1 39 j (by omega) (by omega), up_ne2 (by omega)]
    have hlow2 : ∀ (V2 V3 : VIT), (∀ a k, ¬ (a = 39 ∧ 6 * m ≤ k ∧ k < 6 * m + 6) → ¬ (a = 38 ∧ k = 2) → V2 a k = (up V 37 5 (nI (i + 1))) a k) → (∀ j, j < l → V3 40 j = V2 40 j) → ∀ j, j < l → V3 40 j = V 40 j := fun V2 V3 q1 q2 j hj => by rw [q2 j hj, q1 40 j (by omega) (by omega), up_ne2 (by omega)]
    by_cases c3 : tc i = 3
    · have e : pLawC tc tv i p = pIf false tc tv (i + 1) p 2 1 dz dz dz := by
        unfold pLawC
        rw [if_neg (by omega), if_pos c3]
      rw [e] at h0
      refine x_aload_n rfl rfl ?_
      refine x_callV (M' := mi48) (As := []) (bc1 := 0) (bs1 := 0) (bc2 := 0) (bs2 := 0) rfl rfl rfl rfl ok48 rfl rfl (by decide) rfl rfl rfl rfl rfl rfl ?_
      refine x_token hA hS.1 hi ?_
      refine x_istore_n (ls' := [_, _]) rfl rfl rfl ?_
      refine x_iload_n rfl rfl ?_
      refine x_sipushN (q := 300) rfl ?_
      refine x_icmpN_lt rfl (fun c9 => ?_) (fun c9 => ?_)
      · exact absurd c9 (by first | decide | omega)
      refine x_iload_n rfl rfl ?_
      refine x_sipushN (q := 302) rfl ?_
      refine x_icmpN_le rfl (fun c16 => ?_) (fun c16 => ?_)
      rotate_left
      · exact absurd c16 (by first | decide | omega)
      refine x_aload_n rfl rfl ?_
      refine x_dup rfl rfl ?_
      refine x_getE (y := 5) rfl rfl rfl hS.1 ?_
      refine x_iconstN (q := 1) rfl ?_
      refine x_iaddN rfl ?_
      refine x_putI rfl rfl rfl rfl ?_
      refine x_aload_n rfl rfl ?_
      refine x_getR (u := .ref _) rfl rfl rfl rfl ?_
      refine x_iload_n rfl rfl ?_
      refine x_sipushN (q := 300) rfl ?_
      refine x_isubN rfl ?_
      refine x_callV (M' := mi83) (As := [_]) (bc1 := 0) (bs1 := 0) (bc2 := 0) (bs2 := 0) rfl rfl rfl rfl ok83 rfl rfl (by decide) rfl rfl rfl rfl rfl rfl ?_
      refine x_addClause ((up_ne2 (by omega)).trans h2) hm (fun V2 a1 a2 a3 a4 a5 => ?_)
      refine x_iload_n rfl rfl ?_
      refine x_sipushN (q := 302) rfl ?_
      refine x_icmpN_eq rfl (fun c50 => ?_) (fun c50 => ?_)
      rotate_left
      · exact absurd c50 (by first | decide | omega)
      skip
      have hF2 := addC_F hFt a1
      have hS2 := addC_S hS.tok a1
      refine x_aload_n rfl rfl ?_
      refine x_callV (M' := mi54) (As := []) (bc1 := 0) (bs1 := 0) (bc2 := 0) (bs2 := 0) rfl rfl rfl rfl ok54 rfl rfl (by decide) rfl rfl rfl rfl rfl rfl ?_
      refine x_cond (kd := 2) (tm := 1) (x := dz) (y := dz) (z := dz) (nw := 9) (wm := lwm) (d := d) rfl rfl (hA.frK hF2) hS2 a2 hm hin hp (by omega) (fun V3 l3 i3 p3 fl te q0 q1 q2 q3 q4 q5 q6 q7 q8 q9 q10 q11 => ?_) (fun V3 i3 q0 q1 q2 q3 => ?_)
      skip
      · refine x_ifN_eq rfl (fun c65 => ?_) (fun c65 => ?_)
        · exact absurd c65 (by first | decide | omega)
        refine x_iconstN (q := 1) rfl ?_
        refine x_goto rfl ?_
        refine x_zret rfl rfl (by first | exact Or.inl rfl | exact Or.inr rfl) ?_
        refine h1 V3 l3 i3 p3 _ (e.trans q0) (hF2.trans q1.frK) (hlow V2 V3 a1 (fun j hj => q2 j (by omega))) (hlow2 V2 V3 a1 q3) q4 ?_ q5 q6 (by omega) q8 q9 q10 ⟨?_, ?_, Or.inl ⟨hw0, rfl⟩, fun z => absurd z (by rw [hw0]; omega), ?_⟩
        · rw [q1 38 2 (by omega) (by omega) (by omega) (by omega)]; exact a2
        · rw [q2 _ (by omega), a3]
          show nI (ct i - 300) = nI 2
          rw [show ct i - 300 = 2 by omega]
        · rw [q2 _ (by omega)]; exact a4
        · rcases q11 with ⟨t1, t2⟩ | ⟨t1, s, t2, t3⟩
          · exact Or.inl ⟨t1, t2.trans (a5 5 (by omega) (by omega))⟩
          · exact Or.inr ⟨t1, s, t2, t3⟩
      · refine x_ifN_eq rfl (fun c65 => ?_) (fun c65 => ?_)
        rotate_left
        · exact absurd c65 (by first | decide | omega)
        refine x_iconstN (q := 0) rfl ?_
        refine x_zret rfl rfl (by first | exact Or.inl rfl | exact Or.inr rfl) ?_
        exact h0 V3 i3 q0 q1 (hF2.trans q2.frK) q3
    · have e : pLawC tc tv i p = if (pSum false tc tv (i + 1) p).1 = 1 then pIf false tc tv (pSum false tc tv (i + 1) p).2.1 (pSum false tc tv (i + 1) p).2.2.1 (tc i - 1) 1 (pSum false tc tv (i + 1) p).2.2.2 dz dz else ((pSum false tc tv (i + 1) p).1, (pSum false tc tv (i + 1) p).2.1, (pSum false tc tv (i + 1) p).2.2.1, 0, 1, dz, dz, dz, 0, dz) := by
        unfold pLawC
        rw [if_pos (by omega)]
      refine x_aload_n rfl rfl ?_
      refine x_callV (M' := mi48) (As := []) (bc1 := 0) (bs1 := 0) (bc2 := 0) (bs2 := 0) rfl rfl rfl rfl ok48 rfl rfl (by decide) rfl rfl rfl rfl rfl rfl ?_
      refine x_token hA hS.1 hi ?_
      refine x_istore_n (ls' := [_, _]) rfl rfl rfl ?_
      refine x_iload_n rfl rfl ?_
      refine x_sipushN (q := 300) rfl ?_
      refine x_icmpN_lt rfl (fun c9 => ?_) (fun c9 => ?_)
      · exact absurd c9 (by first | decide | omega)
      refine x_iload_n rfl rfl ?_
      refine x_sipushN (q := 302) rfl ?_
      refine x_icmpN_le rfl (fun c16 => ?_) (fun c16 => ?_)
      rotate_left
      · exact absurd c16 (by first | decide | omega)
      refine x_aload_n rfl rfl ?_
      refine x_dup rfl rfl ?_
      refine x_getE (y := 5) rfl rfl rfl hS.1 ?_
      refine x_iconstN (q := 1) rfl ?_
      refine x_iaddN rfl ?_
      refine x_putI rfl rfl rfl rfl ?_
      refine x_aload_n rfl rfl ?_
      refine x_getR (u := .ref _) rfl rfl rfl rfl ?_
      refine x_iload_n rfl rfl ?_
      refine x_sipushN (q := 300) rfl ?_
      refine x_isubN rfl ?_
      refine x_callV (M' := mi83) (As := [_]) (bc1 := 0) (bs1 := 0) (bc2 := 0) (bs2 := 0) rfl rfl rfl rfl ok83 rfl rfl (by decide) rfl rfl rfl rfl rfl rfl ?_
      refine x_addClause ((up_ne2 (by omega)).trans h2) hm (fun V2 a1 a2 a3 a4 a5 => ?_)
      refine x_iload_n rfl rfl ?_
      refine x_sipushN (q := 302) rfl ?_
      refine x_icmpN_eq rfl (fun c50 => ?_) (fun c50 => ?_)
      · exact absurd c50 (by first | decide | omega)
      skip
      have hF2 := addC_F hFt a1
      have hS2 := addC_S hS.tok a1
      refine x_aload_n rfl rfl ?_
      refine x_iconstN (q := 2) rfl ?_
      refine x_callV (M' := mi55) (As := [_]) (bc1 := 0) (bs1 := 0) (bc2 := 0) (bs2 := 0) rfl rfl rfl rfl ok55 rfl rfl (by decide) rfl rfl rfl rfl rfl rfl ?_
      refine x_ws (nw := 9) (wm := lwm) (k := 2) (d := d + 2) rfl rfl (hA.frK hF2) hS2 a2 hm hin hp (by omega) (by omega) (by omega) (fun cs V3 l3 b1 b2 b3 b4 b5 b6 b7 b8 b9 => ?_) (fun cs V3 b1 b2 => ?_)
      skip
      · rw [if_pos cs] at e
        rw [e] at h0
        obtain ⟨o1, o2, o3⟩ := prs_ok (o := false) (tv := tv) hA.2.2.2.2.1 PFuel 5 0 (i + 1) p dz hin cs
        have op := (prs_c (o := false) (tc := tc) (tv := tv) PFuel 5 0 (i + 1) p dz hp).1 cs
        change i + 1 ≤ (pSum false tc tv (i + 1) p).2.1 at o1
        change (pSum false tc tv (i + 1) p).2.1 ≤ N at o2
        change (pSum false tc tv (i + 1) p).2.2.1 ≤ 50 at op
        have h2' : V3 38 2 = nI (m + 1) := by rw [b1 38 2 (by omega) (by omega) (by omega) (by omega)]; exact a2
        generalize (pSum false tc tv (i + 1) p).2.1 = i3 at *
        generalize (pSum false tc tv (i + 1) p).2.2.1 = p3 at *
        generalize (pSum false tc tv (i + 1) p).2.2.2 = x3 at *
        have hF3 := hF2.trans b1.frK
        refine x_ifN_eq rfl (fun c58 => ?_) (fun c58 => ?_)
        · exact absurd c58 (by first | decide | omega)
        refine x_aload_n rfl rfl ?_
        refine x_callV (M' := mi54) (As := []) (bc1 := 0) (bs1 := 0) (bc2 := 0) (bs2 := 0) rfl rfl rfl rfl ok54 rfl rfl (by decide) rfl rfl rfl rfl rfl rfl ?_
        refine x_cond (kd := tc i - 1) (tm := 1) (x := x3) (y := dz) (z := dz) (nw := 9) (wm := lwm) (d := d) rfl rfl (hA.frK hF3) b5 h2' hm o2 op b6 (fun V4 l4 i4 p4 fl te q0 q1 q2 q3 q4 q5 q6 q7 q8 q9 q10 q11 => ?_) (fun V4 i4 q0 q1 q2 q3 => ?_)
        skip
        · refine x_ifN_eq rfl (fun c65 => ?_) (fun c65 => ?_)
          · exact absurd c65 (by first | decide | omega)
          refine x_iconstN (q := 1) rfl ?_
          refine x_goto rfl ?_
          refine x_zret rfl rfl (by first | exact Or.inl rfl | exact Or.inr rfl) ?_
          refine h1 V4 l4 i4 p4 _ (e.trans q0) (hF3.trans q1.frK) (hlow V2 V4 a1 (fun j hj => by rw [q2 j (by omega), b2 j (by omega)])) (hlow2 V2 V4 a1 (fun j hj => by rw [q3 j (by omega), b4 j hj])) q4 ?_ q5 q6 (by omega) q8 (by omega) (CodR.join (CodR.same b8 (fun k _ b => q3 k b)) q10) ⟨?_, ?_, Or.inr (Or.inr ⟨l, ?_, b9.same q9 q3⟩), fun z => absurd z (by rw [hw0]; omega), ?_⟩
          · rw [q1 38 2 (by omega) (by omega) (by omega) (by omega)]; exact h2'
          · rw [q2 _ (by omega), b2 _ (by omega), a3]
            show nI (ct i - 300) = nI (tc i - 1)
            rw [show ct i - 300 = tc i - 1 by omega]
          · rw [q2 _ (by omega), b2 _ (by omega)]; exact a4
          · rw [q2 _ (by omega)]; exact b3
          · rcases q11 with ⟨t1, t2⟩ | ⟨t1, s, t2, t3⟩
            · exact Or.inl ⟨t1, t2.trans ((b2 _ (by omega)).trans (a5 5 (by omega) (by omega)))⟩
            · exact Or.inr ⟨t1, s, t2, t3⟩
        · refine x_ifN_eq rfl (fun c65 => ?_) (fun c65 => ?_)
          rotate_left
          · exact absurd c65 (by first | decide | omega)
          refine x_iconstN (q := 0) rfl ?_
          refine x_zret rfl rfl (by first | exact Or.inl rfl | exact Or.inr rfl) ?_
          exact h0 V4 i4 q0 q1 (hF3.trans q2.frK) q3
      · rw [if_neg (by omega)] at e
        rw [e] at h0
        refine x_ifN_eq rfl (fun c58 => ?_) (fun c58 => ?_)
        rotate_left
        · exact absurd c58 (by first | decide | omega)
        refine x_iconstN (q := 0) rfl ?_
        refine x_zret rfl rfl (by first | exact Or.inl rfl | exact Or.inr rfl) ?_
        exact h0 V3 _ cs rfl (hF2.trans b1.frK) b2
  · have e : pLawC tc tv i p = (0, i, p, 0, 1, dz, dz, dz, 0, dz) := by
      unfold pLawC
      rw [if_neg (by omega), if_neg (by omega)]
    rw [e] at h0
    have hk := h0 (up V 37 1 (nI (pl i))) i rfl rfl (FrK.refl.up (by omega)) up_at
    by_cases c3 : 300 ≤ ct i
    · refine x_aload_n rfl rfl ?_
      refine x_callV (M' := mi48) (As := []) (bc1 := 0) (bs1 := 0) (bc2 := 0) (bs2 := 0) rfl rfl rfl rfl ok48 rfl rfl (by decide) rfl rfl rfl rfl rfl rfl ?_
      refine x_token hA hS.1 hi ?_
      refine x_istore_n (ls' := [_, _]) rfl rfl rfl ?_
      refine x_iload_n rfl rfl ?_
      refine x_sipushN (q := 300) rfl ?_
      refine x_icmpN_lt rfl (fun c9 => ?_) (fun c9 => ?_)
      · exact absurd c9 (by first | decide | omega)
      refine x_iload_n rfl rfl ?_
      refine x_sipushN (q := 302) rfl ?_
      refine x_icmpN_le rfl (fun c16 => ?_) (fun c16 => ?_)
      · exact absurd c16 (by first | decide | omega)
      refine x_aload_n rfl rfl ?_
      refine x_callV (M' := mi49) (As := []) (bc1 := 0) (bs1 := 0) (bc2 := 0) (bs2 := 0) rfl rfl rfl rfl ok49 rfl rfl (by decide) rfl rfl rfl rfl rfl rfl ?_
      refine x_wrong hA hS.1 hi ?_
      refine x_zret rfl rfl (by first | exact Or.inl rfl | exact Or.inr rfl) ?_
      exact hk
    · refine x_aload_n rfl rfl ?_
      refine x_callV (M' := mi48) (As := []) (bc1 := 0) (bs1 := 0) (bc2 := 0) (bs2 := 0) rfl rfl rfl rfl ok48 rfl rfl (by decide) rfl rfl rfl rfl rfl rfl ?_
      refine x_token hA hS.1 hi ?_
      refine x_istore_n (ls' := [_, _]) rfl rfl rfl ?_
      refine x_iload_n rfl rfl ?_
      refine x_sipushN (q := 300) rfl ?_
      refine x_icmpN_lt rfl (fun c9 => ?_) (fun c9 => ?_)
      rotate_left
      · exact absurd c9 (by first | decide | omega)
      refine x_aload_n rfl rfl ?_
      refine x_callV (M' := mi49) (As := []) (bc1 := 0) (bs1 := 0) (bc2 := 0) (bs2 := 0) rfl rfl rfl rfl ok49 rfl rfl (by decide) rfl rfl rfl rfl rfl rfl ?_
      refine x_wrong hA hS.1 hi ?_
      refine x_zret rfl rfl (by first | exact Or.inl rfl | exact Or.inr rfl) ?_
      exact hk
end ReadG
