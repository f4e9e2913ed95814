/-! ===== orders: the class's; joined ===== -/
/-- what the class's orders may write -/
def FrXD (V0 V : VIT) : Prop := ∀ a k, ¬ (a = 0 ∧ (k = 13 ∨ k = 14 ∨ k = 16 ∨ k = 17)) → ¬ (2 ≤ a ∧ a ≤ 12) → ¬ (37 ≤ a ∧ a ≤ 60) → a ≠ 73 → V a k = V0 a k
set_option maxRecDepth 20000 in
theorem FrQx.xd {V0 V : VIT} (h : FrQx V0 V) : FrXD V0 V := fun a k q1 q2 q3 q4 => h a k (by omega) (by omega) (by omega) (by omega) (by omega) (by omega)
set_option maxRecDepth 20000 in
theorem FrRn.xd {V0 V : VIT} (h : FrRn V0 V) : FrXD V0 V := fun a k q1 q2 q3 q4 => h a k (by omega) (by omega) (by omega)
set_option maxRecDepth 20000 in
theorem FrXD.trans {V0 V1 V2 : VIT} (h1 : FrXD V0 V1) (h2 : FrXD V1 V2) : FrXD V0 V2 := fun a k q1 q2 q3 q4 => (h2 a k q1 q2 q3 q4).trans (h1 a k q1 q2 q3 q4)
set_option maxRecDepth 20000 in
theorem Laws.lay {K : KT} {w N : Nat} {tc tv : Nat → Nat} {lay : HL} {VI VI' : VIT} {VR : VRT} (h : Laws K w lay VI VR) (hw : K 96 ≤ 6) (hN : N ≤ 400) (hV : ∀ a, 100 ≤ a → VI' a = VI a) : Laws (layK K 6 N tc tv) w lay VI' VR := by
  intro t ht
  rw [layK_lo (by omega)] at ht
  obtain ⟨b, h1, h2, h3, h4⟩ := h t ht
  refine ⟨b, h1, h2, h3, ?_⟩
  have h5 := h4.same (ext := []) (K' := layK K 6 N tc tv) (VI' := VI') (lay_law hN (by omega) (by omega) (by omega)) (fun k hk => lay_law hN (by omega) (by omega) (by omega)) (fun k hk => lay_law hN (by omega) (by omega) (by omega)) (fun a ha _ => hV a ha)
  rw [List.append_nil] at h5
  exact h5
set_option maxRecDepth 20000 in
theorem RW.lay {w N : Nat} {K : KT} {tc tv : Nat → Nat} {V : VIT} (h : RW w K V) (hW : WF K) : RW w (layK K 6 N tc tv) V := h.keep hW.n hW.2.1 hW.2.2.1 (fun i hi _ _ _ => layK_lo hi) (fun _ _ _ => rfl) (by rw [layK_lo (by omega)]; exact h.t0) (by rw [layK_lo (by omega)]; exact h.t1) (by rw [layK_lo (by omega)]; exact h.t2)
section COrd
variable {d : Nat} {V : VIT} {VL : VLT} {G : VRT} {P : Post} {ext : HL} {tn u : Nat} {T tc tv : Nat → Nat} {K : KT} {US : Nat → KT} {lg : Nat → Nat}
set_option maxRecDepth 20000 in
theorem x_orders (hR : Refs (LY ++ ext) (vr G)) (hs : okO (K, u, US, lg, 0, -1)) (hX : RW 3 K V) (hu : V 45 2 = nI u) (hg : ∀ i, i < u → V 46 i = nI (lg i)) (hL : Laws K 13 (LY ++ ext) V (vr G)) (h13 : V 0 13 = nI tn) (htn : tn ≤ 400) (hT : ∀ k, k < tn → T k < 256 ∧ V 72 k = nI (T k)) (hK : TokC T tn tc tv)
  (h1 : (pTxt true tc tv (Tks T tn).length 12 0 0).1 = 1 → ∀ (s' : OS) (V' : VIT), lsO (pTxt true tc tv (Tks T tn).length 12 0 0).2.2 0 (layK K 6 (Tks T tn).length tc tv, u, US, lg, 0, -1) = .inl s' → okO s' → s'.2.2.2.2.1 ≤ 1000 → (∀ k, 39 ≤ k → s'.1 k = layK K 6 (Tks T tn).length tc tv k) → RW 3 s'.1 V' → V' 45 2 = nI s'.2.1 → (∀ i, i < s'.2.1 → V' 46 i = nI (s'.2.2.2.1 i)) → FrXD V V' → V' 73 = V 73 → V' 0 13 = nI 0 → V' 0 14 = -1 → V' 0 16 = -1 → V' 0 17 = 0 → P (some (.int (nI s'.2.2.2.2.1))) (LY ++ ext) V' VL (vr (cpG G 57 13 6)))
  (h0 : (pTxt true tc tv (Tks T tn).length 12 0 0).1 = 1 → ∀ (n : Nat) (V' : VIT), lsO (pTxt true tc tv (Tks T tn).length 12 0 0).2.2 0 (layK K 6 (Tks T tn).length tc tv, u, US, lg, 0, -1) = .inr n → n < 12 → RW 3 (layK K 6 (Tks T tn).length tc tv) V' → V' 45 2 = nI u → (∀ i, i < u → V' 46 i = nI (lg i)) → FrXD V V' → (∀ k, k ≠ 2 → V' 73 k = V 73 k) → V' 73 2 = V 73 2 + 1 → V' 0 13 = nI 0 → V' 0 14 = -1 → V' 0 16 = nI n → V' 0 17 = -3 → P (some (.int (-3))) (LY ++ ext) V' VL (vr (cpG (cpG G 57 13 6) 13 57 6)))
  (h2 : (pTxt true tc tv (Tks T tn).length 12 0 0).1 = 0 → ∀ V' : VIT, FrXD V V' → (∀ a k, 2 ≤ a → a ≤ 12 → V' a k = V a k) → (∀ a k, 43 ≤ a → a ≤ 60 → V' a k = V a k) → (∀ k, k ≠ 5 → V' 73 k = V 73 k) → V' 73 5 = V 73 5 + 1 → V' 0 13 = nI 0 → V' 0 14 = nI (plT T tn (pTxt true tc tv (Tks T tn).length 12 0 0).2.1) → V' 0 16 = -1 → V' 0 17 = -6 → P (some (.int (-6))) (LY ++ ext) V' VL (vr G)) : Ex (d + 35) mi119 0 (entL [.ref 0] 3) [] (LY ++ ext) V VL (vr G) 0 0 P := by
  have hW : WF K := hs.1
  have hlen : (Tks T tn).length ≤ tn - 0 := tks_len tn 0
  have hN : (Tks T tn).length ≤ 400 := by omega
  have hT1 : ∀ k, k < tn → T k < 256 ∧ (up V 0 13 0) 72 k = nI (T k) := fun k hk => ⟨(hT k hk).1, by rw [up_ne (by omega)]; exact (hT k hk).2⟩
  have hF0 : FrXD V (up V 0 13 0) := fun a k q1 q2 q3 q4 => up_ne2 (by omega)
  refine x_aload_n rfl rfl ?_
  refine x_getR (u := .ref _) rfl rfl rfl rfl ?_
  refine x_aload_n rfl rfl ?_
  refine x_getR (u := .ref _) rfl rfl rfl rfl ?_
  refine x_aload_n rfl rfl ?_
  refine x_callV (M' := mi148) (As := []) (bc1 := 0) (bs1 := 0) (bc2 := 0) (bs2 := 0) rfl rfl rfl rfl ok148 rfl rfl (by decide) rfl rfl rfl rfl rfl rfl ?_
  refine s_takenTape ?_
  rw [h13]
  refine x_iconstN (q := 1) rfl ?_
  refine x_callV (M' := mi40) (As := [_, _, _]) (bc1 := 0) (bs1 := 0) (bc2 := 0) (bs2 := 0) rfl rfl rfl rfl ok40 rfl rfl (by decide) rfl rfl rfl rfl rfl rfl ?_
  refine x_read (o := true) (nw := 36) (wm := owm) (d := d) rfl rfl htn hT1 hK (fun V2 l2 cl e2 F2 a1 a2 a3 a4 a5 C2 C3 => ?_) (fun V2 i2 e1 e2 F2 a1 => ?_)
  skip
  · have b13 : V2 0 13 = nI 0 := by rw [F2 0 13 (by omega) (by omega) (by omega) (by omega) (by omega) (by omega), up_at]; rfl
    generalize hV3 : up (up V2 0 14 (-1)) 0 16 (-1) = V3
    have f3 : ∀ a k, ¬ (a = 0 ∧ (k = 14 ∨ k = 16)) → V3 a k = V2 a k := fun a k q => by rw [← hV3, up_ne2 (by omega), up_ne2 (by omega)]
    have r3 : ∀ a k, ¬ (a = 0 ∧ (k = 13 ∨ k = 14 ∨ k = 16)) → ¬ (37 ≤ a ∧ a ≤ 42) → V3 a k = V a k := fun a k q1 q2 => by rw [f3 a k (by omega), F2 a k (by omega) (by omega) (by omega) (by omega) (by omega) (by omega), up_ne2 (by omega)]
    have hF3 : FrXD V V3 := fun a k q1 q2 q3 q4 => r3 a k (by omega) (by omega)
    have hT3 : TxO l2 cl V3 := by
      refine ⟨by rw [f3 38 2 (by omega)]; exact a2, a3, by omega, C2.same (fun k _ _ => f3 40 k (by omega)), fun j c hj => ⟨(C3 j c hj).same (Nat.le_refl _) (fun k _ => f3 40 k (by omega)) (fun k _ => f3 39 k (by omega)), ?_⟩⟩
      exact pTxt_okC 12 0 0 (by rw [e2]) j c (by rw [e2]; exact hj)
    have hX3 : RW 3 (layK K 6 (Tks T tn).length tc tv) V3 := (hX.lay hW).same (fun a q1 q2 => funext (fun k => r3 a k (by omega) (by omega)))
    have hL3 : Laws (layK K 6 (Tks T tn).length tc tv) 13 (LY ++ ext) V3 (vr G) := hL.lay hW.l6 hN (fun a ha => funext (fun k => r3 a k (by omega) (by omega)))
    have hu3 : V3 45 2 = nI u := by rw [r3 45 2 (by omega) (by omega)]; exact hu
    have hg3 : ∀ i, i < u → V3 46 i = nI (lg i) := fun i hi => by rw [r3 46 i (by omega) (by omega)]; exact hg i hi
    have c13 : V3 0 13 = nI 0 := by rw [f3 0 13 (by omega)]; exact b13
    have c14 : V3 0 14 = -1 := by rw [← hV3, up_at' (by omega), up_at]
    have e1 : (pTxt true tc tv (Tks T tn).length 12 0 0).1 = 1 := by rw [e2]
    have ecl : (pTxt true tc tv (Tks T tn).length 12 0 0).2.2 = cl := by rw [e2]
    rw [ecl] at h1 h0
    refine x_istore_n (ls' := [_, _, _]) rfl rfl rfl ?_
    refine x_aload_n rfl rfl ?_
    refine x_aload_n rfl rfl ?_
    refine x_getR (u := .ref _) rfl rfl rfl rfl ?_
    refine x_getE (y := 1) rfl rfl rfl a1 ?_
    refine x_putI rfl rfl rfl rfl ?_
    refine x_aload_n rfl rfl ?_
    refine x_iconst rfl ?_
    refine x_putI rfl rfl rfl rfl ?_
    refine x_iload_n rfl rfl ?_
    refine x_if_ne rfl (fun c34 => ?_) (fun c34 => ?_)
    rotate_left
    · exact absurd c34 (by decide)
    refine x_aload_n rfl rfl ?_
    refine x_getR (u := .ref _) rfl rfl rfl rfl ?_
    refine x_aload_n rfl rfl ?_
    refine x_getR (u := .ref _) rfl rfl rfl rfl ?_
    refine x_getR (u := .ref _) rfl rfl rfl rfl ?_
    rw [hV3]
    refine x_callV (M' := mi20) (As := [_]) (bc1 := 0) (bs1 := 0) (bc2 := 0) (bs2 := 0) rfl rfl rfl rfl ok20 rfl rfl (by decide) rfl rfl rfl rfl rfl rfl ?_
    refine x_run (K0 := layK K 6 (Tks T tn).length tc tv) (l := l2) (cl := cl) (d := d + 3) hR hs.lay hX3 hu3 hg3 hT3 hL3 (fun s' V4 q1 o1 o2 o3 hX4 k6 F4 => ?_) (fun n V4 q1 hn hX4 k2 k3 k6 F4 => ?_)
    skip
    · have k0 : ∀ k, V4 0 k = V3 0 k := fun k => F4 0 k (by omega) (by omega) (by omega)
      refine x_istore_n (ls' := [_, _, _]) rfl rfl rfl ?_
      refine x_aload_n rfl rfl ?_
      refine x_aload_n rfl rfl ?_
      refine x_getR (u := .ref _) rfl rfl rfl rfl ?_
      refine x_getE (y := 6) rfl rfl rfl k6 ?_
      refine x_putI rfl rfl rfl rfl ?_
      refine x_aload_n rfl rfl ?_
      refine x_iload_n rfl rfl ?_
      refine x_callV (M' := mi145) (As := [_]) (bc1 := 0) (bs1 := 0) (bc2 := 0) (bs2 := 0) rfl rfl rfl rfl ok145 rfl rfl (by decide) rfl rfl rfl rfl rfl rfl ?_
      refine s_settled_ok (by omega) ?_
      refine x_iret rfl rfl ?_
      skip
      refine h1 e1 s' _ q1 o1 o2 o3 (hX4.1.same (fun a z1 z2 => by rw [up_ne (by omega), up_ne (by omega)])) ?_ (fun i hi => ?_) (fun a k z1 z2 z3 z4 => ?_) (funext (fun k => ?_)) ?_ ?_ ?_ up_at
      · rw [up_ne (by omega), up_ne (by omega)]; exact hX4.2.1
      · rw [up_ne (by omega), up_ne (by omega)]; exact hX4.2.2.1 i hi
      · rw [up_ne2 (by omega), up_ne2 (by omega), F4 a k (by omega) (by omega) (by omega)]; exact hF3 a k z1 z2 z3 z4
      · rw [up_ne (by omega), up_ne (by omega), F4 73 k (by omega) (by omega) (by omega)]; exact r3 73 k (by omega) (by omega)
      · rw [up_at' (by omega), up_at' (by omega), k0]; exact c13
      · rw [up_at' (by omega), up_at' (by omega), k0]; exact c14
      · rw [up_at' (by omega), up_at]
    · have k0 : ∀ k, V4 0 k = V3 0 k := fun k => F4 0 k (by omega) (by omega) (by omega)
      have k73 : ∀ k, V4 73 k = V 73 k := fun k => by rw [F4 73 k (by omega) (by omega) (by omega)]; exact r3 73 k (by omega) (by omega)
      refine x_istore_n (ls' := [_, _, _]) rfl rfl rfl ?_
      refine x_aload_n rfl rfl ?_
      refine x_aload_n rfl rfl ?_
      refine x_getR (u := .ref _) rfl rfl rfl rfl ?_
      refine x_getE (y := 6) rfl rfl rfl k6 ?_
      refine x_putI rfl rfl rfl rfl ?_
      refine x_aload_n rfl rfl ?_
      refine x_iload_n rfl rfl ?_
      refine x_callV (M' := mi145) (As := [_]) (bc1 := 0) (bs1 := 0) (bc2 := 0) (bs2 := 0) rfl rfl rfl rfl ok145 rfl rfl (by decide) rfl rfl rfl rfl rfl rfl ?_
      refine s_settled_ref 2 rfl (by omega) ?_
      refine x_iret rfl rfl ?_
      skip
      have e73 : up V4 0 16 (nI n) 73 2 = V 73 2 := by rw [up_ne (by omega)]; exact k73 2
      rw [e73]
      refine h0 e1 n _ q1 hn (hX4.same (fun a z1 z2 => by rw [up_ne (by omega), up_ne (by omega), up_ne (by omega)])) ?_ (fun i hi => ?_) (fun a k z1 z2 z3 z4 => ?_) (fun k hk => ?_) up_at ?_ ?_ ?_ ?_
      · rw [up_ne (by omega), up_ne (by omega), up_ne (by omega)]; exact k2
      · rw [up_ne (by omega), up_ne (by omega), up_ne (by omega)]; exact k3 i hi
      · rw [up_ne2 (by omega), up_ne2 (by omega), up_ne2 (by omega), F4 a k (by omega) (by omega) (by omega)]; exact hF3 a k z1 z2 z3 z4
      · rw [up_at' hk, up_ne (by omega), up_ne (by omega)]; exact k73 k
      · rw [up_ne (by omega), up_at' (by omega), up_at' (by omega), k0]; exact c13
      · rw [up_ne (by omega), up_at' (by omega), up_at' (by omega), k0]; exact c14
      · rw [up_ne (by omega), up_at' (by omega), up_at]
      · rw [up_ne (by omega), up_at]
  · have r2 : ∀ a k, ¬ (a = 0 ∧ k = 13) → ¬ (37 ≤ a ∧ a ≤ 42) → V2 a k = V a k := fun a k q1 q2 => by rw [F2 a k (by omega) (by omega) (by omega) (by omega) (by omega) (by omega), up_ne2 (by omega)]
    refine x_istore_n (ls' := [_, _, _]) rfl rfl rfl ?_
    refine x_aload_n rfl rfl ?_
    refine x_aload_n rfl rfl ?_
    refine x_getR (u := .ref _) rfl rfl rfl rfl ?_
    refine x_getE (y := 1) rfl rfl rfl a1 ?_
    refine x_putI rfl rfl rfl rfl ?_
    refine x_aload_n rfl rfl ?_
    refine x_iconst rfl ?_
    refine x_putI rfl rfl rfl rfl ?_
    refine x_iload_n rfl rfl ?_
    refine x_if_ne rfl (fun c34 => ?_) (fun c34 => ?_)
    · exact absurd rfl c34
    refine x_aload_n rfl rfl ?_
    refine x_bipush rfl ?_
    refine x_callV (M' := mi145) (As := [_]) (bc1 := 0) (bs1 := 0) (bc2 := 0) (bs2 := 0) rfl rfl rfl rfl ok145 rfl rfl (by decide) rfl rfl rfl rfl rfl rfl ?_
    refine s_settled_ref 5 rfl (by omega) ?_
    refine x_iret rfl rfl ?_
    skip
    have e73 : up (up V2 0 14 (nI (plT T tn i2))) 0 16 (-1) 73 5 = V 73 5 := by rw [up_ne (by omega), up_ne (by omega)]; exact r2 73 5 (by omega) (by omega)
    rw [e73]
    refine h2 e1 _ (fun a k z1 z2 z3 z4 => ?_) (fun a k z1 z2 => ?_) (fun a k z1 z2 => ?_) (fun k hk => ?_) up_at ?_ ?_ ?_ ?_
    · rw [up_ne2 (by omega), up_ne2 (by omega), up_ne2 (by omega), up_ne2 (by omega)]; exact r2 a k (by omega) (by omega)
    · rw [up_ne2 (by omega), up_ne2 (by omega), up_ne2 (by omega), up_ne2 (by omega)]; exact r2 a k (by omega) (by omega)
    · rw [up_ne2 (by omega), up_ne2 (by omega), up_ne2 (by omega), up_ne2 (by omega)]; exact r2 a k (by omega) (by omega)
    · rw [up_at' hk, up_ne (by omega), up_ne (by omega), up_ne (by omega)]; exact r2 73 k (by omega) (by omega)
    · rw [up_ne (by omega), up_at' (by omega), up_at' (by omega), up_at' (by omega), F2 0 13 (by omega) (by omega) (by omega) (by omega) (by omega) (by omega), up_at]; rfl
    · rw [up_ne (by omega), up_at' (by omega), up_at' (by omega), up_at, e2]
    · rw [up_ne (by omega), up_at' (by omega), up_at]
    · rw [up_ne (by omega), up_at]
end COrd
/-- what orders may write, on both sides -/
def opP (a k : Nat) : Prop := (a = 0 ∧ (k = 13 ∨ k = 14 ∨ k = 16 ∨ k = 17)) ∨ (2 ≤ a ∧ a ≤ 12) ∨ (37 ≤ a ∧ a ≤ 60) ∨ a = 73 ∨ (a = 74 ∧ (k = 0 ∨ (8 ≤ k ∧ k ≤ 10) ∨ k = 13 ∨ k = 14 ∨ (18 ≤ k ∧ k ≤ 28) ∨ k = 32 ∨ (42 ≤ k ∧ k ≤ 47))) ∨ a = 75 ∨ a = 76 ∨ a = 79 ∨ (83 ≤ a ∧ a ≤ 86) ∨ a = 88 ∨ a = 89
set_option maxRecDepth 20000 in
theorem FrXD.op {V0 V1 V2 : VIT} (h1 : FrXD V0 V1) (h2 : FrMD V1 V2) (a k : Nat) (h : ¬ opP a k) : V2 a k = V0 a k := by
  unfold opP at h
  rw [h2 a k (by omega) (by omega) (by omega) (by omega) (by omega) (by omega) (by omega)]
  exact h1 a k (by omega) (by omega) (by omega) (by omega)
set_option maxRecDepth 20000 in
theorem St.ran {j : Nat} {ext : HL} {G G' : VRT} {K K' : KT} {tn : Nat} {T : Nat → Nat} {u u' : Nat} {US US' : Nat → KT} {lg lg' : Nat → Nat} {VI V' : VIT} (h : St j ext G K tn T u US lg VI) (hW : WF K') (hX : RW 3 K' V') (hM : RK (V' 76) K') (hF : ∀ a k, ¬ opP a k → V' a k = VI a k) (e17 : V' 0 17 = V' 74 0) (e14 : V' 0 14 = V' 74 14) (e16 : V' 0 16 = V' 74 42) (e73 : ∀ k, k < 6 → V' 73 k = V' 75 (k + 1)) (t1 : V' 0 13 = nI 0) (t2 : V' 74 13 = nI 0) (hU : Und K' u' US' lg' V') (hI : ∀ (w : Nat) (KI : KT), w ≠ 13 → w ≠ 57 → WF KI → Laws KI w (LY ++ ext) VI (vr G) → Laws KI w (LY ++ ext) V' (vr G')) (hL : Laws K' 13 (LY ++ ext) V' (vr G')) (hR : Refs (LY ++ ext) (vr G')) : St (j + 1) ext G' K' 0 T u' US' lg' V' := by
  obtain ⟨h1, h2, h3, h4, h5, h6, h7, h8, ⟨hm, i1, i2, i3, i4⟩, h10, h11, h12⟩ := h
  have hs : ∀ a k, (a = 0 ∧ k ≠ 13 ∧ k ≠ 14 ∧ k ≠ 16 ∧ k ≠ 17) ∨ (12 < a ∧ a < 37) ∨ (60 < a ∧ a < 73) ∨ (a = 74 ∧ (k = 6 ∨ k = 50)) ∨ (76 < a ∧ a < 79) ∨ (79 < a ∧ a < 83) ∨ a = 87 ∨ 89 < a → V' a k = VI a k := fun a k q => hF a k (by unfold opP; omega)
  have hsr : ∀ a, (12 < a ∧ a < 37) ∨ (60 < a ∧ a < 73) ∨ (76 < a ∧ a < 79) ∨ (79 < a ∧ a < 83) ∨ a = 87 ∨ 89 < a → V' a = VI a := fun a q => funext (fun k => hs a k (by omega))
  refine ⟨hW, hX, hM, ⟨e17, e14, ?_, e16, e73⟩, ⟨by omega, t1, t2, fun k hk => absurd hk (by omega)⟩, hU, h7.same (hs 70 3 (by omega)) (hs 74 50 (by omega)) (hsr 71 (by omega)) (hsr 99 (by omega)), (h8.same (hs 63 6 (by omega)) (hsr 65 (by omega))).next, ⟨hm, i1, ?_, ?_, ?_⟩, hL, (hsr 80 (by omega)).trans h11, hR⟩
  · rw [hs 0 15 (by omega), hs 74 6 (by omega)]; exact h4.2.2.1
  · rw [hs 0 12 (by omega)]; exact i2
  · rw [hsr 78 (by omega)]; exact i3
  · intro k hk hb
    obtain ⟨KI, q1, q2, q3, q4⟩ := i4 k hk hb
    refine ⟨KI, q1, q2.same (fun a r1 r2 => hsr a (by omega)), ?_, hI _ KI (by omega) (by omega) q1 q4⟩
    rw [hsr 77 (by omega)]; exact q3
set_option maxRecDepth 20000 in
theorem Und.ok {s : OS} {V : VIT} (hs : okO s) (h45 : V 45 2 = nI s.2.1) (h46 : ∀ i, i < s.2.1 → V 46 i = nI (s.2.2.2.1 i)) (h74 : V 74 32 = nI s.2.1) (h88 : ∀ i, i < s.2.1 → (∀ k, k < 39 → V 88 (40 * i + k) = nI (s.2.2.1 i k)) ∧ V 88 (40 * i + 39) = nI (s.2.2.2.1 i % 4)) : Und s.1 s.2.1 s.2.2.1 s.2.2.2.1 V := ⟨hs.2.1, h45, h74, hs.2.2.1, fun i hi => ⟨h46 i hi, (hs.2.2.2.1 i hi).1, (h88 i hi).2, (h88 i hi).1, (hs.2.2.2.1 i hi).2⟩⟩
section JOrders
variable {j : Nat} {lay : HL} {VI : VIT} {VL : VLT} {VR : VRT}
set_option maxRecDepth 20000 in
theorem j_orders (h : Inv j lay VI VL VR) : Pr 100 mi119 mi269 [] lay VI VL VR (Inv (j + 1)) := by
  obtain ⟨ext, G, K, tn, T, u, US, lg, rfl, rfl, hS⟩ := h
  obtain ⟨hW, hX, hM, hMi, ⟨htn, a13, b13, hT⟩, ⟨hu16, hu1, hu2, hu3, hu4⟩, hD, hSt, hI, hL, h80, hR⟩ := id hS
  have h6 := hW.l6
  obtain ⟨tc, tv, hK⟩ := tok_all htn (fun k hk => (hT k hk).1)
  have hlen : (Tks T tn).length ≤ tn - 0 := tks_len tn 0
  have hN : (Tks T tn).length ≤ 400 := by omega
  have hX72 : ∀ k, k < tn → T k < 256 ∧ VI 72 k = nI (T k) := fun k hk => ⟨(hT k hk).1, (hT k hk).2.1⟩
  have hs : okO (K, u, US, lg, 0, -1) := ⟨hW, hu16, hu3, fun i hi => ⟨(hu4 i hi).2.1, (hu4 i hi).2.2.2.2⟩, by show (-1 : Int) ≤ -1; omega, by show (-1 : Int) ≤ 1000; omega⟩
  have hU : ∀ i, i < u → (∀ k, k < 39 → VI 88 (40 * i + k) = nI (US i k)) ∧ VI 88 (40 * i + 39) = nI (lg i % 4) := fun i hi => ⟨(hu4 i hi).2.2.2.1, (hu4 i hi).2.2.1⟩
  have hR1 : Refs (LY ++ ext) (vr (cpG G 57 13 6)) := hR.cp rfl rfl (by omega)
  have hR2 : Refs (LY ++ ext) (vr (cpG (cpG G 57 13 6) 13 57 6)) := hR1.cp rfl rfl (by omega)
  have hmi := hMi.2.2.2.2
  refine ExS.budget (bc := 0) (bs := 0) (x_orders (d := 65) hR hs hX hu1 (fun i hi => (hu4 i hi).1) hL a13 htn hX72 hK (fun c s' V1 e1 o1 o2 o3 g1 g2 g3 F1 g4 g5 g6 g7 g8 => ⟨_, ext, rfl, rfl, ?_⟩) (fun c n V1 e1 hn g1 g2 g3 F1 g4 g9 g5 g6 g7 g8 => ⟨_, ext, rfl, rfl, ?_⟩) (fun c V1 F1 g1 g2 g3 g4 g5 g6 g7 g8 => ⟨_, ext, rfl, rfl, ?_⟩)) (by omega) (by omega)
  · have f1 : ∀ a k, 60 < a → a ≠ 73 → V1 a k = VI a k := fun a k q1 q2 => F1 a k (by omega) (by omega) (by omega) q2
    have r1 : ∀ a, 60 < a → a ≠ 73 → V1 a = VI a := fun a q1 q2 => funext (fun k => f1 a k q1 q2)
    refine m_orders (d := 47) (tn := tn) (T := T) (tc := tc) (tv := tv) (K := K) (u := u) (US := US) (lg := lg) ((r1 80 (by omega) (by omega)).trans h80) ((f1 74 13 (by omega) (by omega)).trans b13) htn (fun k hk => ⟨(hT k hk).1, (f1 81 k (by omega) (by omega)).trans (hT k hk).2.2⟩) hK (by rw [r1 76 (by omega) (by omega)]; exact hM) hs hL.K ((f1 74 32 (by omega) (by omega)).trans hu2) (by rw [r1 88 (by omega) (by omega)]; exact hU) (fun _ s2 V2 VL2 e2 p1 p2 p3 F2 p4 p5 p6 p7 p8 p9 => ?_) (fun _ n V2 VL2 e2 => ?_) (fun c2 => absurd c2 (by rw [c]; omega))
    · have es : s2 = s' := by
        have := e2.symm.trans e1
        exact Sum.inl.inj this
      subst es
      have hv0 : ∀ k, V2 0 k = V1 0 k := fun k => F2 0 k (by omega) (by omega) (by omega) (by omega) (by omega) (by omega) (by omega)
      have hvl : ∀ a, a < 74 → V2 a = V1 a := fun a q => funext (fun k => F2 a k (by omega) (by omega) (by omega) (by omega) (by omega) (by omega) (by omega))
      have hvh : ∀ a, 100 ≤ a → V2 a = VI a := fun a q => funext (fun k => (F2 a k (by omega) (by omega) (by omega) (by omega) (by omega) (by omega) (by omega)).trans (f1 a k (by omega) (by omega)))
      have hL1 : Laws (layK K 6 (Tks T tn).length tc tv) 13 (LY ++ ext) V2 (vr G) := hL.lay h6 hN hvh
      have hL2 : Laws (layK K 6 (Tks T tn).length tc tv) 13 (LY ++ ext) V2 (vr (cpG G 57 13 6)) := hL1.off (WF.lay hW) (by omega) (by omega) (fun _ _ => rfl)
      refine ⟨rfl, St.inv (hS.ran (K' := s2.1) (u' := s2.2.1) (US' := s2.2.2.1) (lg' := s2.2.2.2.1) o1.1 (g1.same (fun a q1 q2 => hvl a (by omega))) p3.1 (FrXD.op F1 F2) ?_ ?_ ?_ (fun k hk => ?_) ?_ p5 (Und.ok o1 ?_ (fun i hi => ?_) p3.2.1 p3.2.2.1) (fun w KI q1 q2 q3 q4 => q4.off q3 q2 (by omega) hvh) (hL2.same (o3 96 (by omega)) (fun i q1 q2 => o3 i (by omega)) (fun k hk => o3 _ (by omega)) (fun k hk => o3 _ (by omega)) (WF.lay hW).l6 (fun _ _ => rfl)) hR1)⟩
      · rw [hv0, g8, p8]
      · rw [hv0, g6, p6]
      · rw [hv0, g7, p7]
      · rw [hvl 73 (by omega), g4, p4, r1 75 (by omega) (by omega)]; exact hmi k hk
      · rw [hv0]; exact g5
      · rw [hvl 45 (by omega)]; exact g2
      · rw [hvl 46 (by omega)]; exact g3 i hi
    · exact absurd (e2.symm.trans e1) (fun z => by cases z)
  · have f1 : ∀ a k, 60 < a → a ≠ 73 → V1 a k = VI a k := fun a k q1 q2 => F1 a k (by omega) (by omega) (by omega) q2
    have r1 : ∀ a, 60 < a → a ≠ 73 → V1 a = VI a := fun a q1 q2 => funext (fun k => f1 a k q1 q2)
    refine m_orders (d := 47) (tn := tn) (T := T) (tc := tc) (tv := tv) (K := K) (u := u) (US := US) (lg := lg) ((r1 80 (by omega) (by omega)).trans h80) ((f1 74 13 (by omega) (by omega)).trans b13) htn (fun k hk => ⟨(hT k hk).1, (f1 81 k (by omega) (by omega)).trans (hT k hk).2.2⟩) hK (by rw [r1 76 (by omega) (by omega)]; exact hM) hs hL.K ((f1 74 32 (by omega) (by omega)).trans hu2) (by rw [r1 88 (by omega) (by omega)]; exact hU) (fun _ s2 V2 VL2 e2 => ?_) (fun _ n2 V2 VL2 e2 hn2 p1 p2 p3 F2 p4 p9 p5 p6 p7 p8 => ?_) (fun c2 => absurd c2 (by rw [c]; omega))
    · exact absurd (e2.symm.trans e1) (fun z => by cases z)
    · have es : n2 = n := by
        have := e2.symm.trans e1
        exact Sum.inr.inj this
      subst es
      have hv0 : ∀ k, V2 0 k = V1 0 k := fun k => F2 0 k (by omega) (by omega) (by omega) (by omega) (by omega) (by omega) (by omega)
      have hvl : ∀ a, a < 74 → V2 a = V1 a := fun a q => funext (fun k => F2 a k (by omega) (by omega) (by omega) (by omega) (by omega) (by omega) (by omega))
      have hvh : ∀ a, 100 ≤ a → V2 a = VI a := fun a q => funext (fun k => (F2 a k (by omega) (by omega) (by omega) (by omega) (by omega) (by omega) (by omega)).trans (f1 a k (by omega) (by omega)))
      have hL1 : Laws (layK K 6 (Tks T tn).length tc tv) 13 (LY ++ ext) V2 (vr G) := hL.lay h6 hN hvh
      have hL2 : Laws (layK K 6 (Tks T tn).length tc tv) 57 (LY ++ ext) V2 (vr (cpG G 57 13 6)) := hL1.cpw (WF.lay hW) rfl rfl rfl (by omega) (fun _ _ => rfl)
      have hL3 : Laws (layK K 6 (Tks T tn).length tc tv) 13 (LY ++ ext) V2 (vr (cpG (cpG G 57 13 6) 13 57 6)) := hL2.cpw (WF.lay hW) rfl rfl rfl (by omega) (fun _ _ => rfl)
      refine ⟨rfl, St.inv (hS.ran (K' := layK K 6 (Tks T tn).length tc tv) (u' := u) (US' := US) (lg' := lg) (WF.lay hW) (g1.same (fun a q1 q2 => hvl a (by omega))) p1 (FrXD.op F1 F2) ?_ ?_ ?_ (fun k hk => ?_) ?_ p5 (Und.ok (s := (layK K 6 (Tks T tn).length tc tv, u, US, lg, 0, -1)) hs.lay ?_ (fun i hi => ?_) p2 (fun i hi => ⟨fun k hk => ?_, ?_⟩)) (fun w KI q1 q2 q3 q4 => (q4.off q3 q2 (by omega) hvh).off q3 q1 (by omega) (fun _ _ => rfl)) hL3 hR2)⟩
      · rw [hv0, g8, p8]
      · rw [hv0, g6, p6]
      · rw [hv0, g7, p7]
      · by_cases ck : k = 2
        · rw [ck, hvl 73 (by omega), g9, p9, r1 75 (by omega) (by omega), hmi 2 (by omega)]
        · rw [hvl 73 (by omega), g4 k ck, p4 (k + 1) (by omega), r1 75 (by omega) (by omega)]; exact hmi k hk
      · rw [hv0]; exact g5
      · rw [hvl 45 (by omega)]; exact g2
      · rw [hvl 46 (by omega)]; exact g3 i hi
      · have hi2 : i < u := hi
        rw [p3 _ (by omega), r1 88 (by omega) (by omega)]; exact (hU i hi2).1 k hk
      · have hi2 : i < u := hi
        rw [p3 _ (by omega), r1 88 (by omega) (by omega)]; exact (hU i hi2).2
  · have f1 : ∀ a k, 60 < a → a ≠ 73 → V1 a k = VI a k := fun a k q1 q2 => F1 a k (by omega) (by omega) (by omega) q2
    have r1 : ∀ a, 60 < a → a ≠ 73 → V1 a = VI a := fun a q1 q2 => funext (fun k => f1 a k q1 q2)
    refine m_orders (d := 47) (tn := tn) (T := T) (tc := tc) (tv := tv) (K := K) (u := u) (US := US) (lg := lg) ((r1 80 (by omega) (by omega)).trans h80) ((f1 74 13 (by omega) (by omega)).trans b13) htn (fun k hk => ⟨(hT k hk).1, (f1 81 k (by omega) (by omega)).trans (hT k hk).2.2⟩) hK (by rw [r1 76 (by omega) (by omega)]; exact hM) hs hL.K ((f1 74 32 (by omega) (by omega)).trans hu2) (by rw [r1 88 (by omega) (by omega)]; exact hU) (fun c2 => absurd c2 (by rw [c]; omega)) (fun c2 => absurd c2 (by rw [c]; omega)) (fun _ V2 F2 p1 p2 => ?_)
    have hv : ∀ a k, ¬ (a = 74 ∧ (k = 0 ∨ (8 ≤ k ∧ k ≤ 10) ∨ k = 13 ∨ k = 14 ∨ (18 ≤ k ∧ k ≤ 21) ∨ k = 42)) → ¬ (a = 75 ∧ k = 6) → ¬ (83 ≤ a ∧ a ≤ 85) → V2 a k = V1 a k := fun a k q1 q2 q3 => by rw [F2 a k (by omega) (by omega) (by omega) (by omega), up_ne2 (by omega), up_ne2 (by omega), up_ne2 (by omega)]
    have hv0 : ∀ k, V2 0 k = V1 0 k := fun k => hv 0 k (by omega) (by omega) (by omega)
    have hF2 : FrMD V1 V2 := fun a k q1 q2 q3 q4 q5 q6 q7 => hv a k (by omega) (by omega) (by omega)
    have hvh : ∀ a, 100 ≤ a → V2 a = VI a := fun a q => funext (fun k => (hv a k (by omega) (by omega) (by omega)).trans (f1 a k (by omega) (by omega)))
    refine ⟨rfl, St.inv (hS.ran (K' := K) (u' := u) (US' := US) (lg' := lg) hW (hX.same (fun a q1 q2 => funext (fun k => (hv a k (by omega) (by omega) (by omega)).trans (g1 a k (by omega) (by omega))))) ?_ (FrXD.op F1 hF2) ?_ ?_ ?_ (fun k hk => ?_) ?_ p1 (Und.ok (s := (K, u, US, lg, 0, -1)) hs ?_ (fun i hi => ?_) ?_ (fun i hi => ⟨fun k hk => ?_, ?_⟩)) (fun w KI q1 q2 q3 q4 => q4.sameV q3.l6 hvh) (hL.sameV h6 hvh) hR)⟩
    · rw [show V2 76 = VI 76 from funext (fun k => (hv 76 k (by omega) (by omega) (by omega)).trans (f1 76 k (by omega) (by omega)))]; exact hM
    · rw [hv0, g8, F2 74 0 (by omega) (by omega) (by omega) (by omega), up_ne (by omega), up_at]
    · rw [hv0, g6, p2]
    · rw [hv0, g7, F2 74 42 (by omega) (by omega) (by omega) (by omega), up_ne (by omega), up_at' (by omega), up_at]
    · by_cases ck : k = 5
      · rw [ck, hv 73 5 (by omega) (by omega) (by omega), g4, F2 75 6 (by omega) (by omega) (by omega) (by omega), up_at, f1 75 6 (by omega) (by omega), hmi 5 (by omega)]
      · rw [hv 73 k (by omega) (by omega) (by omega), g3 k ck, hv 75 (k + 1) (by omega) (by omega) (by omega), f1 75 (k + 1) (by omega) (by omega)]; exact hmi k hk
    · rw [hv0]; exact g5
    · rw [hv 45 2 (by omega) (by omega) (by omega), g2 45 2 (by omega) (by omega)]; exact hu1
    · rw [hv 46 i (by omega) (by omega) (by omega), g2 46 i (by omega) (by omega)]; exact (hu4 i hi).1
    · rw [hv 74 32 (by omega) (by omega) (by omega), f1 74 32 (by omega) (by omega)]; exact hu2
    · rw [hv 88 _ (by omega) (by omega) (by omega), f1 88 _ (by omega) (by omega)]; exact (hU i hi).1 k hk
    · rw [hv 88 _ (by omega) (by omega) (by omega), f1 88 _ (by omega) (by omega)]; exact (hU i hi).2
end JOrders
