/-! ===== the model's orders, whole ===== -/
/-- what the model's orders may write -/
def FrMD (V0 V : VIT) : Prop := ∀ a k, ¬ (a = 74 ∧ (k = 0 ∨ (8 ≤ k ∧ k ≤ 10) ∨ k = 13 ∨ k = 14 ∨ (18 ≤ k ∧ k ≤ 28) ∨ k = 32 ∨ (42 ≤ k ∧ k ≤ 47))) → a ≠ 75 → a ≠ 76 → a ≠ 79 → ¬ (83 ≤ a ∧ a ≤ 86) → a ≠ 88 → a ≠ 89 → V a k = V0 a k
set_option maxRecDepth 20000 in
theorem FrMR.md {V0 V : VIT} (h : FrMR V0 V) : FrMD V0 V := fun a k q1 q2 q3 q4 q5 q6 q7 => h a k (by omega) (by omega) (by omega) (by omega)
set_option maxRecDepth 20000 in
theorem FrMO.md {V0 V : VIT} (h : FrMO V0 V) : FrMD V0 V := fun a k q1 q2 q3 q4 q5 q6 q7 => h a k (by omega) (by omega) q6 q3
set_option maxRecDepth 20000 in
theorem FrMD.trans {V0 V1 V2 : VIT} (h1 : FrMD V0 V1) (h2 : FrMD V1 V2) : FrMD V0 V2 := fun a k q1 q2 q3 q4 q5 q6 q7 => (h2 a k q1 q2 q3 q4 q5 q6 q7).trans (h1 a k q1 q2 q3 q4 q5 q6 q7)
set_option maxRecDepth 20000 in
theorem WF.lay {K : KT} {N : Nat} {tc tv : Nat → Nat} (h : WF K) : WF (layK K 6 N tc tv) := h.keep (fun i hi _ _ _ => layK_lo hi) (by rw [layK_lo (by omega)]; exact h.2.2.2.2.2.1) (by rw [layK_lo (by omega)]; exact h.2.2.2.2.2.2.1) (by rw [layK_lo (by omega)]; exact h.2.2.2.2.2.2.2.1)
set_option maxRecDepth 20000 in
theorem lay_law {K : KT} {N i : Nat} {tc tv : Nat → Nat} (hN : N ≤ 400) (h : i ≠ 104) (h2 : ¬ (2505 ≤ i ∧ i < 2905)) (h3 : ¬ (5305 ≤ i ∧ i < 5705)) : layK K 6 N tc tv i = K i := layK_o (by omega) (by omega) (by omega) hN
set_option maxRecDepth 20000 in
theorem LwK.lay {K : KT} {N : Nat} {tc tv : Nat → Nat} (h : LwK K) (hW : K 96 ≤ 6) (hN : N ≤ 400) : LwK (layK K 6 N tc tv) := by
  intro t ht
  rw [lay_law hN (by omega) (by omega) (by omega)] at ht
  obtain ⟨h1, h2⟩ := h t ht
  have e0 : layK K 6 N tc tv (98 + t) = K (98 + t) := lay_law hN (by omega) (by omega) (by omega)
  have e1 : ktc (layK K 6 N tc tv) t = ktc K t := by
    funext k
    unfold ktc
    rw [e0]
    by_cases c : k < K (98 + t)
    · rw [if_pos c, if_pos c, lay_law hN (by omega) (by omega) (by omega)]
    · rw [if_neg c, if_neg c]
  have e2 : ktv (layK K 6 N tc tv) t = ktv K t := by
    funext k
    unfold ktv
    rw [e0]
    by_cases c : k < K (98 + t)
    · rw [if_pos c, if_pos c, lay_law hN (by omega) (by omega) (by omega)]
    · rw [if_neg c, if_neg c]
  have e3 : kcl (layK K 6 N tc tv) t = kcl K t := by
    unfold kcl
    rw [e0, e1, e2]
  rw [e3, e0]
  exact ⟨h1, h2⟩
set_option maxRecDepth 20000 in
theorem okO.lay {K : KT} {u ran N : Nat} {US : Nat → KT} {lg : Nat → Nat} {lat : Int} {tc tv : Nat → Nat} (h : okO (K, u, US, lg, ran, lat)) : okO (layK K 6 N tc tv, u, US, lg, ran, lat) := by
  obtain ⟨h1, h2, h3, h4, h5⟩ := h
  refine ⟨WF.lay h1, h2, fun k hk => ?_, fun i hi => ?_, h5⟩
  · show US u k = layK K 6 N tc tv k
    rw [layK_lo (by omega)]
    exact h3 k hk
  · show lg i < 65536 ∧ Undoes (layK K 6 N tc tv 93) (layK K 6 N tc tv 94) (lg i) (US (i + 1)) (US i)
    rw [layK_lo (by omega), layK_lo (by omega)]
    exact h4 i hi
section MOrd
variable {d : Nat} {V : VIT} {VL : VLT} {G : VRT} {P : Post} {ext : HL} {tn u : Nat} {T tc tv : Nat → Nat} {K : KT} {US : Nat → KT} {lg : Nat → Nat}
set_option maxRecDepth 20000 in
theorem mo_save {u1 : Value} (hP : ∀ z, Ex (d + 53) mi269 52 [.ref 74, .int z, .retAddr 9, .retAddr 9, .retAddr 9] [] (LY ++ ext) (uw V 89 (cp (V 89) 0 (V 88) 640)) VL (vr G) 0 0 P) : ∀ (m i : Nat), i + m = 640 → Ex (d + 53) mi269 27 [.ref 74, .int (nI i), .retAddr 9, .retAddr 9, .retAddr 9] [] (LY ++ ext) (uw V 89 (cp (V 89) 0 (V 88) i)) VL (vr G) 0 0 P := by
  intro m
  induction m with
  | zero =>
    intro i hi
    have e : i = 640 := by omega
    subst e
    refine x_iload_n rfl rfl ?_
    refine x_sipushN (q := 640) rfl ?_
    refine x_icmpN_ge rfl (fun c31 => ?_) (fun c31 => ?_)
    rotate_left
    · exact absurd c31 (by first | decide | omega)
    exact hP _ | succ m ih =>
    intro i hi
    refine x_iload_n rfl rfl ?_
    refine x_sipushN (q := 640) rfl ?_
    refine x_icmpN_ge rfl (fun c31 => ?_) (fun c31 => ?_)
    · exact absurd c31 (by first | decide | omega)
    refine x_aload_n rfl rfl ?_
    refine x_getR (u := .ref _) rfl rfl rfl rfl ?_
    refine x_iload_n rfl rfl ?_
    refine x_aload_n rfl rfl ?_
    refine x_getR (u := .ref _) rfl rfl rfl rfl ?_
    refine x_iload_n rfl rfl ?_
    refine x_ialE (j := i) rfl rfl (rfl) (by omega) (show _ = V 88 i by rw [uw_ne (by omega)]) ?_
    refine x_iasN (j := i) rfl rfl (rfl) (by omega) ?_
    refine x_iincN (q := 1) (ls' := [_, _, _, _, _]) rfl rfl rfl rfl ?_
    refine x_goto rfl ?_
    skip
    rw [cp0_step rfl]
    exact ih (i + 1) (by omega)
set_option maxRecDepth 20000 in
theorem mo_back {u1 z2 z3 : Int32} (hP : ∀ z4, Ex (d + 53) mi269 150 [.ref 74, .int u1, .int z2, .int z3, .int z4] [] (LY ++ ext) (uw V 88 (cp (V 88) 0 (V 89) 640)) VL (vr G) 0 0 P) : ∀ (m i : Nat), i + m = 640 → Ex (d + 53) mi269 122 [.ref 74, .int u1, .int z2, .int z3, .int (nI i)] [] (LY ++ ext) (uw V 88 (cp (V 88) 0 (V 89) i)) VL (vr G) 0 0 P := by
  intro m
  induction m with
  | zero =>
    intro i hi
    have e : i = 640 := by omega
    subst e
    refine x_iload rfl rfl ?_
    refine x_sipushN (q := 640) rfl ?_
    refine x_icmpN_ge rfl (fun c127 => ?_) (fun c127 => ?_)
    rotate_left
    · exact absurd c127 (by first | decide | omega)
    exact hP _ | succ m ih =>
    intro i hi
    refine x_iload rfl rfl ?_
    refine x_sipushN (q := 640) rfl ?_
    refine x_icmpN_ge rfl (fun c127 => ?_) (fun c127 => ?_)
    · exact absurd c127 (by first | decide | omega)
    refine x_aload_n rfl rfl ?_
    refine x_getR (u := .ref _) rfl rfl rfl rfl ?_
    refine x_iload rfl rfl ?_
    refine x_aload_n rfl rfl ?_
    refine x_getR (u := .ref _) rfl rfl rfl rfl ?_
    refine x_iload rfl rfl ?_
    refine x_ialE (j := i) rfl rfl (rfl) (by omega) (show _ = V 89 i by rw [uw_ne (by omega)]) ?_
    refine x_iasN (j := i) rfl rfl (rfl) (by omega) ?_
    refine x_iincN (q := 1) (ls' := [_, _, _, _, _]) rfl rfl rfl rfl ?_
    refine x_goto rfl ?_
    skip
    rw [cp0_step rfl]
    exact ih (i + 1) (by omega)
set_option maxRecDepth 20000 in
theorem m_orders (h80 : V 80 = VIm 80) (h13 : V 74 13 = nI tn) (htn : tn ≤ 400) (hT : ∀ k, k < tn → T k < 256 ∧ V 81 k = sB (T k)) (hKt : TokC T tn tc tv) (hM : RK (V 76) K) (hs : okO (K, u, US, lg, 0, -1)) (hL : LwK K) (hu : V 74 32 = nI u) (hU : ∀ i, i < u → (∀ k, k < 39 → V 88 (40 * i + k) = nI (US i k)) ∧ V 88 (40 * i + 39) = nI (lg i % 4))
  (h1 : (pTxt true tc tv (Tks T tn).length 12 0 0).1 = 1 → ∀ (s' : OS) (V' : VIT) (VL' : VLT), lsO (pTxt true tc tv (Tks T tn).length 12 0 0).2.2 0 (layK K 6 (Tks T tn).length tc tv, u, US, lg, 0, -1) = .inl s' → okO s' → (∀ k, 39 ≤ k → s'.1 k = layK K 6 (Tks T tn).length tc tv k) → MO s' V' → FrMD V V' → V' 75 = V 75 → V' 74 13 = nI 0 → V' 74 14 = -1 → V' 74 42 = -1 → V' 74 0 = 0 → s'.2.2.2.2.1 ≤ 1000 → P (some (.int (nI s'.2.2.2.2.1))) (LY ++ ext) V' VL' (vr G))
  (h0 : (pTxt true tc tv (Tks T tn).length 12 0 0).1 = 1 → ∀ (n : Nat) (V' : VIT) (VL' : VLT), lsO (pTxt true tc tv (Tks T tn).length 12 0 0).2.2 0 (layK K 6 (Tks T tn).length tc tv, u, US, lg, 0, -1) = .inr n → n < 12 → RK (V' 76) (layK K 6 (Tks T tn).length tc tv) → V' 74 32 = nI u → (∀ k, k < 640 → V' 88 k = V 88 k) → FrMD V V' → (∀ k, k ≠ 3 → V' 75 k = V 75 k) → V' 75 3 = V 75 3 + 1 → V' 74 13 = nI 0 → V' 74 14 = -1 → V' 74 42 = nI n → V' 74 0 = -3 → P (some (.int (-3))) (LY ++ ext) V' VL' (vr G))
  (h2 : (pTxt true tc tv (Tks T tn).length 12 0 0).1 = 0 → ∀ V' : VIT, FrMR (up (up (up V 74 42 (-1)) 74 0 (-6)) 75 6 (V 75 6 + 1)) V' → V' 74 13 = nI 0 → V' 74 14 = nI (plT T tn (pTxt true tc tv (Tks T tn).length 12 0 0).2.1) → P (some (.int (-6))) (LY ++ ext) V' VL (vr G)) : Ex (d + 53) mi269 0 (entL [.ref 74] 5) [] (LY ++ ext) V VL (vr G) 0 0 P := by
  have hlen : (Tks T tn).length ≤ tn - 0 := tks_len tn 0
  have hW : WF K := hs.1
  have hN : (Tks T tn).length ≤ 400 := by omega
  have g80 : up V 74 42 (-1) 80 = VIm 80 := by rw [up_ne (by omega)]; exact h80
  have g13 : up V 74 42 (-1) 74 13 = nI tn := by rw [up_at' (by omega)]; exact h13
  have gT : ∀ k, k < tn → T k < 256 ∧ up V 74 42 (-1) 81 k = sB (T k) := fun k hk => ⟨(hT k hk).1, by rw [up_ne (by omega)]; exact (hT k hk).2⟩
  have hF0 : FrMD V (up V 74 42 (-1)) := fun a k q1 q2 q3 q4 q5 q6 q7 => up_ne2 (by omega)
  refine x_aload_n rfl rfl ?_
  refine x_iconst rfl ?_
  refine x_putI rfl rfl rfl rfl ?_
  refine x_aload_n rfl rfl ?_
  refine x_iconstN (q := 1) rfl ?_
  refine x_callV (M' := mi211) (As := [_]) (bc1 := 0) (bs1 := 0) (bc2 := 0) (bs2 := 0) rfl rfl rfl rfl ok211 rfl rfl (by decide) rfl rfl rfl rfl rfl rfl ?_
  refine m_readsAs (o := true) (d := d + 14) htn g80 g13 gT hKt (fun c V2 F2 a1 a2 a3 => ?_) (fun c V2 F2 a1 a2 => ?_)
  skip
  · have e76 : V2 76 = V 76 := funext (fun k => by rw [F2 76 k (by omega) (by omega) (by omega) (by omega), up_ne2 (by omega)])
    have e88 : V2 88 = V 88 := funext (fun k => by rw [F2 88 k (by omega) (by omega) (by omega) (by omega), up_ne2 (by omega)])
    have e32 : V2 74 32 = nI u := by rw [F2 74 32 (by omega) (by omega) (by omega) (by omega), up_at' (by omega)]; exact hu
    have e42 : V2 74 42 = -1 := by rw [F2 74 42 (by omega) (by omega) (by omega) (by omega), up_at]
    have hF2 : FrMD V V2 := hF0.trans F2.md
    have e75 : V2 75 = V 75 := funext (fun k => by rw [F2 75 k (by omega) (by omega) (by omega) (by omega), up_ne2 (by omega)])
    refine x_ifN_ne rfl (fun c10 => ?_) (fun c10 => ?_)
    rotate_left
    · exact absurd c10 (by first | decide | omega)
    refine x_aload_n rfl rfl ?_
    refine x_iconstN (q := 1) rfl ?_
    refine x_callV (M' := mi160) (As := [_]) (bc1 := 0) (bs1 := 0) (bc2 := 0) (bs2 := 0) rfl rfl rfl rfl ok160 rfl rfl (by decide) rfl rfl rfl rfl rfl rfl ?_
    refine m_laysAside (k := 1) (by omega) ?_
    refine x_iconstN (q := 0) rfl ?_
    refine x_istore_n (ls' := [_, _, _, _, _]) rfl rfl rfl ?_
    skip
    generalize hV3 : uw V2 79 (cp (V2 79) (39 * 1) (V2 76) 39) = V3
    have f3 : ∀ a, a ≠ 79 → V3 a = V2 a := fun a q => by rw [← hV3, uw_ne q]
    have hsv := mo_save (d := d) (V := V3) (VL := VL) (G := G) (P := P) (ext := ext) (u1 := .int 0) (fun z => ?_) 640 0 (by omega)
    · rw [cp_0] at hsv
      exact hsv
    generalize hV4 : uw V3 89 (cp (V3 89) 0 (V3 88) 640) = V4
    have f4 : ∀ a, a ≠ 89 → V4 a = V3 a := fun a q => by rw [← hV4, uw_ne q]
    have g76 : V4 76 = V 76 := by rw [f4 76 (by omega), f3 76 (by omega), e76]
    have g32 : V4 74 32 = nI u := by rw [f4 74 (by omega), f3 74 (by omega)]; exact e32
    have gTk : TkM (Tks T tn).length tc tv V4 := by
      obtain ⟨t1, t2⟩ := a3
      exact ⟨by rw [f4 74 (by omega), f3 74 (by omega)]; exact t1, fun i hi => by rw [f4 83 (by omega), f4 84 (by omega), f3 83 (by omega), f3 84 (by omega)]; exact t2 i hi⟩
    have hF4 : FrMD V V4 := fun a k q1 q2 q3 q4 q5 q6 q7 => by rw [f4 a q7, f3 a q4]; exact hF2 a k q1 q2 q3 q4 q5 q6 q7
    refine x_aload_n rfl rfl ?_
    refine x_getE (y := 32) rfl rfl rfl g32 ?_
    refine x_istore_n (ls' := [_, _, _, _, _]) rfl rfl rfl ?_
    refine x_aload_n rfl rfl ?_
    refine x_bipushN (q := 6) rfl ?_
    refine x_callV (M' := mi212) (As := [_]) (bc1 := 0) (bs1 := 0) (bc2 := 0) (bs2 := 0) rfl rfl rfl rfl ok212 rfl rfl (by decide) rfl rfl rfl rfl rfl rfl ?_
    refine m_lays (t := 6) (by omega) hN (by rw [g76]; exact hM) gTk (fun V5 F5 hM5 => ?_)
    skip
    have k104 : V5 76 104 = nI (Tks T tn).length := (hM5.at 104).trans (by rw [show (104 : Nat) = 98 + 6 from rfl, layK_n])
    generalize hK1 : layK K 6 (Tks T tn).length tc tv = K1 at *
    have hLo : ∀ k, k < 39 → K1 k = K k := fun k hk => by rw [← hK1, layK_lo (by omega)]
    have hO : OrS K1 (Tks T tn).length tc tv := ⟨hN, fun i hi => ⟨by rw [← hK1, show 2505 + i = 105 + 400 * 6 + i by omega, layK_c hi (by omega)], by rw [← hK1, show 5305 + i = 2905 + 400 * 6 + i by omega, layK_v hi hN (by omega)]⟩, fun i hi => (hKt.2.1 i hi).1, fun i => ⟨(hKt.2.2 i).1, (hKt.2.2 i).2⟩⟩
    have hL1 : LwK K1 := by rw [← hK1]; exact hL.lay hW.l6 hN
    have h96 : K1 96 ≤ 6 := by rw [← hK1, layK_lo (by omega)]; exact hW.l6
    have hs1 : okO (K1, u, US, lg, 0, -1) := by rw [← hK1]; exact hs.lay
    generalize hV6 : up (up (up V5 74 27 (nI 0)) 74 28 (-1)) 74 43 (nI 2400) = V6
    have f6 : ∀ a k, ¬ (a = 74 ∧ (k = 27 ∨ k = 28 ∨ k = 43)) → V6 a k = V5 a k := fun a k q => by rw [← hV6, up_ne2 (by omega), up_ne2 (by omega), up_ne2 (by omega)]
    have g43 : V6 74 43 = nI (2400 + 0) := by rw [← hV6, up_at]
    have hX6 : MO (K1, u, US, lg, 0, -1) V6 := by
      have e : V6 88 = V 88 := funext (fun k => by rw [f6 88 k (by omega), F5 88 (by omega), f4 88 (by omega), f3 88 (by omega), e88])
      refine ⟨?_, ?_, fun i hi => ?_, ?_, ?_⟩
      · rw [show V6 76 = V5 76 from funext (fun k => f6 76 k (by omega))]; exact hM5
      · rw [f6 74 32 (by omega), F5 74 (by omega)]; exact g32
      · rw [e]; exact hU i hi
      · rw [← hV6, up_at' (by omega), up_at' (by omega), up_at]
      · rw [← hV6, up_at' (by omega), up_at]; rfl
    have hF6 : FrMD V V6 := fun a k q1 q2 q3 q4 q5 q6 q7 => by rw [f6 a k (by omega), F5 a q3]; exact hF4 a k q1 q2 q3 q4 q5 q6 q7
    have i13 : V6 74 13 = nI 0 := by rw [f6 74 13 (by omega), F5 74 (by omega), f4 74 (by omega), f3 74 (by omega)]; exact a1
    have i14 : V6 74 14 = -1 := by rw [f6 74 14 (by omega), F5 74 (by omega), f4 74 (by omega), f3 74 (by omega)]; exact a2
    have i42 : V6 74 42 = -1 := by rw [f6 74 42 (by omega), F5 74 (by omega), f4 74 (by omega), f3 74 (by omega)]; exact e42
    have i75 : V6 75 = V 75 := funext (fun k => by rw [f6 75 k (by omega), F5 75 (by omega), f4 75 (by omega), f3 75 (by omega), e75])
    have i79 : ∀ k, k < 39 → V6 79 (39 * 1 + k) = nI (K1 k) := fun k hk => by
      rw [f6 79 _ (by omega), F5 79 (by omega), f4 79 (by omega), ← hV3, uw_same]
      unfold cp
      rw [if_pos (by omega), show 39 * 1 + k - 39 * 1 = k by omega, e76, hLo k hk]
      exact hM.at k
    have i89 : ∀ k, k < 640 → V6 89 k = V 88 k := fun k hk => by
      rw [f6 89 _ (by omega), F5 89 (by omega), ← hV4, uw_same]
      unfold cp
      rw [if_pos (by omega), Nat.sub_zero, f3 88 (by omega), e88]
    have k104' : ∀ x y z, up (up (up V5 74 27 x) 74 28 y) 74 43 z 76 104 = nI (Tks T tn).length := fun x y z => by
      rw [up_ne (by omega), up_ne (by omega), up_ne (by omega)]; exact k104
    refine x_aload_n rfl rfl ?_
    refine x_iconstN (q := 0) rfl ?_
    refine x_putI rfl rfl rfl rfl ?_
    refine x_aload_n rfl rfl ?_
    refine x_iconst rfl ?_
    refine x_putI rfl rfl rfl rfl ?_
    refine x_aload_n rfl rfl ?_
    refine x_sipushN (q := 2400) rfl ?_
    refine x_putI rfl rfl rfl rfl ?_
    refine x_aload_n rfl rfl ?_
    refine x_getE (y := 43) rfl rfl rfl up_at ?_
    refine x_aload_n rfl rfl ?_
    refine x_getR (u := .ref _) rfl rfl rfl rfl ?_
    refine x_bipushN (q := 104) rfl ?_
    refine x_ialE (j := 104) rfl rfl (rfl) (by omega) (k104' _ _ _) ?_
    refine x_iaddN rfl ?_
    refine x_istore_n (ls' := [_, _, _, _, _]) rfl rfl rfl ?_
    refine x_iconstN (q := 0) rfl ?_
    refine x_istore_n (ls' := [_, _, _, _, _]) rfl rfl rfl ?_
    skip
    have hfin := m_cls (d := d) (V0 := V6) (G := G) (P := P) (ext := ext) (u1 := nI u) hO hL1 h96 12 0 0 0 (K1, u, US, lg, 0, -1) V6 VL (.retAddr 9) (by omega) c (by omega) hs1 (by show 0 ≤ _; omega) (fun _ _ => rfl) hX6 g43 FrMO.refl (fun s' V' VL' e1 o1 o2 hX' hF' ol => ?_) (fun n V' VL' z4 K' e1 hn r1 r2 hF' => ?_)
    · rw [← hV6] at hfin
      exact hfin
    · refine h1 c s' _ VL' e1 o1 o2 (hX'.same (fun a k z => up_ne2 (by omega))) (fun a k q1 q2 q3 q4 q5 q6 q7 => ?_) (funext (fun k => ?_)) ?_ ?_ ?_ up_at ol
      · rw [up_ne2 (by omega), hF' a k (by omega) (by omega) q6 q3]; exact hF6 a k q1 q2 q3 q4 q5 q6 q7
      · rw [up_ne2 (by omega), hF' 75 k (by omega) (by omega) (by omega) (by omega), i75]
      · rw [up_at' (by omega), hF' 74 13 (by omega) (by omega) (by omega) (by omega)]; exact i13
      · rw [up_at' (by omega), hF' 74 14 (by omega) (by omega) (by omega) (by omega)]; exact i14
      · rw [up_at' (by omega), hF' 74 42 (by omega) (by omega) (by omega) (by omega)]; exact i42
    · refine x_aload_n rfl rfl ?_
      refine x_iconstN (q := 1) rfl ?_
      refine x_callV (M' := mi161) (As := [_]) (bc1 := 0) (bs1 := 0) (bc2 := 0) (bs2 := 0) rfl rfl rfl rfl ok161 rfl rfl (by decide) rfl rfl rfl rfl rfl rfl ?_
      refine m_takesBack (k := 1) (by omega) ?_
      refine x_iconstN (q := 0) rfl ?_
      refine x_istore (ls' := [_, _, _, _, _]) rfl rfl rfl ?_
      skip
      generalize hV7 : uw V' 76 (cp (V' 76) 0 (fun i => V' 79 (39 * 1 + i)) 39) = V7
      have f7 : ∀ a, a ≠ 76 → V7 a = V' a := fun a q => by rw [← hV7, uw_ne q]
      have hbk := mo_back (d := d) (V := V7) (VL := VL') (G := G) (P := P) (ext := ext) (u1 := nI u) (z2 := nI (2400 + (Tks T tn).length)) (z3 := nI n) (fun z => ?_) 640 0 (by omega)
      · rw [cp_0] at hbk
        exact hbk
      have hM7 : RK (V7 76) K1 := by
        rw [← hV7, uw_same]
        have := mvK_RK (h := fun i => V' 79 (39 * 1 + i)) (B := K1) r1 (fun k hk => by rw [hF' 79 _ (by omega) (by omega) (by omega) (by omega)]; exact i79 k hk)
        rw [show mvK K' K1 = K1 from funext (fun k => by
          unfold mvK
          split
          · rfl
          · exact r2 k (by omega))] at this
        exact this
      generalize hV8 : uw V7 88 (cp (V7 88) 0 (V7 89) 640) = V8
      have f8 : ∀ a, a ≠ 88 → V8 a = V7 a := fun a q => by rw [← hV8, uw_ne q]
      have g88 : ∀ k, k < 640 → V8 88 k = V 88 k := fun k hk => by
        rw [← hV8, uw_same]
        unfold cp
        rw [if_pos (by omega), Nat.sub_zero, f7 89 (by omega), hF' 89 k (by omega) (by omega) (by omega) (by omega)]
        exact i89 k hk
      have g75 : ∀ k, V8 75 k = V 75 k := fun k => by rw [f8 75 (by omega), f7 75 (by omega), hF' 75 k (by omega) (by omega) (by omega) (by omega), i75]
      refine x_aload_n rfl rfl ?_
      refine x_iload_n rfl rfl ?_
      refine x_putI rfl rfl rfl rfl ?_
      refine x_aload_n rfl rfl ?_
      refine x_iload_n rfl rfl ?_
      refine x_putI rfl rfl rfl rfl ?_
      refine x_aload_n rfl rfl ?_
      refine x_bipush rfl ?_
      refine x_callV (M' := mi154) (As := [_]) (bc1 := 0) (bs1 := 0) (bc2 := 0) (bs2 := 0) rfl rfl rfl rfl ok154 rfl rfl (by decide) rfl rfl rfl rfl rfl rfl ?_
      refine m_refuses 3 rfl (by omega) ?_
      refine x_iret rfl rfl ?_
      skip
      have e3 : up (up V8 74 32 (nI u)) 74 42 (nI n) 75 3 = V 75 3 := by rw [up_ne (by omega), up_ne (by omega)]; exact g75 3
      rw [e3]
      refine h0 c n _ VL' e1 hn ?_ ?_ (fun k hk => ?_) (fun a k q1 q2 q3 q4 q5 q6 q7 => ?_) (fun k hk => ?_) up_at ?_ ?_ ?_ ?_
      · rw [up_ne (by omega), up_ne (by omega), up_ne (by omega), up_ne (by omega), f8 76 (by omega)]; exact hM7
      · rw [up_ne (by omega), up_at' (by omega), up_at' (by omega), up_at]
      · rw [up_ne (by omega), up_ne (by omega), up_ne (by omega), up_ne (by omega)]; exact g88 k hk
      · rw [up_ne2 (by omega), up_ne2 (by omega), up_ne2 (by omega), up_ne2 (by omega), f8 a q6, f7 a q3, hF' a k (by omega) (by omega) q6 q3]; exact hF6 a k q1 q2 q3 q4 q5 q6 q7
      · rw [up_at' hk, up_ne (by omega), up_ne (by omega), up_ne (by omega)]; exact g75 k
      · rw [up_ne (by omega), up_at' (by omega), up_at' (by omega), up_at' (by omega), f8 74 (by omega), f7 74 (by omega), hF' 74 13 (by omega) (by omega) (by omega) (by omega)]; exact i13
      · rw [up_ne (by omega), up_at' (by omega), up_at' (by omega), up_at' (by omega), f8 74 (by omega), f7 74 (by omega), hF' 74 14 (by omega) (by omega) (by omega) (by omega)]; exact i14
      · rw [up_ne (by omega), up_at' (by omega), up_at]
      · rw [up_ne (by omega), up_at]
  · have e75 : V2 75 6 = V 75 6 := by rw [F2 75 6 (by omega) (by omega) (by omega) (by omega), up_ne2 (by omega)]
    refine x_ifN_ne rfl (fun c10 => ?_) (fun c10 => ?_)
    · exact absurd c10 (by first | decide | omega)
    refine x_aload_n rfl rfl ?_
    refine x_bipush rfl ?_
    refine x_callV (M' := mi154) (As := [_]) (bc1 := 0) (bs1 := 0) (bc2 := 0) (bs2 := 0) rfl rfl rfl rfl ok154 rfl rfl (by decide) rfl rfl rfl rfl rfl rfl ?_
    refine m_refuses 6 rfl (by omega) ?_
    refine x_iret rfl rfl ?_
    skip
    rw [e75]
    refine h2 c _ (fun a k q1 q2 q3 q4 => ?_) ?_ ?_
    · by_cases c75 : a = 75 ∧ k = 6
      · rw [c75.1, c75.2, up_at, up_at]
      · rw [up_ne2 c75, up_ne2 c75]
        by_cases c0 : a = 74 ∧ k = 0
        · rw [c0.1, c0.2, up_at, up_at]
        · rw [up_ne2 c0, up_ne2 c0]; exact F2 a k q1 q2 q3 q4
    · rw [up_ne (by omega), up_at' (by omega)]; exact a1
    · rw [up_ne (by omega), up_at' (by omega)]; exact a2
end MOrd
