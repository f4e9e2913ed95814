/-! ===== the model obeys, and runs ===== -/
def FrOb (V0 V : VIT) : Prop := ∀ a k, a ≠ 86 → ¬ (a = 74 ∧ ((22 ≤ k ∧ k ≤ 25) ∨ k = 28)) → V a k = V0 a k
/-- the model's state within orders -/
def MO (s : OS) (V : VIT) : Prop := RK (V 76) s.1 ∧ V 74 32 = nI s.2.1 ∧ (∀ i, i < s.2.1 → (∀ k, k < 39 → V 88 (40 * i + k) = nI (s.2.2.1 i k)) ∧ V 88 (40 * i + 39) = nI (s.2.2.2.1 i % 4)) ∧ V 74 27 = nI s.2.2.2.2.1 ∧ V 74 28 = Int32.ofInt s.2.2.2.2.2
def FrMO (V0 V : VIT) : Prop := ∀ a k, a ≠ 86 → ¬ (a = 74 ∧ ((22 ≤ k ∧ k ≤ 28) ∨ k = 32 ∨ (43 ≤ k ∧ k ≤ 47))) → a ≠ 88 → a ≠ 76 → V a k = V0 a k
set_option maxRecDepth 20000 in
theorem FrMO.refl {V : VIT} : FrMO V V := fun _ _ _ _ _ _ => rfl
set_option maxRecDepth 20000 in
theorem FrMO.trans {V0 V1 V2 : VIT} (h1 : FrMO V0 V1) (h2 : FrMO V1 V2) : FrMO V0 V2 := fun a k q1 q2 q3 q4 => (h2 a k q1 q2 q3 q4).trans (h1 a k q1 q2 q3 q4)
set_option maxRecDepth 20000 in
theorem FrGA.mo {V0 V : VIT} (h : FrGA V0 V) : FrMO V0 V := fun a k q1 q2 _ _ => h a k (by omega)
set_option maxRecDepth 20000 in
theorem FrOb.mo {V0 V : VIT} (h : FrOb V0 V) : FrMO V0 V := fun a k q1 q2 _ _ => h a k q1 (by omega)
set_option maxRecDepth 20000 in
theorem MO.same {s : OS} {V V' : VIT} (h : MO s V) (hF : ∀ a k, a = 76 ∨ a = 88 ∨ (a = 74 ∧ (k = 27 ∨ k = 28 ∨ k = 32)) → V' a k = V a k) : MO s V' := by
  obtain ⟨h1, h2, h3, h4, h5⟩ := h
  refine ⟨?_, by rw [hF 74 32 (by omega)]; exact h2, fun i hi => ⟨fun k hk => by rw [hF 88 _ (by omega)]; exact (h3 i hi).1 k hk, by rw [hF 88 _ (by omega)]; exact (h3 i hi).2⟩, by rw [hF 74 27 (by omega)]; exact h4, by rw [hF 74 28 (by omega)]; exact h5⟩
  rw [show V' 76 = V 76 from funext (fun k => hF 76 k (by omega))]
  exact h1
set_option maxRecDepth 20000 in
theorem MO.nxt {kd g r : Nat} {s : OS} {K' : KT} {V V' V3 : VIT} (h : MO s V) (hs : okO s) (k1 : KMo V V' (sO s.2.1) (vO s.2.1) (g % 4)) (k2 : RK (V' 76) K') (hF : ∀ a k, a = 76 ∨ a = 88 ∨ (a = 74 ∧ k = 32) → V3 a k = V' a k) (e4 : V3 74 27 = nI (s.2.2.2.2.1 + 1)) (e5 : V3 74 28 = Int32.ofInt (if kd = 0 then (r : Int) else s.2.2.2.2.2)) : MO (nxtO kd s (K', g, r)) V3 := by
  obtain ⟨K, u, US, lg, ran, lat⟩ := s
  obtain ⟨h1, h2, h3, h4, h5⟩ := h
  obtain ⟨hW, h16, hU, hch⟩ := hs
  obtain ⟨x1, x2, x3, x4, x5⟩ := k1
  have hn := nxtSV h16
  have hus : vO u + sO u = u ∧ vO u < 16 := by
    unfold Nxt at hn
    dsimp only at hn
    omega
  have x2' : ∀ k, k < 40 * vO u → V' 88 k = V 88 (k + 40 * sO u) := x2
  have x3' : ∀ k, k < 39 → V' 88 (40 * vO u + k) = V 76 k := x3
  have x4' : V' 88 (40 * vO u + 39) = nI (g % 4) := x4
  have h1' : RK (V 76) K := h1
  have h3' : ∀ i, i < u → (∀ k, k < 39 → V 88 (40 * i + k) = nI (US i k)) ∧ V 88 (40 * i + 39) = nI (lg i % 4) := h3
  have hU' : ∀ k, k < 39 → US u k = K k := hU
  refine ⟨?_, (hF 74 32 (by omega)).trans x1, fun i hi => ?_, e4, e5⟩
  · rw [show V3 76 = V' 76 from funext (fun k => hF 76 k (by omega))]
    exact k2
  · change i < vO u + 1 at hi
    show (∀ k, k < 39 → V3 88 (40 * i + k) = nI (US1 US (sO u) (vO u) K' i k)) ∧ V3 88 (40 * i + 39) = nI (lg1 lg (sO u) (vO u) g i % 4)
    have eu : US1 US (sO u) (vO u) K' i = US (i + sO u) := if_neg (by omega)
    rw [eu]
    by_cases c : i = vO u
    · have el : lg1 lg (sO u) (vO u) g i = g := if_pos c
      rw [el, c, hus.1]
      refine ⟨fun k hk => ?_, ?_⟩
      · rw [hF 88 _ (by omega), x3' k hk, hU' k hk]
        exact h1'.at k
      · rw [hF 88 _ (by omega)]; exact x4'
    · have el : lg1 lg (sO u) (vO u) g i = lg (i + sO u) := if_neg c
      rw [el]
      obtain ⟨q1, q2⟩ := h3' (i + sO u) (by omega)
      refine ⟨fun k hk => ?_, ?_⟩
      · rw [hF 88 _ (by omega), x2' _ (by omega), ← q1 k hk]
        congr 1
        omega
      · rw [hF 88 _ (by omega), x2' _ (by omega), ← q2]
        congr 1
        omega
section MRun
variable {d : Nat} {V V0 : VIT} {VL : VLT} {G : VRT} {P : Post} {ext : HL} {s : OS} {kd N : Nat} {tc tv : Nat → Nat} {a b c : Int} {K0 : KT}
set_option maxRecDepth 20000 in
theorem m_obeys (hM : RK (V 76) s.1) (hs : okO s) (hL : LwK s.1) (hu : V 74 32 = nI s.2.1) (h45 : V 74 45 = nI (hdO kd)) (hkd : kd ≤ 3) (hA : kd ≠ 3 → (VL 98 0).toInt = a) (hB : kd = 0 → (VL 98 1).toInt = b ∧ (VL 98 2).toInt = c)
  (h1 : ∀ (K' : KT) (g r : Nat) (V' V2 : VIT), deedA kd s.1 a b c = some (K', g, r) → KMo V V' (sO s.2.1) (vO s.2.1) (g % 4) → RK (V' 76) K' → (∀ a k, ¬ (a = 74 ∧ k = 28) → V2 a k = V' a k) → V2 74 28 = (if kd = 0 then nI r else V' 74 28) → r ≤ 1000 → P (some (.int (nI r))) (LY ++ ext) V2 VL (vr G))
  (h0 : deedA kd s.1 a b c = none → ∀ (V2 : VIT) (w : Int32), w < 0 → FrOb V V2 → P (some (.int w)) (LY ++ ext) V2 VL (vr G)) : Ex (d + 47) mi272 0 (entL [.ref 74] 3) [] (LY ++ ext) V VL (vr G) 0 0 P := by
  have hW := hs.1
  have h16 := hs.2.1
  have hbd := fun x => smI_bd x
  rcases (show kd = 0 ∨ kd = 1 ∨ kd = 2 ∨ kd = 3 by omega) with rfl | rfl | rfl | rfl
  · obtain ⟨eb, ec⟩ := hB rfl
    have ea := hA (by omega)
    have key : deedA 0 s.1 a b c = deedA 0 s.1 (smI (VL 98 0).toInt) (smI (VL 98 1).toInt) (smI (VL 98 2).toInt) := by
      rw [← ea, ← eb, ← ec]; exact deedA_sm hW
    have h45' : V 74 45 = nI 21 := h45
    refine x_aload_n rfl rfl ?_
    refine x_getR (u := .ref _) rfl rfl rfl rfl ?_
    refine x_iconstN (q := 0) rfl ?_
    refine x_lalN (j := 0) rfl rfl (rfl) (by omega) ?_
    refine x_callS (M' := mi271) (As := [_]) (bc1 := 0) (bs1 := 0) (bc2 := 0) (bs2 := 0) rfl rfl rfl rfl ok271 rfl rfl rfl rfl rfl rfl ?_
    refine m_small ?_
    refine x_istore_n (ls' := [_, _, _]) rfl rfl rfl ?_
    refine x_aload_n rfl rfl ?_
    refine x_getE (y := 45) rfl rfl rfl h45' ?_
    refine x_swOut (tgt := 57) rfl (Or.inl (by decide)) (by decide) ?_
    refine x_aload_n rfl rfl ?_
    refine x_iload_n rfl rfl ?_
    refine x_aload_n rfl rfl ?_
    refine x_getR (u := .ref _) rfl rfl rfl rfl ?_
    refine x_iconstN (q := 1) rfl ?_
    refine x_lalN (j := 1) rfl rfl (rfl) (by omega) ?_
    refine x_callS (M' := mi271) (As := [_]) (bc1 := 0) (bs1 := 0) (bc2 := 0) (bs2 := 0) rfl rfl rfl rfl ok271 rfl rfl rfl rfl rfl rfl ?_
    refine m_small ?_
    refine x_aload_n rfl rfl ?_
    refine x_getR (u := .ref _) rfl rfl rfl rfl ?_
    refine x_iconstN (q := 2) rfl ?_
    refine x_lalN (j := 2) rfl rfl (rfl) (by omega) ?_
    refine x_callS (M' := mi271) (As := [_]) (bc1 := 0) (bs1 := 0) (bc2 := 0) (bs2 := 0) rfl rfl rfl rfl ok271 rfl rfl rfl rfl rfl rfl ?_
    refine m_small ?_
    refine x_callV (M' := mi240) (As := [_, _, _]) (bc1 := 0) (bs1 := 0) (bc2 := 0) (bs2 := 0) rfl rfl rfl rfl ok240 rfl rfl (by decide) rfl rfl rfl rfl rfl rfl ?_
    refine m_talkO hM hW hL hu h16 (hbd _) (hbd _) (hbd _) (fun K' g r V1 e1 k1 k2 k3 => ?_) (fun e1 V1 w hw hF => ?_)
    skip
    · have hk := h1 K' g r V1 (up V1 74 28 (nI r)) (key.trans e1) k1 k2 (fun a k q => up_ne2 q) (by rw [up_at, if_pos rfl]) k3
      refine x_istore_n (ls' := [_, _, _]) rfl rfl rfl ?_
      refine x_aload_n rfl rfl ?_
      refine x_iload_n rfl rfl ?_
      refine x_ifN_ge rfl ?_
      refine x_iload_n rfl rfl ?_
      refine x_putI rfl rfl rfl rfl ?_
      refine x_iload_n rfl rfl ?_
      refine x_iret rfl rfl ?_
      exact hk
    · have hk := h0 (key.trans e1) (up V1 74 28 (V1 74 28)) w hw (fun a k q1 q2 => by rw [up_ne2 (by omega)]; exact hF a k q1 (by omega))
      refine x_istore_n (ls' := [_, _, _]) rfl rfl rfl ?_
      refine x_aload_n rfl rfl ?_
      refine x_iload_n rfl rfl ?_
      refine x_if_ge rfl (fun c83 => ?_) (fun c83 => ?_)
      · exact absurd c83 (Int32.not_le.mpr hw)
      refine x_aload_n rfl rfl ?_
      refine x_getI rfl rfl rfl ?_
      refine x_goto rfl ?_
      refine x_putI rfl rfl rfl rfl ?_
      refine x_iload_n rfl rfl ?_
      refine x_iret rfl rfl ?_
      exact hk
  · have ea := hA (by omega)
    have key : ∀ b' c', deedA 1 s.1 a b c = deedA 1 s.1 (smI (VL 98 0).toInt) b' c' := fun b' c' => by
      rw [← ea]; exact (deedA_sm hW).trans rfl
    have h45' : V 74 45 = nI 24 := h45
    refine x_aload_n rfl rfl ?_
    refine x_getR (u := .ref _) rfl rfl rfl rfl ?_
    refine x_iconstN (q := 0) rfl ?_
    refine x_lalN (j := 0) rfl rfl (rfl) (by omega) ?_
    refine x_callS (M' := mi271) (As := [_]) (bc1 := 0) (bs1 := 0) (bc2 := 0) (bs2 := 0) rfl rfl rfl rfl ok271 rfl rfl rfl rfl rfl rfl ?_
    refine m_small ?_
    refine x_istore_n (ls' := [_, _, _]) rfl rfl rfl ?_
    refine x_aload_n rfl rfl ?_
    refine x_getE (y := 45) rfl rfl rfl h45' ?_
    refine x_swIn (tgt := 40) rfl (by decide) (by decide) rfl (by decide) ?_
    refine x_aload_n rfl rfl ?_
    refine x_iload_n rfl rfl ?_
    refine x_callV (M' := mi241) (As := [_]) (bc1 := 0) (bs1 := 0) (bc2 := 0) (bs2 := 0) rfl rfl rfl rfl ok241 rfl rfl (by decide) rfl rfl rfl rfl rfl rfl ?_
    refine m_devO (b := 0) (c := 0) hM hW hu h16 (hbd _) (fun K' g r V1 e1 k1 k2 k3 => ?_) (fun e1 V1 w hw hF => ?_)
    skip
    · have hk := h1 K' g r V1 V1 ((key 0 0).trans e1) k1 k2 (fun _ _ _ => rfl) (if_neg (by omega)).symm k3
      refine x_iret rfl rfl ?_
      exact hk
    · have hk := h0 ((key 0 0).trans e1) V1 w hw (fun a k q1 q2 => hF a k q1 (by omega))
      refine x_iret rfl rfl ?_
      exact hk
  · have ea := hA (by omega)
    have key : ∀ b' c', deedA 2 s.1 a b c = deedA 2 s.1 (smI (VL 98 0).toInt) b' c' := fun b' c' => by
      rw [← ea]; exact (deedA_sm hW).trans rfl
    have h45' : V 74 45 = nI 25 := h45
    refine x_aload_n rfl rfl ?_
    refine x_getR (u := .ref _) rfl rfl rfl rfl ?_
    refine x_iconstN (q := 0) rfl ?_
    refine x_lalN (j := 0) rfl rfl (rfl) (by omega) ?_
    refine x_callS (M' := mi271) (As := [_]) (bc1 := 0) (bs1 := 0) (bc2 := 0) (bs2 := 0) rfl rfl rfl rfl ok271 rfl rfl rfl rfl rfl rfl ?_
    refine m_small ?_
    refine x_istore_n (ls' := [_, _, _]) rfl rfl rfl ?_
    refine x_aload_n rfl rfl ?_
    refine x_getE (y := 45) rfl rfl rfl h45' ?_
    refine x_swIn (tgt := 46) rfl (by decide) (by decide) rfl (by decide) ?_
    refine x_aload_n rfl rfl ?_
    refine x_iload_n rfl rfl ?_
    refine x_callV (M' := mi242) (As := [_]) (bc1 := 0) (bs1 := 0) (bc2 := 0) (bs2 := 0) rfl rfl rfl rfl ok242 rfl rfl (by decide) rfl rfl rfl rfl rfl rfl ?_
    refine m_buryO (b := 0) (c := 0) hM hW hu h16 (hbd _) (fun K' g r V1 e1 k1 k2 k3 => ?_) (fun e1 V1 w hw hF => ?_)
    skip
    · have hk := h1 K' g r V1 V1 ((key 0 0).trans e1) k1 k2 (fun _ _ _ => rfl) (if_neg (by omega)).symm k3
      refine x_iret rfl rfl ?_
      exact hk
    · have hk := h0 ((key 0 0).trans e1) V1 w hw (fun a k q1 q2 => hF a k q1 (by omega))
      refine x_iret rfl rfl ?_
      exact hk
  · have key : deedA 3 s.1 a b c = deedA 3 s.1 0 0 0 := rfl
    have h45' : V 74 45 = nI 26 := h45
    refine x_aload_n rfl rfl ?_
    refine x_getR (u := .ref _) rfl rfl rfl rfl ?_
    refine x_iconstN (q := 0) rfl ?_
    refine x_lalN (j := 0) rfl rfl (rfl) (by omega) ?_
    refine x_callS (M' := mi271) (As := [_]) (bc1 := 0) (bs1 := 0) (bc2 := 0) (bs2 := 0) rfl rfl rfl rfl ok271 rfl rfl rfl rfl rfl rfl ?_
    refine m_small ?_
    refine x_istore_n (ls' := [_, _, _]) rfl rfl rfl ?_
    refine x_aload_n rfl rfl ?_
    refine x_getE (y := 45) rfl rfl rfl h45' ?_
    refine x_swIn (tgt := 52) rfl (by decide) (by decide) rfl (by decide) ?_
    refine x_aload_n rfl rfl ?_
    refine x_callV (M' := mi243) (As := []) (bc1 := 0) (bs1 := 0) (bc2 := 0) (bs2 := 0) rfl rfl rfl rfl ok243 rfl rfl (by decide) rfl rfl rfl rfl rfl rfl ?_
    refine m_passO (a := 0) (b := 0) (c := 0) hM hW hu h16 (fun K' g r V1 e1 k1 k2 k3 => ?_) (fun e1 V1 w hw hF => ?_)
    skip
    · have hk := h1 K' g r V1 V1 (key.trans e1) k1 k2 (fun _ _ _ => rfl) (if_neg (by omega)).symm k3
      refine x_iret rfl rfl ?_
      exact hk
    · have hk := h0 (key.trans e1) V1 w hw (fun a k q1 q2 => hF a k q1 (by omega))
      refine x_iret rfl rfl ?_
      exact hk
set_option maxRecDepth 20000 in
theorem LwK.lo {K K' : KT} (h : LwK K) (hW : K 96 ≤ 6) (e : ∀ k, 39 ≤ k → K' k = K k) : LwK K' := by
  intro t ht
  rw [e 96 (by omega)] at ht
  obtain ⟨h1, h2⟩ := h t ht
  have e1 : ktc K' t = ktc K t := by
    funext k
    unfold ktc
    rw [e _ (by omega), e _ (by omega)]
  have e2 : ktv K' t = ktv K t := by
    funext k
    unfold ktv
    rw [e _ (by omega), e _ (by omega)]
  have e3 : kcl K' t = kcl K t := by
    unfold kcl
    rw [e1, e2, e _ (by omega)]
  rw [e _ (by omega), e3]
  exact ⟨h1, h2⟩
set_option maxRecDepth 20000 in
theorem OrS.lo {K K' : KT} (h : OrS K N tc tv) (e : ∀ k, 39 ≤ k → K' k = K k) : OrS K' N tc tv := by
  obtain ⟨h1, h2, h3, h4⟩ := h
  exact ⟨h1, fun i hi => by rw [e _ (by omega), e _ (by omega)]; exact h2 i hi, h3, h4⟩
set_option maxRecDepth 20000 in
theorem m_tms {i p i' p' q : Nat} {c : Cla} (hO : OrS K0 N tc tv) (hL : LwK K0) (h96 : K0 96 ≤ 6) (hi : i ≤ N) (hp : pOrdC tc tv i p = (1, i', p', c)) (hc : okC c) (hq : q < 12) : ∀ (m t : Nat) (s : OS) (V : VIT) (VL : VLT), t + m = c.2.1 → okO s → s.2.2.2.2.1 ≤ 20 * q + t → (∀ k, 39 ≤ k → s.1 k = K0 k) → MO s V → V 74 43 = nI (2400 + i) → FrMO V0 V →
  (∀ (s' : OS) (V' : VIT) (VL' : VLT), tmO c m s = some s' → okO s' → s'.2.2.2.2.1 ≤ 20 * q + c.2.1 → (∀ k, 39 ≤ k → s'.1 k = K0 k) → MO s' V' → FrMO V0 V' → P (some (.int (nI 1))) (LY ++ ext) (up V' 74 43 (nI (2400 + i' + 1))) VL' (vr G)) →
  (∀ (V' : VIT) (VL' : VLT) (K' : KT), tmO c m s = none → RK (V' 76) K' → (∀ k, 39 ≤ k → K' k = K0 k) → FrMO V0 V' → P (some (.int (nI 0))) (LY ++ ext) V' VL' (vr G)) →
  Ex (d + 52) mi273 19 [.ref 74, .int (nI (2400 + N)), .int (nI c.2.1), .int (nI (2400 + i' + 1)), .int (nI t)] [] (LY ++ ext) V VL (vr G) 0 0 P := by
  have hN := hO.1
  obtain ⟨hc1, hc2, hc3⟩ := hc
  intro m
  induction m with
  | zero =>
    intro t s V VL ht hs hr hK hX h43 hF h1 h0
    have hk := h1 s V VL rfl hs (by omega) hK hX hF
    refine x_iload rfl rfl ?_
    refine x_iload_n rfl rfl ?_
    refine x_icmpN_ge rfl (fun c22 => ?_) (fun c22 => ?_)
    rotate_left
    · exact absurd c22 (by first | decide | omega)
    refine x_aload_n rfl rfl ?_
    refine x_iload_n rfl rfl ?_
    refine x_putI rfl rfl rfl rfl ?_
    refine x_iconstN (q := 1) rfl ?_
    refine x_zret rfl rfl (by first | exact Or.inl rfl | exact Or.inr rfl) ?_
    exact hk | succ m ih =>
    intro t s V VL ht hs hr hK hX h43 hF h1 h0
    have hstep : tmO c (m + 1) s = (oneO c s).bind (tmO c m) := rfl
    have hOs : OrS s.1 N tc tv := hO.lo hK
    have hLs : LwK s.1 := hL.lo h96 hK
    have hB : PuO s.1 s.2.2.2.2.1 s.2.2.2.2.2 := ⟨hs.1, by omega, hs.2.2.2.2.1, hs.2.2.2.2.2⟩
    refine x_iload rfl rfl ?_
    refine x_iload_n rfl rfl ?_
    refine x_icmpN_ge rfl (fun c22 => ?_) (fun c22 => ?_)
    · exact absurd c22 (by first | decide | omega)
    refine x_aload_n rfl rfl ?_
    refine x_iload_n rfl rfl ?_
    refine x_iconstN (q := 1) rfl ?_
    refine x_callV (M' := mi270) (As := [_, _]) (bc1 := 0) (bs1 := 0) (bc2 := 0) (bs2 := 0) rfl rfl rfl rfl ok270 rfl rfl (by decide) rfl rfl rfl rfl rfl rfl ?_
    refine m_goesAlong (d := d) (l := 1) hOs hB hX.1 h43 hX.2.2.2.1 hX.2.2.2.2 hi (by omega) hp (fun V1 VL1 sa ti F1 g22 gi g44 g45 g46 gsa g47 gti gK => ?_)
    skip
    obtain ⟨gK1, gK2, gK3, gK4⟩ := gK rfl
    have hX1 : MO s V1 := hX.same (fun a k z => F1 a k (by omega))
    have hF1 : FrMO V0 V1 := hF.trans F1.mo
    have k43 : V1 74 43 = nI (2400 + i) := by rw [F1 74 43 (by omega)]; exact h43
    by_cases hoff : offO c (eO s)
    · have eti : ti = 0 := by
        rcases (show ti = 0 ∨ ti = 1 by omega) with z | z
        · exact z
        · exact absurd hoff (gK1.mp z)
      rw [eti] at g47
      rw [hstep, oneO_off hoff] at h1 h0
      refine x_aload_n rfl rfl ?_
      refine x_getE (y := 47) rfl rfl rfl g47 ?_
      refine x_ifN_ne rfl (fun c35 => ?_) (fun c35 => ?_)
      · exact absurd c35 (by first | decide | omega)
      refine x_goto rfl ?_
      refine x_iincN (q := 1) (ls' := [_, _, _, _, _]) rfl rfl rfl rfl ?_
      refine x_goto rfl ?_
      exact ih (t + 1) s V1 VL1 (by omega) hs (by omega) hK hX1 k43 hF1 h1 h0
    · have eti : ti = 1 := gK1.mpr hoff
      rw [eti] at g47
      rw [hstep, oneO_on hoff] at h1 h0
      rcases actO_cases (c := c) (s := s) with ⟨z1, z2⟩ | ⟨a, b, e, z1, z2, z3, z4⟩
      · have esa : sa = 0 := by
          rcases (show sa = 0 ∨ sa = 1 by omega) with z | z
          · exact z
          · obtain ⟨y1, y2, y3⟩ := gK2.mp z
            rcases z2 with z2 | z2 | z2
            · exact absurd z2 y1
            · exact absurd z2 y2
            · exact absurd z2 y3
        rw [esa] at g46
        rw [z1] at h0
        have hk := h0 V1 VL1 s.1 rfl hX1.1 hK hF1
        refine x_aload_n rfl rfl ?_
        refine x_getE (y := 47) rfl rfl rfl g47 ?_
        refine x_ifN_ne rfl (fun c35 => ?_) (fun c35 => ?_)
        rotate_left
        · exact absurd c35 (by first | decide | omega)
        refine x_aload_n rfl rfl ?_
        refine x_getE (y := 46) rfl rfl rfl g46 ?_
        refine x_ifN_eq rfl (fun c45 => ?_) (fun c45 => ?_)
        rotate_left
        · exact absurd c45 (by first | decide | omega)
        refine x_iconstN (q := 0) rfl ?_
        refine x_zret rfl rfl (by first | exact Or.inl rfl | exact Or.inr rfl) ?_
        exact hk
      · have esa : sa = 1 := gK2.mpr ⟨fun z => (by cases z1.symm.trans z), fun z => (by cases z2.symm.trans z), fun z => (by cases z3.symm.trans z)⟩
        rw [esa] at g46
        rw [z4] at h1 h0
        refine x_aload_n rfl rfl ?_
        refine x_getE (y := 47) rfl rfl rfl g47 ?_
        refine x_ifN_ne rfl (fun c35 => ?_) (fun c35 => ?_)
        rotate_left
        · exact absurd c35 (by first | decide | omega)
        refine x_aload_n rfl rfl ?_
        refine x_getE (y := 46) rfl rfl rfl g46 ?_
        refine x_ifN_eq rfl (fun c45 => ?_) (fun c45 => ?_)
        · exact absurd c45 (by first | decide | omega)
        refine x_aload_n rfl rfl ?_
        refine x_callV (M' := mi272) (As := []) (bc1 := 0) (bs1 := 0) (bc2 := 0) (bs2 := 0) rfl rfl rfl rfl ok272 rfl rfl (by decide) rfl rfl rfl rfl rfl rfl ?_
        refine m_obeys (a := a) (b := b) (c := e) (s := s) hX1.1 hs hLs hX1.2.1 g45 hc1 (fun z => (gK3 z a z1).1) (fun z => ⟨((gK4 z).1 b z2).1, ((gK4 z).2 e z3).1⟩) (fun K' g r V2 V3 e1 k1 k2 f3 f28 k3 => ?_) (fun e1 V3 w hw hF3 => ?_)
        skip
        · obtain ⟨o1, o2, o3⟩ := nxtO_ok hs e1
          rw [e1] at h1 h0
          have f2 := k1.2.2.2.2
          have e27 : V3 74 27 = nI s.2.2.2.2.1 := by rw [f3 74 27 (by omega), f2 74 27 (by omega) (by omega) (by omega) (by omega) (by omega)]; exact hX1.2.2.2.1
          have hX3 : MO (nxtO c.1 s (K', g, r)) (up V3 74 27 (nI (s.2.2.2.2.1 + 1))) := by
            refine hX1.nxt hs k1 k2 (fun a k z => ?_) up_at ?_
            · rw [up_ne2 (by omega)]; exact f3 a k (by omega)
            · rw [up_at' (by omega), f28]
              split
              · exact oI_nat.symm
              · rw [f2 74 28 (by omega) (by omega) (by omega) (by omega) (by omega)]; exact hX1.2.2.2.2
          have F3 : FrMO V0 (up V3 74 27 (nI (s.2.2.2.2.1 + 1))) := fun a k q1 q2 q3 q4 => by
            rw [up_ne2 (by omega), f3 a k (by omega), f2 a k q1 (by omega) q3 q4 (by omega)]
            exact hF1 a k q1 q2 q3 q4
          have m43 : up V3 74 27 (nI (s.2.2.2.2.1 + 1)) 74 43 = nI (2400 + i) := by
            rw [up_at' (by omega), f3 74 43 (by omega), f2 74 43 (by omega) (by omega) (by omega) (by omega) (by omega)]; exact k43
          refine x_ifN_ge rfl ?_
          refine x_aload_n rfl rfl ?_
          refine x_dup rfl rfl ?_
          refine x_getE (y := 27) rfl rfl rfl e27 ?_
          refine x_iconstN (q := 1) rfl ?_
          refine x_iaddN rfl ?_
          refine x_putI rfl rfl rfl rfl ?_
          refine x_iincN (q := 1) (ls' := [_, _, _, _, _]) rfl rfl rfl rfl ?_
          refine x_goto rfl ?_
          exact ih (t + 1) (nxtO c.1 s (K', g, r)) _ VL1 (by omega) o1 (by omega) (fun k hk => (o3 k hk).trans (hK k hk)) hX3 m43 F3 h1 h0
        · rw [e1] at h0
          have hk := h0 V3 VL1 s.1 rfl (by rw [show V3 76 = V1 76 from funext (fun k => hF3 76 k (by omega) (by omega))]; exact hX1.1) hK (hF1.trans hF3.mo)
          refine x_if_ge rfl (fun c52 => ?_) (fun c52 => ?_)
          · exact absurd c52 (Int32.not_le.mpr hw)
          refine x_iconstN (q := 0) rfl ?_
          refine x_zret rfl rfl (by first | exact Or.inl rfl | exact Or.inr rfl) ?_
          exact hk
set_option maxRecDepth 20000 in
theorem m_runs {i p i' p' q : Nat} {c : Cla} (hO : OrS K0 N tc tv) (hL : LwK K0) (h96 : K0 96 ≤ 6) (hi : i ≤ N) (hp : pOrdC tc tv i p = (1, i', p', c)) (hc : okC c) (hq : q < 12) (hs : okO s) (hr : s.2.2.2.2.1 ≤ 20 * q) (hK : ∀ k, 39 ≤ k → s.1 k = K0 k) (hX : MO s V) (h43 : V 74 43 = nI (2400 + i)) (hF : FrMO V0 V)
  (h1 : ∀ (s' : OS) (V' : VIT) (VL' : VLT), tmO c c.2.1 s = some s' → okO s' → s'.2.2.2.2.1 ≤ 20 * (q + 1) → (∀ k, 39 ≤ k → s'.1 k = K0 k) → MO s' V' → i' ≤ N → V' 74 43 = nI (2400 + i' + 1) → FrMO V0 V' → P (some (.int (nI 1))) (LY ++ ext) V' VL' (vr G))
  (h0 : ∀ (V' : VIT) (VL' : VLT) (K' : KT), tmO c c.2.1 s = none → RK (V' 76) K' → (∀ k, 39 ≤ k → K' k = K0 k) → FrMO V0 V' → P (some (.int (nI 0))) (LY ++ ext) V' VL' (vr G)) : Ex (d + 52) mi273 0 (entL [.ref 74, .int (nI (2400 + N))] 5) [] (LY ++ ext) V VL (vr G) 0 0 P := by
  have hN := hO.1
  have hB : PuO s.1 s.2.2.2.2.1 s.2.2.2.2.2 := ⟨hs.1, by omega, hs.2.2.2.2.1, hs.2.2.2.2.2⟩
  have h20 := hc.2.1
  refine x_aload_n rfl rfl ?_
  refine x_iload_n rfl rfl ?_
  refine x_iconstN (q := 0) rfl ?_
  refine x_callV (M' := mi270) (As := [_, _]) (bc1 := 0) (bs1 := 0) (bc2 := 0) (bs2 := 0) rfl rfl rfl rfl ok270 rfl rfl (by decide) rfl rfl rfl rfl rfl rfl ?_
  refine m_goesAlong (d := d) (l := 0) (hO.lo hK) hB hX.1 h43 hX.2.2.2.1 hX.2.2.2.2 hi (by omega) hp (fun V1 VL1 sa ti F1 g22 gi g44 g45 g46 gsa g47 gti gK => ?_)
  refine x_aload_n rfl rfl ?_
  refine x_getE (y := 44) rfl rfl rfl g44 ?_
  refine x_istore_n (ls' := [_, _, _, _, _]) rfl rfl rfl ?_
  refine x_aload_n rfl rfl ?_
  refine x_getE (y := 22) rfl rfl rfl g22 ?_
  refine x_istore_n (ls' := [_, _, _, _, _]) rfl rfl rfl ?_
  refine x_iconstN (q := 0) rfl ?_
  refine x_istore (ls' := [_, _, _, _, _]) rfl rfl rfl ?_
  skip
  refine m_tms (d := d) (V0 := V0) hO hL h96 hi hp hc hq c.2.1 0 s V1 VL1 (by omega) hs (by omega) hK (hX.same (fun a k z => F1 a k (by omega))) (by rw [F1 74 43 (by omega)]; exact h43) (hF.trans F1.mo) (fun s' V' VL' e1 o1 o2 o3 hX' hF' => h1 s' _ VL' e1 o1 (by omega) o3 (hX'.same (fun a k z => up_ne2 (by omega))) gi up_at (fun a k q1 q2 q3 q4 => by rw [up_ne2 (by omega)]; exact hF' a k q1 q2 q3 q4)) h0
end MRun
