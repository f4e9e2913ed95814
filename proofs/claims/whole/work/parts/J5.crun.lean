/-! ===== the class runs orders ===== -/
section CRun
variable {d : Nat} {V V0 : VIT} {VL : VLT} {G : VRT} {P : Post} {ext : HL} {l : Nat} {cl : List Cla} {K0 : KT}
set_option maxRecDepth 20000 in
theorem x_markPlace {u : Nat} (hR : Refs (LY ++ ext) (vr G)) (hu : V 45 2 = nI u) (hP : ∀ V' : VIT, (∀ a k, (a < 47 ∨ 58 < a) → ¬ (a = 45 ∧ k = 6) → V' a k = V a k) → V' 45 6 = nI u → (∀ k, k < 16 → V' 58 k = V 46 k) → (∀ K, WF K → RW 3 K V → RW 47 K V') → P none (LY ++ ext) V' VL (vr (cpG G 57 13 6))) : Ex (d + 5) mi7 0 (entL [.ref 45] 1) [] (LY ++ ext) V VL (vr G) 0 0 P := by
  have hc : CpW 47 3 V (cw_47_3 V) := cw_47_3_ok
  have hf := hc.2.2.2.2.2
  refine x_aload_n rfl rfl ?_
  refine x_getR (u := .ref _) rfl rfl rfl rfl ?_
  refine x_aload_n rfl rfl ?_
  refine x_getR (u := .ref _) rfl rfl rfl rfl ?_
  refine x_callV (M' := mi89) (As := [_]) (bc1 := 0) (bs1 := 0) (bc2 := 0) (bs2 := 0) rfl rfl rfl rfl ok89 rfl rfl (by decide) rfl rfl rfl rfl rfl rfl ?_
  refine s_copy_47_3 hR ?_
  refine x_aload_n rfl rfl ?_
  refine x_getR (u := .ref _) rfl rfl rfl rfl ?_
  refine x_iconst rfl ?_
  refine x_aload_n rfl rfl ?_
  refine x_getR (u := .ref _) rfl rfl rfl rfl ?_
  refine x_iconst rfl ?_
  refine x_bipush rfl ?_
  refine x_copy rfl rfl rfl (by decide) (by decide) (by decide) (by decide) (by decide) rfl ?_
  refine x_aload_n rfl rfl ?_
  refine x_aload_n rfl rfl ?_
  refine x_getE (y := 2) (u := nI u) rfl rfl rfl (by rw [uw_ne (by omega), hf 45 (by omega)]; exact hu) ?_
  refine x_putI rfl rfl rfl rfl ?_
  refine x_vret rfl rfl ?_
  refine hP _ (fun a k q1 q2 => ?_) up_at (fun k hk => ?_) (fun K hW hX => (hX.cpw hW hc).same (fun a q1 q2 => by rw [up_ne (by omega), uw_ne (by omega)]))
  · rw [up_ne2 q2, uw_ne (by omega), hf a (by omega)]
  · rw [up_ne (by omega), uw_same, ← hf 46 (by omega)]
    show (if 0 ≤ k ∧ k < 0 + 16 then cw_47_3 V 46 (0 + (k - 0)) else _) = _
    rw [if_pos (by omega), Nat.zero_add, Nat.sub_zero]
set_option maxRecDepth 20000 in
theorem x_returnToPlace {u : Nat} (hR : Refs (LY ++ ext) (vr G)) (hu : V 45 6 = nI u) (hP : ∀ V' : VIT, (∀ a k, ¬ (3 ≤ a ∧ a ≤ 12) → a ≠ 46 → ¬ (a = 45 ∧ k = 2) → V' a k = V a k) → V' 45 2 = nI u → (∀ k, k < 16 → V' 46 k = V 58 k) → (∀ K, WF K → RW 47 K V → RW 3 K V') → P none (LY ++ ext) V' VL (vr (cpG G 13 57 6))) : Ex (d + 5) mi8 0 (entL [.ref 45] 1) [] (LY ++ ext) V VL (vr G) 0 0 P := by
  have hc : CpW 3 47 V (cw_3_47 V) := cw_3_47_ok
  have hf := hc.2.2.2.2.2
  refine x_aload_n rfl rfl ?_
  refine x_getR (u := .ref _) rfl rfl rfl rfl ?_
  refine x_aload_n rfl rfl ?_
  refine x_getR (u := .ref _) rfl rfl rfl rfl ?_
  refine x_callV (M' := mi89) (As := [_]) (bc1 := 0) (bs1 := 0) (bc2 := 0) (bs2 := 0) rfl rfl rfl rfl ok89 rfl rfl (by decide) rfl rfl rfl rfl rfl rfl ?_
  refine s_copy_3_47 hR ?_
  refine x_aload_n rfl rfl ?_
  refine x_getR (u := .ref _) rfl rfl rfl rfl ?_
  refine x_iconst rfl ?_
  refine x_aload_n rfl rfl ?_
  refine x_getR (u := .ref _) rfl rfl rfl rfl ?_
  refine x_iconst rfl ?_
  refine x_bipush rfl ?_
  refine x_copy rfl rfl rfl (by decide) (by decide) (by decide) (by decide) (by decide) rfl ?_
  refine x_aload_n rfl rfl ?_
  refine x_aload_n rfl rfl ?_
  refine x_getE (y := 6) (u := nI u) rfl rfl rfl (by rw [uw_ne (by omega), hf 45 (by omega)]; exact hu) ?_
  refine x_putI rfl rfl rfl rfl ?_
  refine x_vret rfl rfl ?_
  refine hP _ (fun a k q1 q2 q3 => ?_) up_at (fun k hk => ?_) (fun K hW hX => (hX.cpw hW hc).same (fun a q1 q2 => by rw [up_ne (by omega), uw_ne (by omega)]))
  · rw [up_ne2 q3, uw_ne q2, hf a (by omega)]
  · rw [up_ne (by omega), uw_same, ← hf 58 (by omega)]
    show (if 0 ≤ k ∧ k < 0 + 16 then cw_3_47 V 58 (0 + (k - 0)) else _) = _
    rw [if_pos (by omega), Nat.zero_add, Nat.sub_zero]
set_option maxRecDepth 20000 in
theorem x_tms {i : Nat} {c : Cla} (hi12 : i < 12) (hc : cl[i]? = some c) (htm : c.2.1 ≤ 20) (hT : TxO l cl V0) (hLw : ∀ (s : OS), (∀ k, 39 ≤ k → s.1 k = K0 k) → ∀ V' : VIT, (∀ a, 100 ≤ a → V' a = V0 a) → Laws s.1 13 (LY ++ ext) V' (vr G)) : ∀ (m t : Nat) (s : OS) (V : VIT), t + m = c.2.1 → okO s → s.2.2.2.2.1 ≤ 20 * i + t → (∀ k, 39 ≤ k → s.1 k = K0 k) → XO s V → V 59 6 = -1 → FrOX V0 V →
  (∀ (s' : OS) (V' : VIT) (z : Int32), tmO c m s = some s' → okO s' → s'.2.2.2.2.1 ≤ 20 * i + c.2.1 → (∀ k, 39 ≤ k → s'.1 k = K0 k) → XO s' V' → V' 59 6 = -1 → FrOX V0 V' → Ex (d + 31) mi20 84 [.ref 59, .ref 38, .int (nI i), .int (nI c.2.1), .int z] [] (LY ++ ext) V' VL (vr G) 0 0 P) →
  (∀ (V' : VIT) (z : Int32), tmO c m s = none → V' 59 6 = nI i → FrOX V0 V' → Ex (d + 31) mi20 84 [.ref 59, .ref 38, .int (nI i), .int (nI c.2.1), .int z] [] (LY ++ ext) V' VL (vr G) 0 0 P) →
  Ex (d + 31) mi20 50 [.ref 59, .ref 38, .int (nI i), .int (nI c.2.1), .int (nI t)] [] (LY ++ ext) V VL (vr G) 0 0 P := by
  intro m
  induction m with
  | zero =>
    intro t s V ht hs hr hK hX h6 hF h1 h0
    refine x_iload rfl rfl ?_
    refine x_iload_n rfl rfl ?_
    refine x_icmpN_ge rfl (fun c53 => ?_) (fun c53 => ?_)
    rotate_left
    · exact absurd c53 (by first | decide | omega)
    exact h1 s V _ rfl hs (by omega) hK hX h6 hF | succ m ih =>
    intro t s V ht hs hr hK hX h6 hF h1 h0
    have hstep : tmO c (m + 1) s = (oneO c s).bind (tmO c m) := rfl
    have hLV : ∀ V' : VIT, (∀ a, 100 ≤ a → V' a = V a) → Laws s.1 13 (LY ++ ext) V' (vr G) := fun V' q => hLw s hK V' (fun a ha => (q a ha).trans (funext (fun k => hF a k (by omega) (by omega) (by omega) (by omega) (by omega) (by omega) (by omega) (by omega))))
    refine x_iload rfl rfl ?_
    refine x_iload_n rfl rfl ?_
    refine x_icmpN_ge rfl (fun c53 => ?_) (fun c53 => ?_)
    · exact absurd c53 (by first | decide | omega)
    refine x_aload_n rfl rfl ?_
    refine x_getE (y := 6) rfl rfl rfl h6 ?_
    refine x_iconst rfl ?_
    refine x_icmp_ne rfl (fun c61 => ?_) (fun c61 => ?_)
    · exact absurd rfl c61
    refine x_aload_n rfl rfl ?_
    refine x_aload_n rfl rfl ?_
    refine x_iload_n rfl rfl ?_
    refine x_callV (M' := mi21) (As := [_, _]) (bc1 := 0) (bs1 := 0) (bc2 := 0) (bs2 := 0) rfl rfl rfl rfl ok21 rfl rfl (by decide) rfl rfl rfl rfl rfl rfl ?_
    refine x_couldRun (K0 := K0) (d := d) hs (by omega) hX (hT.fr hF) hc hLV (fun s' V' e1 hX' hF' h6' => ?_) (fun e1 V' hF' h6' => ?_)
    skip
    · obtain ⟨o1, o2, o3⟩ := oneO_ok hs e1
      rw [hstep, e1] at h1 h0
      refine x_ifN_ne rfl (fun c70 => ?_) (fun c70 => ?_)
      rotate_left
      · exact absurd c70 (by first | decide | omega)
      refine x_iincN (q := 1) (ls' := [_, _, _, _, _]) rfl rfl rfl rfl ?_
      refine x_goto rfl ?_
      exact ih (t + 1) s' V' (by omega) o1 (by omega) (fun k hk => (o3 k hk).trans (hK k hk)) hX' (h6'.trans h6) (hF.trans hF') h1 h0
    · have hF2 : FrOX V0 (up V' 59 6 (nI i)) := fun a k q1 q2 q3 q4 q5 q6 q7 q8 => by rw [up_ne2 (by omega)]; exact (hF.trans hF') a k q1 q2 q3 q4 q5 q6 q7 q8
      rw [hstep, e1] at h0
      have hk := fun z => h0 (up V' 59 6 (nI i)) z rfl up_at hF2
      by_cases c2 : t + 1 < c.2.1
      · refine x_ifN_ne rfl (fun c70 => ?_) (fun c70 => ?_)
        · exact absurd c70 (by first | decide | omega)
        refine x_aload_n rfl rfl ?_
        refine x_iload_n rfl rfl ?_
        refine x_putI rfl rfl rfl rfl ?_
        refine x_iincN (q := 1) (ls' := [_, _, _, _, _]) rfl rfl rfl rfl ?_
        refine x_goto rfl ?_
        skip
        refine x_iload rfl rfl ?_
        refine x_iload_n rfl rfl ?_
        refine x_icmpN_ge rfl (fun c53 => ?_) (fun c53 => ?_)
        · exact absurd c53 (by first | decide | omega)
        refine x_aload_n rfl rfl ?_
        refine x_getE (y := 6) rfl rfl rfl up_at ?_
        refine x_iconst rfl ?_
        refine x_icmp_ne rfl (fun c61 => ?_) (fun c61 => ?_)
        rotate_left
        · exact absurd c61 (nI_m1 (by omega))
        exact hk _
      · refine x_ifN_ne rfl (fun c70 => ?_) (fun c70 => ?_)
        · exact absurd c70 (by first | decide | omega)
        refine x_aload_n rfl rfl ?_
        refine x_iload_n rfl rfl ?_
        refine x_putI rfl rfl rfl rfl ?_
        refine x_iincN (q := 1) (ls' := [_, _, _, _, _]) rfl rfl rfl rfl ?_
        refine x_goto rfl ?_
        skip
        refine x_iload rfl rfl ?_
        refine x_iload_n rfl rfl ?_
        refine x_icmpN_ge rfl (fun c53 => ?_) (fun c53 => ?_)
        rotate_left
        · exact absurd c53 (by first | decide | omega)
        exact hk _
set_option maxRecDepth 20000 in
theorem x_cls (hT : TxO l cl V0) (hLw : ∀ (s : OS), (∀ k, 39 ≤ k → s.1 k = K0 k) → ∀ V' : VIT, (∀ a, 100 ≤ a → V' a = V0 a) → Laws s.1 13 (LY ++ ext) V' (vr G)) : ∀ (cs : List Cla) (i : Nat) (s : OS) (V : VIT) (z3 z4 : Value), (∀ j c, cs[j]? = some c → cl[i + j]? = some c) → i + cs.length = cl.length → okO s → s.2.2.2.2.1 ≤ 20 * i → (∀ k, 39 ≤ k → s.1 k = K0 k) → XO s V → V 59 6 = -1 → FrOX V0 V →
  (∀ (s' : OS) (V' : VIT), lsO cs i s = .inl s' → okO s' → s'.2.2.2.2.1 ≤ 1000 → (∀ k, 39 ≤ k → s'.1 k = K0 k) → XO s' V' → V' 59 6 = -1 → FrOX V0 V' → P (some (.int (nI s'.2.2.2.2.1))) (LY ++ ext) V' VL (vr G)) →
  (∀ (n : Nat) (V' : VIT) (z2 z3 z4 : Value), lsO cs i s = .inr n → n < 12 → V' 59 6 = nI n → FrOX V0 V' → Ex (d + 31) mi20 98 [.ref 59, .ref 38, z2, z3, z4] [] (LY ++ ext) V' VL (vr G) 0 0 P) →
  Ex (d + 31) mi20 24 [.ref 59, .ref 38, .int (nI i), z3, z4] [] (LY ++ ext) V VL (vr G) 0 0 P := by
  have h12 := hT.2.1
  intro cs
  induction cs with
  | nil =>
    intro i s V z3 z4 hsub hlen hs hr hK hX h6 hF h1 h0
    simp only [List.length_nil, Nat.add_zero] at hlen
    have hk := h1 s V rfl hs (by omega) hK hX h6 hF
    have hn := (hT.fr hF).1
    refine x_iload_n rfl rfl ?_
    refine x_aload_n rfl rfl ?_
    refine x_getE (y := 2) rfl rfl rfl hn ?_
    refine x_icmpN_ge rfl (fun c29 => ?_) (fun c29 => ?_)
    rotate_left
    · exact absurd c29 (by first | decide | omega)
    refine x_aload_n rfl rfl ?_
    refine x_getE (y := 6) rfl rfl rfl h6 ?_
    refine x_iconst rfl ?_
    refine x_icmp_eq rfl (fun c95 => ?_) (fun c95 => ?_)
    rotate_left
    · exact absurd rfl c95
    refine x_aload_n rfl rfl ?_
    refine x_getE (y := 4) rfl rfl rfl hX.2.2.2.1 ?_
    refine x_iret rfl rfl ?_
    exact hk | cons c r ih =>
    intro i s V z3 z4 hsub hlen hs hr hK hX h6 hF h1 h0
    simp only [List.length_cons] at hlen
    have hci : cl[i]? = some c := hsub 0 c rfl
    have hTV := hT.fr hF
    obtain ⟨⟨c1, c2, -⟩, k1, k2, k3⟩ := hTV.2.2.2.2 i c hci
    have hls : lsO (c :: r) i s = (tmO c c.2.1 s).elim (.inr i) (fun s' => lsO r (i + 1) s') := rfl
    refine x_iload_n rfl rfl ?_
    refine x_aload_n rfl rfl ?_
    refine x_getE (y := 2) rfl rfl rfl hTV.1 ?_
    refine x_icmpN_ge rfl (fun c29 => ?_) (fun c29 => ?_)
    · exact absurd c29 (by first | decide | omega)
    refine x_aload_n rfl rfl ?_
    refine x_getE (y := 6) rfl rfl rfl h6 ?_
    refine x_iconst rfl ?_
    refine x_icmp_ne rfl (fun c37 => ?_) (fun c37 => ?_)
    · exact absurd rfl c37
    refine x_aload_n rfl rfl ?_
    refine x_iload_n rfl rfl ?_
    refine x_iconstN (q := 1) rfl ?_
    refine x_callV (M' := mi84) (As := [_, _]) (bc1 := 0) (bs1 := 0) (bc2 := 0) (bs2 := 0) rfl rfl rfl rfl ok84 rfl rfl (by decide) rfl rfl rfl rfl rfl rfl ?_
    refine s_head (b := 38) (hd := 39) rfl rfl rfl hTV.1 h12 (by omega) (by omega) ?_
    rw [c2]
    refine x_istore_n (ls' := [_, _, _, _, _]) rfl rfl rfl ?_
    refine x_iconstN (q := 0) rfl ?_
    refine x_istore (ls' := [_, _, _, _, _]) rfl rfl rfl ?_
    skip
    refine x_tms (d := d) (i := i) (by omega) hci k2 hT hLw c.2.1 0 s V (by omega) hs (by omega) hK hX h6 hF (fun s' V' z e1 o1 o2 o3 hX' h6' hF' => ?_) (fun V' z e1 h6' hF' => ?_)
    · rw [hls, e1] at h1 h0
      refine x_iincN (q := 1) (ls' := [_, _, _, _, _]) rfl rfl rfl rfl ?_
      refine x_goto rfl ?_
      exact ih (i + 1) s' V' _ _ (fun j c' hj => by rw [show i + 1 + j = i + (j + 1) by omega]; exact hsub (j + 1) c' hj) (by omega) o1 (by omega) o3 hX' h6' hF' h1 h0
    · rw [hls, e1] at h0
      have hn' := (hT.fr hF').1
      have hk := fun z2 z3 z4 => h0 i V' z2 z3 z4 rfl (by omega) h6' hF'
      by_cases ce : i + 1 < cl.length
      · refine x_iincN (q := 1) (ls' := [_, _, _, _, _]) rfl rfl rfl rfl ?_
        refine x_goto rfl ?_
        skip
        refine x_iload_n rfl rfl ?_
        refine x_aload_n rfl rfl ?_
        refine x_getE (y := 2) rfl rfl rfl hn' ?_
        refine x_icmpN_ge rfl (fun c29 => ?_) (fun c29 => ?_)
        · exact absurd c29 (by first | decide | omega)
        refine x_aload_n rfl rfl ?_
        refine x_getE (y := 6) rfl rfl rfl h6' ?_
        refine x_iconst rfl ?_
        refine x_icmp_ne rfl (fun c37 => ?_) (fun c37 => ?_)
        rotate_left
        · exact absurd c37 (nI_m1 (by omega))
        refine x_aload_n rfl rfl ?_
        refine x_getE (y := 6) rfl rfl rfl h6' ?_
        refine x_iconst rfl ?_
        refine x_icmp_eq rfl (fun c95 => ?_) (fun c95 => ?_)
        · exact absurd c95 (nI_m1 (by omega))
        exact hk _ _ _
      · refine x_iincN (q := 1) (ls' := [_, _, _, _, _]) rfl rfl rfl rfl ?_
        refine x_goto rfl ?_
        skip
        refine x_iload_n rfl rfl ?_
        refine x_aload_n rfl rfl ?_
        refine x_getE (y := 2) rfl rfl rfl hn' ?_
        refine x_icmpN_ge rfl (fun c29 => ?_) (fun c29 => ?_)
        rotate_left
        · exact absurd c29 (by first | decide | omega)
        refine x_aload_n rfl rfl ?_
        refine x_getE (y := 6) rfl rfl rfl h6' ?_
        refine x_iconst rfl ?_
        refine x_icmp_eq rfl (fun c95 => ?_) (fun c95 => ?_)
        · exact absurd c95 (nI_m1 (by omega))
        exact hk _ _ _
/-- what a run may change -/
def FrRn (V0 V : VIT) : Prop := ∀ a k, ¬ (3 ≤ a ∧ a ≤ 12) → a ≠ 2 → ¬ (43 ≤ a ∧ a ≤ 60) → V a k = V0 a k
set_option maxRecDepth 20000 in
theorem FrOX.rn {V0 V : VIT} (h : FrOX V0 V) : FrRn V0 V := fun a k q1 q2 q3 => h a k q1 q2 (by omega) (by omega) (by omega) (by omega) (by omega) (by omega)
set_option maxRecDepth 20000 in
theorem FrRn.trans {V0 V1 V2 : VIT} (h1 : FrRn V0 V1) (h2 : FrRn V1 V2) : FrRn V0 V2 := fun a k q1 q2 q3 => (h2 a k q1 q2 q3).trans (h1 a k q1 q2 q3)
set_option maxRecDepth 20000 in
theorem x_run {u : Nat} {US : Nat → KT} {lg : Nat → Nat} (hR : Refs (LY ++ ext) (vr G)) (hs : okO (K0, u, US, lg, 0, -1)) (hX : RW 3 K0 V) (hu : V 45 2 = nI u) (hg : ∀ i, i < u → V 46 i = nI (lg i)) (hT : TxO l cl V) (hL : Laws K0 13 (LY ++ ext) V (vr G))
  (h1 : ∀ (s' : OS) (V' : VIT), lsO cl 0 (K0, u, US, lg, 0, -1) = .inl s' → okO s' → s'.2.2.2.2.1 ≤ 1000 → (∀ k, 39 ≤ k → s'.1 k = K0 k) → XO s' V' → V' 59 6 = -1 → FrRn V V' → P (some (.int (nI s'.2.2.2.2.1))) (LY ++ ext) V' VL (vr (cpG G 57 13 6)))
  (h0 : ∀ (n : Nat) (V' : VIT), lsO cl 0 (K0, u, US, lg, 0, -1) = .inr n → n < 12 → RW 3 K0 V' → V' 45 2 = nI u → (∀ i, i < u → V' 46 i = nI (lg i)) → V' 59 6 = nI n → FrRn V V' → P (some (.int (-3))) (LY ++ ext) V' VL (vr (cpG (cpG G 57 13 6) 13 57 6))) : Ex (d + 31) mi20 0 (entL [.ref 59, .ref 38] 5) [] (LY ++ ext) V VL (vr G) 0 0 P := by
  have hW : WF K0 := hs.1
  have h16 : u ≤ 16 := hs.2.1
  have h6 := hW.l6
  have hR' : Refs (LY ++ ext) (vr (cpG G 57 13 6)) := hR.cp rfl rfl (by omega)
  refine x_aload_n rfl rfl ?_
  refine x_getR (u := .ref _) rfl rfl rfl rfl ?_
  refine x_callV (M' := mi7) (As := []) (bc1 := 0) (bs1 := 0) (bc2 := 0) (bs2 := 0) rfl rfl rfl rfl ok7 rfl rfl (by decide) rfl rfl rfl rfl rfl rfl ?_
  refine x_markPlace (d := d + 25) hR hu (fun V1 f1 g1 g2 g3 => ?_)
  skip
  have fr1 : FrRn V V1 := fun a k q1 q2 q3 => f1 a k (by omega) (by omega)
  refine x_aload_n rfl rfl ?_
  refine x_iconstN (q := 0) rfl ?_
  refine x_putI rfl rfl rfl rfl ?_
  refine x_aload_n rfl rfl ?_
  refine x_iconst rfl ?_
  refine x_putI rfl rfl rfl rfl ?_
  refine x_aload_n rfl rfl ?_
  refine x_iconst rfl ?_
  refine x_putI rfl rfl rfl rfl ?_
  refine x_iconstN (q := 0) rfl ?_
  refine x_istore_n (ls' := [_, _, _, _, _]) rfl rfl rfl ?_
  skip
  generalize hV2 : up (up (up V1 59 4 (nI 0)) 59 5 (-1)) 59 6 (-1) = V2
  have e2 : ∀ a k, ¬ (a = 59 ∧ (k = 4 ∨ k = 5 ∨ k = 6)) → V2 a k = V1 a k := fun a k q => by rw [← hV2, up_ne2 (by omega), up_ne2 (by omega), up_ne2 (by omega)]
  have fr2 : FrRn V V2 := fun a k q1 q2 q3 => (e2 a k (by omega)).trans (fr1 a k q1 q2 q3)
  have hX2 : XO (K0, u, US, lg, 0, -1) V2 := by
    refine ⟨hX.same (fun a q1 q2 => funext (fun k => (e2 a k (by omega)).trans (f1 a k (by omega) (by omega)))), ?_, fun i hi => ?_, ?_, ?_⟩
    · rw [e2 45 2 (by omega), f1 45 2 (by omega) (by omega)]; exact hu
    · rw [e2 46 i (by omega), f1 46 i (by omega) (by omega)]; exact hg i hi
    · rw [← hV2, up_at' (by omega), up_at' (by omega), up_at]
    · rw [← hV2, up_at' (by omega), up_at]; rfl
  have h62 : V2 59 6 = -1 := by rw [← hV2, up_at]
  have hT2 : TxO l cl V2 := hT.same (fr2 38 2 (by omega) (by omega) (by omega)) (funext (fun k => fr2 39 k (by omega) (by omega) (by omega))) (funext (fun k => fr2 40 k (by omega) (by omega) (by omega)))
  have hb : ∀ b, 100 ≤ b → V2 b = V b := fun b hb => funext (fun k => fr2 b k (by omega) (by omega) (by omega))
  have hL2 : Laws K0 13 (LY ++ ext) V2 (vr (cpG G 57 13 6)) := hL.off hW (by omega) (by omega) hb
  have hLw : ∀ (s : OS), (∀ k, 39 ≤ k → s.1 k = K0 k) → ∀ V' : VIT, (∀ a, 100 ≤ a → V' a = V2 a) → Laws s.1 13 (LY ++ ext) V' (vr (cpG G 57 13 6)) := fun s hK V' hV' => hL2.same (hK 96 (by omega)) (fun i q1 q2 => hK i (by omega)) (fun k hk => hK _ (by omega)) (fun k hk => hK _ (by omega)) h6 hV'
  refine x_cls (d := d) (K0 := K0) hT2 hLw cl 0 (K0, u, US, lg, 0, -1) V2 _ _ (fun j c hj => by rw [Nat.zero_add]; exact hj) (Nat.zero_add _) hs (Nat.zero_le _) (fun _ _ => rfl) hX2 h62 FrOX.refl (fun s' V' e1 o1 o2 o3 hX' h6' hF' => h1 s' V' e1 o1 o2 o3 hX' h6' (fr2.trans hF'.rn)) (fun n V' z2 z3 z4 e1 hn h6' hF' => ?_)
  have hF3 := fr2.trans hF'.rn
  have hX47 : RW 47 K0 V' := (g3 K0 hW hX).same (fun a q1 q2 => funext (fun k => (hF' a k (by omega) (by omega) (by omega) (by omega) (by omega) (by omega) (by omega) (by omega)).trans (e2 a k (by omega))))
  have g6 : V' 45 6 = nI u := by rw [hF' 45 6 (by omega) (by omega) (by omega) (by omega) (by omega) (by omega) (by omega) (by omega), e2 45 6 (by omega)]; exact g1
  have g58 : ∀ k, k < 16 → V' 58 k = V 46 k := fun k hk => by rw [hF' 58 k (by omega) (by omega) (by omega) (by omega) (by omega) (by omega) (by omega) (by omega), e2 58 k (by omega)]; exact g2 k hk
  refine x_aload_n rfl rfl ?_
  refine x_getR (u := .ref _) rfl rfl rfl rfl ?_
  refine x_callV (M' := mi8) (As := []) (bc1 := 0) (bs1 := 0) (bc2 := 0) (bs2 := 0) rfl rfl rfl rfl ok8 rfl rfl (by decide) rfl rfl rfl rfl rfl rfl ?_
  refine x_returnToPlace (d := d + 25) hR' g6 (fun V5 f5 p1 p2 p3 => ?_)
  skip
  have hk := h0 n V5 e1 hn (p3 K0 hW hX47) p1 (fun i hi => by rw [p2 i (by omega), g58 i (by omega)]; exact hg i hi) (by rw [f5 59 6 (by omega) (by omega) (by omega)]; exact h6') (fun a k q1 q2 q3 => (f5 a k q1 (by omega) (by omega)).trans (hF3 a k q1 q2 q3))
  refine x_bipush rfl ?_
  refine x_iret rfl rfl ?_
  exact hk
end CRun
