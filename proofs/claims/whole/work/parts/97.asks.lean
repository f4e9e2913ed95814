/-! ===== both sides ask the law ===== -/
set_option maxRecDepth 20000 in
theorem nI_m1 {k : Nat} (h : k < 2147483648) : ¬ nI k = -1 := fun z => by
  have z2 := congrArg Int32.toInt z
  rw [nI_toInt (by omega), show ((-1 : Int32)).toInt = -1 from rfl] at z2
  omega
def FrT (V0 V : VIT) : Prop := ∀ a k, a ≠ 86 → ¬ (a = 74 ∧ (k = 22 ∨ k = 23 ∨ k = 24 ∨ k = 25)) → V a k = V0 a k
set_option maxRecDepth 20000 in
theorem FrT.trans {V V1 V2 : VIT} (h : FrT V V1) (h1 : FrT V1 V2) : FrT V V2 := fun a k q1 q2 => (h1 a k q1 q2).trans (h a k q1 q2)
set_option maxRecDepth 20000 in
theorem FrT.refl {V : VIT} : FrT V V := fun _ _ _ _ => rfl
set_option maxRecDepth 20000 in
theorem FrT.row {V V1 : VIT} (h : FrT V V1) (a : Nat) (h1 : a ≠ 86) (h2 : a ≠ 74) : V1 a = V a := funext (fun k => h a k h1 (by omega))
set_option maxRecDepth 20000 in
theorem FrH.row {V V1 : VIT} (h : FrH V V1) (a : Nat) (h1 : a ≠ 2) (h2 : a ≠ 44) (h3 : a ≠ 43) : V1 a = V a := funext (fun k => h a k h1 h2 (by omega))
set_option maxRecDepth 20000 in
theorem FrH.RW {V V1 : VIT} {K : KT} (h : FrH V V1) (hX : RW 3 K V) : RW 3 K V1 := hX.same (fun a _ _ => h.row a (by omega) (by omega) (by omega))
set_option maxRecDepth 20000 in
theorem FrH.Laws {V V1 : VIT} {K : KT} {ext : HL} {G : VRT} (h : FrH V V1) (hW : WF K) (hL : Laws K 13 (LY ++ ext) V (vr G)) : Laws K 13 (LY ++ ext) V1 (vr G) := hL.sameV hW.l6 (fun a _ => h.row a (by omega) (by omega) (by omega))
set_option maxRecDepth 20000 in
theorem FrT.RK {V V1 : VIT} {K : KT} (h : FrT V V1) (hM : RK (V 76) K) : RK (V1 76) K := by rw [h.row 76 (by omega) (by omega)]; exact hM
set_option maxRecDepth 20000 in
theorem FrT.Laws {V V1 : VIT} {K : KT} {ext : HL} {G : VRT} (h : FrT V V1) (hW : WF K) (hL : Laws K 13 (LY ++ ext) V (vr G)) : Laws K 13 (LY ++ ext) V1 (vr G) := hL.sameV hW.l6 (fun a _ => h.row a (by omega) (by omega))
/-- every law of a world is short and can be read -/
def LwK (K : KT) : Prop := ∀ t, t < K 96 → K (98 + t) ≤ 400 ∧ (kcl K t).1 = 1
set_option maxRecDepth 20000 in
theorem Laws.K {K : KT} {w : Nat} {lay : HL} {V : VIT} {VR : VRT} (h : Laws K w lay V VR) : LwK K := fun t ht => by
  obtain ⟨b, -, -, -, h1, h2, -⟩ := h t ht
  exact ⟨h1, h2⟩
section Tell3
variable {d : Nat} {V : VIT} {VL : VLT} {G : VRT} {P : Post} {ext : HL} {K : KT} {p q dy m1 m2 wk : Nat}
set_option maxRecDepth 20000 in
theorem oI_back {x : Int} (h : 0 ≤ x) : Int32.ofInt x = nI x.toNat := by rw [oI_nat]; congr 1; omega
set_option maxRecDepth 20000 in
theorem m_tells {hd hi w : Nat} (hM : RK (V 76) K) (hW : WF K) (hL : LwK K) (hhd : hd ≤ 3) (hhi : hi ≤ 1000) (hw : w ≤ 1000) (hp : p < K 93) (hq : q < 6) (hd4 : dy < 4) (h1 : m1 < 4) (h2 : m2 < 4) (hwk : K 38 = wk) (hP : ∀ V' : VIT, FrT V V' → P (some (.int (nI (tellsR K hd hi w p q dy m1 m2 wk).toNat))) (LY ++ ext) V' VL (vr G)) : Ex (d + 41) mi227 0 (entL [.ref 74, .int (nI hd), .int (nI p), .int (nI q), .int (nI dy), .int (nI m1), .int (nI m2), .int (nI hi), .int (nI w)] 16) [] (LY ++ ext) V VL (vr G) 0 0 P := by
  have h6 := hW.n
  have h96 := hW.l6
  have h97 : K 97 ≤ K 96 := hW.2.2.2.2.1
  by_cases c0 : K 97 = 0
  · have ef : V 76 97 = -1 := by rw [hM.2, c0]; rfl
    have er : tellsR K hd hi w p q dy m1 m2 wk = (w : Int) := if_pos c0
    rw [er, Int.toNat_natCast] at hP
    refine x_aload_n rfl rfl ?_
    refine x_getR (u := .ref _) rfl rfl rfl rfl ?_
    refine x_bipushN (q := 97) rfl ?_
    refine x_ialE (j := 97) rfl rfl (rfl) (by omega) (ef) ?_
    refine x_iconst rfl ?_
    refine x_icmp_ne rfl (fun c8 => ?_) (fun c8 => ?_)
    · exact absurd c8 (by first | decide | omega)
    refine x_iload rfl rfl ?_
    refine x_iret rfl rfl ?_
    exact hP V FrT.refl
  · obtain ⟨t, ht⟩ : ∃ t, K 97 = t + 1 := ⟨K 97 - 1, by omega⟩
    have ef : V 76 97 = nI t := by
      rw [hM.2, ht, show nI (t + 1) - 1 = nI (t + 1) - nI 1 from rfl]
      exact nI_sub1
    obtain ⟨hn4, hk1⟩ := hL t (by omega)
    have er : tellsR K hd hi w p q dy m1 m2 wk = (kcl K t).2.2.foldl (tS hd hi (lawE K p q dy m1 m2 wk)) w := by
      unfold tellsR
      rw [if_neg c0, ht]
      rfl
    have hbd := tellsR_bd (K := K) (hd := hd) (hi := hi) (w := w) (M := 1000) (p := p) (q := q) (dy := dy) (m1 := m1) (m2 := m2) (wk := wk) (by omega) (by omega) (by omega) (by omega)
    have hle := lawE_bd hW (p := p) (q := q) (dy := dy) (m1 := m1) (m2 := m2) (wk := wk) hp hq hd4 h1 h2 (by have := hW.2.2.2.2.2.1; omega)
    have key : ∀ (V1 : VIT) (z11 z12 z13 z14 z15 : Value), FrT V V1 → V1 74 23 = nI (400 * t + K (98 + t)) → V1 74 22 = nI (400 * t) → V1 74 25 = nI 0 → AskE (lawE K p q dy m1 m2 wk) V1 → Ex (d + 41) mi227 160 [.ref 74, .int (nI hd), .int (nI p), .int (nI q), .int (nI dy), .int (nI m1), .int (nI m2), .int (nI hi), .int (nI w), .long (nI w).toInt64, .retAddr 8, z11, z12, z13, z14, z15] [] (LY ++ ext) V1 VL (vr G) 0 0 P := by
      intro V1 z11 z12 z13 z14 z15 hF g1 g2 g3 g4
      have htc : ∀ i, K (98 + t) ≤ i → ktc K t i = 0 := fun i hi => if_neg (by omega)
      have hlt : ∀ i, ktc K t i < 1000 := fun i => by
        by_cases c : i < K (98 + t)
        · have := pTxt_ok htc 12 0 0 hk1 i (by omega) c
          omega
        · rw [htc i (by omega)]; omega
      have hE : EvS K (400 * t) (K (98 + t)) (ktc K t) V1 := ⟨hF.RK hM, g1, by omega, hn4, fun i hi => by unfold ktc; rw [if_pos hi, Nat.add_assoc], htc, hlt⟩
      have hLf := lf_law (VL := VL) (G := G) (ext := ext) (tv := ktv K t) hE g3 (fun i hi => by unfold ktv; rw [if_pos hi, Nat.add_assoc]) g4
      have h5 := fun g => (sm_all hE hLf g).1
      have h0 := (ts_all hE h5 PFuel).1
      refine tl_loop hE (h5 PFuel) h0 hhd hhi 12 0 0 V1 _ _ _ _ _ _ FrE.refl g2 hk1 (fun V' t' hF' ht' => ?_)
      have ew : ((nI w).toInt64).toInt = (w : Int) := by rw [Int32.toInt_toInt64, nI_toInt (by omega)]
      rw [ew] at ht'
      have e2 : t'.toInt32 = nI (tellsR K hd hi w p q dy m1 m2 wk).toNat := by
        rw [l2i_oI, ht', ← oI_back hbd.1, er]
        rfl
      rw [e2]
      exact hP V' (fun a k q1 q2 => (hF' a k (by omega)).trans (hF a k q1 q2))
    refine x_aload_n rfl rfl ?_
    refine x_getR (u := .ref _) rfl rfl rfl rfl ?_
    refine x_bipushN (q := 97) rfl ?_
    refine x_ialE (j := 97) rfl rfl (rfl) (by omega) (ef) ?_
    refine x_iconst rfl ?_
    refine x_icmp_ne rfl (fun c8 => ?_) (fun c8 => ?_)
    rotate_left
    · exact absurd c8 (nI_m1 (by omega))
    refine x_aload_n rfl rfl ?_
    refine x_getR (u := .ref _) rfl rfl rfl rfl ?_
    refine x_iconstN (q := 0) rfl ?_
    refine x_iload_n rfl rfl ?_
    refine x_iasN (j := 0) rfl rfl (rfl) (by omega) ?_
    refine x_aload_n rfl rfl ?_
    refine x_getR (u := .ref _) rfl rfl rfl rfl ?_
    refine x_iconstN (q := 1) rfl ?_
    refine x_iload_n rfl rfl ?_
    refine x_iasN (j := 1) rfl rfl (rfl) (by omega) ?_
    refine x_aload_n rfl rfl ?_
    refine x_getR (u := .ref _) rfl rfl rfl rfl ?_
    refine x_iconstN (q := 2) rfl ?_
    refine x_iload rfl rfl ?_
    refine x_iasN (j := 2) rfl rfl (rfl) (by omega) ?_
    refine x_aload_n rfl rfl ?_
    refine x_getR (u := .ref _) rfl rfl rfl rfl ?_
    refine x_iconstN (q := 3) rfl ?_
    refine x_aload_n rfl rfl ?_
    refine x_getR (u := .ref _) rfl rfl rfl rfl ?_
    refine x_bipushN (q := 39) rfl ?_
    refine x_iload_n rfl rfl ?_
    refine x_iaddN rfl ?_
    refine x_ialE (j := 39 + p) rfl rfl (rfl) (by omega) (hM.at (39 + p)) ?_
    refine x_iasN (j := 3) rfl rfl (rfl) (by omega) ?_
    refine x_aload_n rfl rfl ?_
    refine x_getR (u := .ref _) rfl rfl rfl rfl ?_
    refine x_iconstN (q := 4) rfl ?_
    refine x_aload_n rfl rfl ?_
    refine x_getR (u := .ref _) rfl rfl rfl rfl ?_
    refine x_bipushN (q := 45) rfl ?_
    refine x_iload_n rfl rfl ?_
    refine x_iaddN rfl ?_
    refine x_ialE (j := 45 + p) rfl rfl (rfl) (by omega) (hM.at (45 + p)) ?_
    refine x_iasN (j := 4) rfl rfl (rfl) (by omega) ?_
    refine x_aload_n rfl rfl ?_
    refine x_getR (u := .ref _) rfl rfl rfl rfl ?_
    refine x_iconstN (q := 5) rfl ?_
    refine x_iload rfl rfl ?_
    refine x_iasN (j := 5) rfl rfl (rfl) (by omega) ?_
    refine x_aload_n rfl rfl ?_
    refine x_getR (u := .ref _) rfl rfl rfl rfl ?_
    refine x_bipushN (q := 6) rfl ?_
    refine x_aload_n rfl rfl ?_
    refine x_getR (u := .ref _) rfl rfl rfl rfl ?_
    refine x_bipushN (q := 92) rfl ?_
    refine x_ialE (j := 92) rfl rfl (rfl) (by omega) (hM.at 92) ?_
    refine x_iasN (j := 6) rfl rfl (rfl) (by omega) ?_
    refine x_aload_n rfl rfl ?_
    refine x_getR (u := .ref _) rfl rfl rfl rfl ?_
    refine x_bipushN (q := 7) rfl ?_
    refine x_iload rfl rfl ?_
    refine x_iasN (j := 7) rfl rfl (rfl) (by omega) ?_
    refine x_aload_n rfl rfl ?_
    refine x_getR (u := .ref _) rfl rfl rfl rfl ?_
    refine x_bipushN (q := 8) rfl ?_
    refine x_aload_n rfl rfl ?_
    refine x_getR (u := .ref _) rfl rfl rfl rfl ?_
    refine x_bipushN (q := 38) rfl ?_
    refine x_ialE (j := 38) rfl rfl (rfl) (by omega) (hM.at 38) ?_
    refine x_iasN (j := 8) rfl rfl (rfl) (by omega) ?_
    refine x_aload_n rfl rfl ?_
    refine x_iconstN (q := 0) rfl ?_
    refine x_putZ rfl rfl rfl rfl (by first | exact Or.inl rfl | exact Or.inr rfl) ?_
    refine x_iload rfl rfl ?_
    refine x_i2l rfl ?_
    refine x_lstore (ls' := [_, _, _, _, _, _, _, _, _, _, _, _, _, _, _, _]) rfl rfl rfl ?_
    refine x_aload_n rfl rfl ?_
    refine x_sipushN (q := 400) rfl ?_
    refine x_aload_n rfl rfl ?_
    refine x_getR (u := .ref _) rfl rfl rfl rfl ?_
    refine x_bipushN (q := 97) rfl ?_
    refine x_ialE (j := 97) rfl rfl (rfl) (by omega) (ef) ?_
    refine x_imulN rfl ?_
    refine x_putI rfl rfl rfl rfl ?_
    refine x_aload_n rfl rfl ?_
    refine x_aload_n rfl rfl ?_
    refine x_getE (y := 22) rfl rfl rfl up_at ?_
    refine x_aload_n rfl rfl ?_
    refine x_getR (u := .ref _) rfl rfl rfl rfl ?_
    refine x_bipushN (q := 98) rfl ?_
    refine x_aload_n rfl rfl ?_
    refine x_getR (u := .ref _) rfl rfl rfl rfl ?_
    refine x_bipushN (q := 97) rfl ?_
    refine x_ialE (j := 97) rfl rfl (rfl) (by omega) (ef) ?_
    refine x_iaddN rfl ?_
    refine x_ialE (j := 98 + t) rfl rfl (rfl) (by omega) (hM.at (98 + t)) ?_
    refine x_iaddN rfl ?_
    refine x_putI rfl rfl rfl rfl ?_
    skip
    refine key _ _ _ _ _ _ (fun a k q1 q2 => by rw [up_ne2 (by omega), up_ne2 (by omega), up_ne2 (by omega), up_ne2 (by omega), up_ne2 (by omega), up_ne2 (by omega), up_ne2 (by omega), up_ne2 (by omega), up_ne2 (by omega), up_ne2 (by omega), up_ne2 (by omega), up_ne2 (by omega)]) up_at ((up_at' (by omega)).trans up_at) rfl (fun k hk => ?_)
    have hl9 := hle (8 + k)
    refine ⟨?_, hl9⟩
    rcases (show k = 0 ∨ k = 1 ∨ k = 2 ∨ k = 3 ∨ k = 4 ∨ k = 5 ∨ k = 6 ∨ k = 7 ∨ k = 8 by omega) with rfl | rfl | rfl | rfl | rfl | rfl | rfl | rfl | rfl
    · exact nI_toInt (by omega)
    · exact nI_toInt (by omega)
    · exact nI_toInt (by omega)
    · exact nI_toInt (by have := (hW.2.2.2.2.2.2.2.2.1 p hp).2.1; omega)
    · exact nI_toInt (by have := (hW.2.2.2.2.2.2.2.2.1 p hp).2.2; omega)
    · exact nI_toInt (by omega)
    · exact nI_toInt (by have := hW.2.2.2.2.2.2.2.1; omega)
    · exact nI_toInt (by omega)
    · rw [show lawE K p q dy m1 m2 wk (8 + 8) = (wk : Int) from rfl, ← hwk]
      exact nI_toInt (by have := hW.2.2.2.2.2.1; omega)

set_option maxRecDepth 20000 in
theorem m_swaysBy (hM : RK (V 76) K) (hW : WF K) (hL : LwK K) (hp : p < K 93) (hq : q < K 93) (hd4 : dy < 4) (h1 : m1 < 4) (h2 : m2 < 4) (hwk : K 38 = wk) (hP : ∀ V' : VIT, FrT V V' → P (some (.int (nI (swN K p q dy m1 m2 wk)))) (LY ++ ext) V' VL (vr G)) : Ex (d + 42) mi228 0 (entL [.ref 74, .int (nI p), .int (nI q), .int (nI dy), .int (nI m1), .int (nI m2)] 6) [] (LY ++ ext) V VL (vr G) 0 0 P := by
  have h6 := hW.n
  have h9 : K (39 + p) ≤ 9 := (hW.2.2.2.2.2.2.2.2.1 p hp).2.1
  refine x_aload_n rfl rfl ?_
  refine x_iconstN (q := 2) rfl ?_
  refine x_iload_n rfl rfl ?_
  refine x_iload_n rfl rfl ?_
  refine x_iload_n rfl rfl ?_
  refine x_iload rfl rfl ?_
  refine x_iload rfl rfl ?_
  refine x_bipushN (q := 9) rfl ?_
  refine x_aload_n rfl rfl ?_
  refine x_getR (u := .ref _) rfl rfl rfl rfl ?_
  refine x_bipushN (q := 39) rfl ?_
  refine x_iload_n rfl rfl ?_
  refine x_iaddN rfl ?_
  refine x_ialE (j := 39 + p) rfl rfl (rfl) (by omega) (hM.at (39 + p)) ?_
  refine x_callV (M' := mi227) (As := [_, _, _, _, _, _, _, _]) (bc1 := 0) (bs1 := 0) (bc2 := 0) (bs2 := 0) rfl rfl rfl rfl ok227 rfl rfl (by decide) rfl rfl rfl rfl rfl rfl ?_
  refine m_tells (wk := wk) hM hW hL (by omega) (by omega) (by omega) hp (by omega) hd4 h1 h2 hwk (fun V' hF => ?_)
  refine x_iret rfl rfl ?_
  exact hP V' hF
set_option maxRecDepth 20000 in
theorem m_isBarred (hM : RK (V 76) K) (hW : WF K) (hL : LwK K) (hp : p < K 93) (hq : q < K 93) (hd4 : dy < 4) (h1 : m1 < 4) (h2 : m2 < 4) (hwk : K 38 = wk) (hP : ∀ V' : VIT, FrT V V' → P (some (.int (nI (brN K p q dy m1 m2 wk)))) (LY ++ ext) V' VL (vr G)) : Ex (d + 42) mi230 0 (entL [.ref 74, .int (nI p), .int (nI q), .int (nI dy), .int (nI m1), .int (nI m2)] 6) [] (LY ++ ext) V VL (vr G) 0 0 P := by
  have h6 := hW.n
  have hb := brN_lt (K := K) (p := p) (q := q) (dy := dy) (m1 := m1) (m2 := m2) (wk := wk)
  have hk : ∀ (V' : VIT), FrT V V' → Ex (d + 42) mi230 14 [.ref 74, .int (nI p), .int (nI q), .int (nI dy), .int (nI m1), .int (nI m2)] [.int (nI (brN K p q dy m1 m2 wk))] (LY ++ ext) V' VL (vr G) 0 0 P := by
    intro V' hF
    rcases (show brN K p q dy m1 m2 wk = 0 ∨ brN K p q dy m1 m2 wk = 1 by omega) with e | e
    · have hP2 := hP V' hF
      rw [e] at hP2 ⊢
      refine x_iconstN (q := 1) rfl ?_
      refine x_icmpN_ne rfl (fun c15 => ?_) (fun c15 => ?_)
      rotate_left
      · exact absurd c15 (by first | decide | omega)
      refine x_iconstN (q := 0) rfl ?_
      refine x_zret rfl rfl (by first | exact Or.inl rfl | exact Or.inr rfl) ?_
      exact hP2
    · have hP2 := hP V' hF
      rw [e] at hP2 ⊢
      refine x_iconstN (q := 1) rfl ?_
      refine x_icmpN_ne rfl (fun c15 => ?_) (fun c15 => ?_)
      · exact absurd c15 (by first | decide | omega)
      refine x_iconstN (q := 1) rfl ?_
      refine x_goto rfl ?_
      refine x_zret rfl rfl (by first | exact Or.inl rfl | exact Or.inr rfl) ?_
      exact hP2
  refine x_aload_n rfl rfl ?_
  refine x_iconstN (q := 3) rfl ?_
  refine x_iload_n rfl rfl ?_
  refine x_iload_n rfl rfl ?_
  refine x_iload_n rfl rfl ?_
  refine x_iload rfl rfl ?_
  refine x_iload rfl rfl ?_
  refine x_iconstN (q := 1) rfl ?_
  refine x_iconstN (q := 0) rfl ?_
  refine x_callV (M' := mi227) (As := [_, _, _, _, _, _, _, _]) (bc1 := 0) (bs1 := 0) (bc2 := 0) (bs2 := 0) rfl rfl rfl rfl ok227 rfl rfl (by decide) rfl rfl rfl rfl rfl rfl ?_
  refine m_tells (wk := wk) (hd := 3) (hi := 1) (w := 0) hM hW hL (by omega) (by omega) (by omega) hp (by omega) hd4 h1 h2 hwk (fun V' hF => ?_)
  exact hk V' hF
set_option maxRecDepth 20000 in
theorem m_takesBy (hM : RK (V 76) K) (hW : WF K) (hL : LwK K) (hp : p < K 93) (hq : q < K 93) (hd4 : dy < 4) (h1 : m1 < 4) (h2 : m2 < 4) (hwk : K 38 = wk) (hP : ∀ V' : VIT, FrT V V' → P (some (.int (nI (tkN K p q dy m1 m2 wk (prv K p q dy m1 m2 wk))))) (LY ++ ext) V' VL (vr G)) : Ex (d + 43) mi229 0 (entL [.ref 74, .int (nI p), .int (nI q), .int (nI dy), .int (nI m1), .int (nI m2)] 8) [] (LY ++ ext) V VL (vr G) 0 0 P := by
  have h6 := hW.n
  have s1 := swN_lt hW (q := q) (dy := dy) (m1 := m1) (m2 := m2) (wk := wk) hp
  have s2 := swN_lt hW (q := p) (dy := dy) (m1 := m2) (m2 := m1) (wk := wk) hq
  have hpv := prv_lt (K := K) (p := p) (q := q) (dy := dy) (wk := wk) h1 h2
  refine x_aload_n rfl rfl ?_
  refine x_iload_n rfl rfl ?_
  refine x_iload_n rfl rfl ?_
  refine x_iload_n rfl rfl ?_
  refine x_iload rfl rfl ?_
  refine x_iload rfl rfl ?_
  refine x_callV (M' := mi228) (As := [_, _, _, _, _]) (bc1 := 0) (bs1 := 0) (bc2 := 0) (bs2 := 0) rfl rfl rfl rfl ok228 rfl rfl (by decide) rfl rfl rfl rfl rfl rfl ?_
  refine m_swaysBy (wk := wk) hM hW hL hp hq hd4 h1 h2 hwk (fun V1 hF1 => ?_)
  refine x_istore (ls' := [_, _, _, _, _, _, _, _]) rfl rfl rfl ?_
  refine x_aload_n rfl rfl ?_
  refine x_iload_n rfl rfl ?_
  refine x_iload_n rfl rfl ?_
  refine x_iload_n rfl rfl ?_
  refine x_iload rfl rfl ?_
  refine x_iload rfl rfl ?_
  refine x_callV (M' := mi228) (As := [_, _, _, _, _]) (bc1 := 0) (bs1 := 0) (bc2 := 0) (bs2 := 0) rfl rfl rfl rfl ok228 rfl rfl (by decide) rfl rfl rfl rfl rfl rfl ?_
  refine m_swaysBy (wk := wk) (hF1.RK hM) hW hL hq hp hd4 h2 h1 hwk (fun V2 hF2 => ?_)
  refine x_istore (ls' := [_, _, _, _, _, _, _, _]) rfl rfl rfl ?_
  skip
  have hk : ∀ w, w = prv K p q dy m1 m2 wk → Ex (d + 43) mi229 62 [.ref 74, .int (nI p), .int (nI q), .int (nI dy), .int (nI m1), .int (nI m2), .int (nI (swN K p q dy m1 m2 wk)), .int (nI (swN K q p dy m2 m1 wk))] [.int (nI w), .int (nI 3), .int (nI m2), .int (nI m1), .int (nI dy), .int (nI q), .int (nI p), .int (nI 1), .ref 74] (LY ++ ext) V2 VL (vr G) 0 0 P := by
    intro w hw
    subst hw
    refine x_callV (M' := mi227) (As := [_, _, _, _, _, _, _, _]) (bc1 := 0) (bs1 := 0) (bc2 := 0) (bs2 := 0) rfl rfl rfl rfl ok227 rfl rfl (by decide) rfl rfl rfl rfl rfl rfl ?_
    refine m_tells (wk := wk) ((hF1.trans hF2).RK hM) hW hL (by omega) (by omega) (by omega) hp (by omega) hd4 h1 h2 hwk (fun V' hF => ?_)
    refine x_iret rfl rfl ?_
    exact hP V' ((hF1.trans hF2).trans hF)
  by_cases c : swN K p q dy m1 m2 wk < swN K q p dy m2 m1 wk ∨ (swN K q p dy m2 m1 wk = swN K p q dy m1 m2 wk ∧ p < q)
  · have ew : m2 = prv K p q dy m1 m2 wk := (if_pos c).symm
    by_cases c1 : swN K p q dy m1 m2 wk < swN K q p dy m2 m1 wk
    · refine x_aload_n rfl rfl ?_
      refine x_iconstN (q := 1) rfl ?_
      refine x_iload_n rfl rfl ?_
      refine x_iload_n rfl rfl ?_
      refine x_iload_n rfl rfl ?_
      refine x_iload rfl rfl ?_
      refine x_iload rfl rfl ?_
      refine x_iconstN (q := 3) rfl ?_
      refine x_iload rfl rfl ?_
      refine x_iload rfl rfl ?_
      refine x_icmpN_gt rfl (fun c40 => ?_) (fun c40 => ?_)
      rotate_left
      · exact absurd c40 (by first | decide | omega)
      refine x_iload rfl rfl ?_
      refine x_goto rfl ?_
      exact hk _ ew
    · refine x_aload_n rfl rfl ?_
      refine x_iconstN (q := 1) rfl ?_
      refine x_iload_n rfl rfl ?_
      refine x_iload_n rfl rfl ?_
      refine x_iload_n rfl rfl ?_
      refine x_iload rfl rfl ?_
      refine x_iload rfl rfl ?_
      refine x_iconstN (q := 3) rfl ?_
      refine x_iload rfl rfl ?_
      refine x_iload rfl rfl ?_
      refine x_icmpN_gt rfl (fun c40 => ?_) (fun c40 => ?_)
      · exact absurd c40 (by first | decide | omega)
      refine x_iload rfl rfl ?_
      refine x_iload rfl rfl ?_
      refine x_icmpN_ne rfl (fun c47 => ?_) (fun c47 => ?_)
      · exact absurd c47 (by first | decide | omega)
      refine x_iload_n rfl rfl ?_
      refine x_iload_n rfl rfl ?_
      refine x_icmpN_le rfl (fun c52 => ?_) (fun c52 => ?_)
      · exact absurd c52 (by first | decide | omega)
      refine x_iload rfl rfl ?_
      refine x_goto rfl ?_
      exact hk _ ew
  · have ew : m1 = prv K p q dy m1 m2 wk := (if_neg c).symm
    by_cases c1 : swN K q p dy m2 m1 wk = swN K p q dy m1 m2 wk
    · refine x_aload_n rfl rfl ?_
      refine x_iconstN (q := 1) rfl ?_
      refine x_iload_n rfl rfl ?_
      refine x_iload_n rfl rfl ?_
      refine x_iload_n rfl rfl ?_
      refine x_iload rfl rfl ?_
      refine x_iload rfl rfl ?_
      refine x_iconstN (q := 3) rfl ?_
      refine x_iload rfl rfl ?_
      refine x_iload rfl rfl ?_
      refine x_icmpN_gt rfl (fun c40 => ?_) (fun c40 => ?_)
      · exact absurd c40 (by first | decide | omega)
      refine x_iload rfl rfl ?_
      refine x_iload rfl rfl ?_
      refine x_icmpN_ne rfl (fun c47 => ?_) (fun c47 => ?_)
      · exact absurd c47 (by first | decide | omega)
      refine x_iload_n rfl rfl ?_
      refine x_iload_n rfl rfl ?_
      refine x_icmpN_le rfl (fun c52 => ?_) (fun c52 => ?_)
      rotate_left
      · exact absurd c52 (by first | decide | omega)
      refine x_iload rfl rfl ?_
      exact hk _ ew
    · refine x_aload_n rfl rfl ?_
      refine x_iconstN (q := 1) rfl ?_
      refine x_iload_n rfl rfl ?_
      refine x_iload_n rfl rfl ?_
      refine x_iload_n rfl rfl ?_
      refine x_iload rfl rfl ?_
      refine x_iload rfl rfl ?_
      refine x_iconstN (q := 3) rfl ?_
      refine x_iload rfl rfl ?_
      refine x_iload rfl rfl ?_
      refine x_icmpN_gt rfl (fun c40 => ?_) (fun c40 => ?_)
      · exact absurd c40 (by first | decide | omega)
      refine x_iload rfl rfl ?_
      refine x_iload rfl rfl ?_
      refine x_icmpN_ne rfl (fun c47 => ?_) (fun c47 => ?_)
      rotate_left
      · exact absurd c47 (by first | decide | omega)
      refine x_iload rfl rfl ?_
      exact hk _ ew
set_option maxRecDepth 20000 in
theorem prv_sym {K : KT} {p q dy m1 m2 wk : Nat} (h : p ≠ q) : prv K q p dy m2 m1 wk = prv K p q dy m1 m2 wk := by
  unfold prv
  split <;> split <;> first | rfl | omega
set_option maxRecDepth 20000 in
theorem m_talked (hM : RK (V 76) K) (hW : WF K) (hL : LwK K) (hp : p < K 93) (hq : q < K 93) (hd4 : dy < 4) (h1 : m1 < 4) (h2 : m2 < 4) (hwk : K 38 = wk) (hpq : p ≠ q) (hP : ∀ V' : VIT, FrT V V' → P (some (.int (agI (outK K p q dy m1 m2 wk)))) (LY ++ ext) V' VL (vr G)) : Ex (d + 44) mi232 0 (entL [.ref 74, .int (nI p), .int (nI q), .int (nI dy), .int (nI m1), .int (nI m2)] 6) [] (LY ++ ext) V VL (vr G) 0 0 P := by
  have h6 := hW.n
  have b1 := brN_lt (K := K) (p := p) (q := q) (dy := dy) (m1 := m1) (m2 := m2) (wk := wk)
  have b2 := brN_lt (K := K) (p := q) (q := p) (dy := dy) (m1 := m2) (m2 := m1) (wk := wk)
  by_cases c1 : brN K p q dy m1 m2 wk = 1
  · have eo : outK K p q dy m1 m2 wk = none := if_pos (Or.inl c1)
    rw [eo] at hP
    refine x_aload_n rfl rfl ?_
    refine x_iload_n rfl rfl ?_
    refine x_iload_n rfl rfl ?_
    refine x_iload_n rfl rfl ?_
    refine x_iload rfl rfl ?_
    refine x_iload rfl rfl ?_
    refine x_callV (M' := mi230) (As := [_, _, _, _, _]) (bc1 := 0) (bs1 := 0) (bc2 := 0) (bs2 := 0) rfl rfl rfl rfl ok230 rfl rfl (by decide) rfl rfl rfl rfl rfl rfl ?_
    refine m_isBarred (wk := wk) hM hW hL hp hq hd4 h1 h2 hwk (fun V1 hF1 => ?_)
    refine x_ifN_ne rfl (fun c11 => ?_) (fun c11 => ?_)
    rotate_left
    · exact absurd c11 (by first | decide | omega)
    refine x_iconst rfl ?_
    refine x_iret rfl rfl ?_
    exact hP V1 hF1
  · by_cases c2 : brN K q p dy m2 m1 wk = 1
    · have eo : outK K p q dy m1 m2 wk = none := if_pos (Or.inr c2)
      rw [eo] at hP
      refine x_aload_n rfl rfl ?_
      refine x_iload_n rfl rfl ?_
      refine x_iload_n rfl rfl ?_
      refine x_iload_n rfl rfl ?_
      refine x_iload rfl rfl ?_
      refine x_iload rfl rfl ?_
      refine x_callV (M' := mi230) (As := [_, _, _, _, _]) (bc1 := 0) (bs1 := 0) (bc2 := 0) (bs2 := 0) rfl rfl rfl rfl ok230 rfl rfl (by decide) rfl rfl rfl rfl rfl rfl ?_
      refine m_isBarred (wk := wk) hM hW hL hp hq hd4 h1 h2 hwk (fun V1 hF1 => ?_)
      refine x_ifN_ne rfl (fun c11 => ?_) (fun c11 => ?_)
      · exact absurd c11 (by first | decide | omega)
      refine x_aload_n rfl rfl ?_
      refine x_iload_n rfl rfl ?_
      refine x_iload_n rfl rfl ?_
      refine x_iload_n rfl rfl ?_
      refine x_iload rfl rfl ?_
      refine x_iload rfl rfl ?_
      refine x_callV (M' := mi230) (As := [_, _, _, _, _]) (bc1 := 0) (bs1 := 0) (bc2 := 0) (bs2 := 0) rfl rfl rfl rfl ok230 rfl rfl (by decide) rfl rfl rfl rfl rfl rfl ?_
      refine m_isBarred (wk := wk) (hF1.RK hM) hW hL hq hp hd4 h2 h1 hwk (fun V2 hF2 => ?_)
      refine x_ifN_eq rfl (fun c25 => ?_) (fun c25 => ?_)
      · exact absurd c25 (by first | decide | omega)
      refine x_iconst rfl ?_
      refine x_iret rfl rfl ?_
      exact hP V2 (hF1.trans hF2)
    · have eo : outK K p q dy m1 m2 wk = some (tkN K p q dy m1 m2 wk (prv K p q dy m1 m2 wk) * 4 + tkN K q p dy m2 m1 wk (prv K p q dy m1 m2 wk)) := if_neg (fun z => z.elim c1 c2)
      rw [eo] at hP
      refine x_aload_n rfl rfl ?_
      refine x_iload_n rfl rfl ?_
      refine x_iload_n rfl rfl ?_
      refine x_iload_n rfl rfl ?_
      refine x_iload rfl rfl ?_
      refine x_iload rfl rfl ?_
      refine x_callV (M' := mi230) (As := [_, _, _, _, _]) (bc1 := 0) (bs1 := 0) (bc2 := 0) (bs2 := 0) rfl rfl rfl rfl ok230 rfl rfl (by decide) rfl rfl rfl rfl rfl rfl ?_
      refine m_isBarred (wk := wk) hM hW hL hp hq hd4 h1 h2 hwk (fun V1 hF1 => ?_)
      refine x_ifN_ne rfl (fun c11 => ?_) (fun c11 => ?_)
      · exact absurd c11 (by first | decide | omega)
      refine x_aload_n rfl rfl ?_
      refine x_iload_n rfl rfl ?_
      refine x_iload_n rfl rfl ?_
      refine x_iload_n rfl rfl ?_
      refine x_iload rfl rfl ?_
      refine x_iload rfl rfl ?_
      refine x_callV (M' := mi230) (As := [_, _, _, _, _]) (bc1 := 0) (bs1 := 0) (bc2 := 0) (bs2 := 0) rfl rfl rfl rfl ok230 rfl rfl (by decide) rfl rfl rfl rfl rfl rfl ?_
      refine m_isBarred (wk := wk) (hF1.RK hM) hW hL hq hp hd4 h2 h1 hwk (fun V2 hF2 => ?_)
      refine x_ifN_eq rfl (fun c25 => ?_) (fun c25 => ?_)
      rotate_left
      · exact absurd c25 (by first | decide | omega)
      refine x_iconstN (q := 4) rfl ?_
      refine x_aload_n rfl rfl ?_
      refine x_iload_n rfl rfl ?_
      refine x_iload_n rfl rfl ?_
      refine x_iload_n rfl rfl ?_
      refine x_iload rfl rfl ?_
      refine x_iload rfl rfl ?_
      refine x_callV (M' := mi229) (As := [_, _, _, _, _]) (bc1 := 0) (bs1 := 0) (bc2 := 0) (bs2 := 0) rfl rfl rfl rfl ok229 rfl rfl (by decide) rfl rfl rfl rfl rfl rfl ?_
      refine m_takesBy (wk := wk) ((hF1.trans hF2).RK hM) hW hL hp hq hd4 h1 h2 hwk (fun V3 hF3 => ?_)
      refine x_imulN rfl ?_
      refine x_aload_n rfl rfl ?_
      refine x_iload_n rfl rfl ?_
      refine x_iload_n rfl rfl ?_
      refine x_iload_n rfl rfl ?_
      refine x_iload rfl rfl ?_
      refine x_iload rfl rfl ?_
      refine x_callV (M' := mi229) (As := [_, _, _, _, _]) (bc1 := 0) (bs1 := 0) (bc2 := 0) (bs2 := 0) rfl rfl rfl rfl ok229 rfl rfl (by decide) rfl rfl rfl rfl rfl rfl ?_
      refine m_takesBy (wk := wk) (((hF1.trans hF2).trans hF3).RK hM) hW hL hq hp hd4 h2 h1 hwk (fun V4 hF4 => ?_)
      refine x_iaddN rfl ?_
      refine x_iret rfl rfl ?_
      rw [prv_sym hpq, Nat.mul_comm 4]
      exact hP V4 (((hF1.trans hF2).trans hF3).trans hF4)
end Tell3
/-! ===== the class ===== -/
set_option maxRecDepth 20000 in
theorem hear_sem {K : KT} (hW : WF K) {p q dy mk wk : Nat} (hp : p < K 93) {V' : VIT} (h : HrAt (hearR K p q dy mk wk) V') : V' 43 4 = nI (swN K p q dy (mk / 4) (mk % 4) wk) ∧ V' 43 5 = nI (brN K p q dy (mk / 4) (mk % 4) wk) ∧ ((V' 43 3 = -1 ∧ ∀ w, w ≤ 3 → tkN K p q dy (mk / 4) (mk % 4) wk w = w) ∨ ∃ k, k ≤ 3 ∧ V' 43 3 = nI k ∧ ∀ w, w ≤ 3 → tkN K p q dy (mk / 4) (mk % 4) wk w = k) := by
  obtain ⟨h3, h4, h5⟩ := h
  have hs : (hearR K p q dy mk wk).2.1 = tellsR K 2 9 (K (39 + p) : Int) p q dy (mk / 4) (mk % 4) wk ∧ (((hearR K p q dy mk wk).2.2 : Nat) : Int) = tellsR K 3 1 0 p q dy (mk / 4) (mk % 4) wk ∧ ∀ w : Int, (if (hearR K p q dy mk wk).1 = -1 then w else (hearR K p q dy mk wk).1) = tellsR K 1 3 w p q dy (mk / 4) (mk % 4) wk := by
    unfold hearR tellsR
    by_cases c : K 97 = 0
    · rw [if_pos c, if_pos c, if_pos c]
      refine ⟨rfl, rfl, fun w => ?_⟩
      rw [if_pos c]
      exact if_pos rfl
    · rw [if_neg c, if_neg c, if_neg c]
      obtain ⟨a1, a2, a3⟩ := hS_fold (e := lawE K p q dy (mk / 4) (mk % 4) wk) (kcl K (K 97 - 1)).2.2 (r0K K p) (fun c hc => ((pTxt_kind 12 0 0).2 c hc).1)
      refine ⟨a1, a2, fun w => ?_⟩
      rw [if_neg c]
      exact a3 w
  obtain ⟨s1, s2, s3⟩ := hs
  have h9 : K (39 + p) ≤ 9 := (hW.2.2.2.2.2.2.2.2.1 p hp).2.1
  have bd := tellsR_bd (K := K) (hd := 2) (hi := 9) (w := (K (39 + p) : Int)) (M := 9) (p := p) (q := q) (dy := dy) (m1 := mk / 4) (m2 := mk % 4) (wk := wk) (by omega) (by omega) (by omega) (by omega)
  refine ⟨?_, ?_, ?_⟩
  · rw [h4, s1, oI_back bd.1]; rfl
  · rw [h5]
    congr 1
    unfold brN
    omega
  · by_cases c : (hearR K p q dy mk wk).1 = -1
    · refine Or.inl ⟨by rw [h3, c]; rfl, fun w hw => ?_⟩
      have := s3 (w : Int)
      rw [if_pos c] at this
      unfold tkN
      omega
    · have b1 := s3 0
      rw [if_neg c] at b1
      have bd1 := tellsR_bd (K := K) (hd := 1) (hi := 3) (w := 0) (M := 3) (p := p) (q := q) (dy := dy) (m1 := mk / 4) (m2 := mk % 4) (wk := wk) (by omega) (by omega) (by omega) (by omega)
      refine Or.inr ⟨(hearR K p q dy mk wk).1.toNat, by omega, by rw [h3, oI_back (by omega)], fun w hw => ?_⟩
      have b2 := s3 (w : Int)
      rw [if_neg c] at b2
      unfold tkN
      omega
section Hear4
variable {d : Nat} {V : VIT} {VL : VLT} {G : VRT} {P : Post} {ext : HL} {K : KT} {p q dy mk wk : Nat}
set_option maxRecDepth 20000 in
theorem s_hearS (hX : RW 3 K V) (hW : WF K) (hL : Laws K 13 (LY ++ ext) V (vr G)) (hp : p < K 93) (hq : q < K 93) (hd4 : dy < 4) (hmk : mk < 16) (hwk : wk ≤ 1000000) (hP : ∀ V' : VIT, FrH V V' → V' 43 4 = nI (swN K p q dy (mk / 4) (mk % 4) wk) → V' 43 5 = nI (brN K p q dy (mk / 4) (mk % 4) wk) → ((V' 43 3 = -1 ∧ ∀ w, w ≤ 3 → tkN K p q dy (mk / 4) (mk % 4) wk w = w) ∨ ∃ k, k ≤ 3 ∧ V' 43 3 = nI k ∧ ∀ w, w ≤ 3 → tkN K p q dy (mk / 4) (mk % 4) wk w = k) → P none (LY ++ ext) V' VL (vr G)) : Ex (d + 2) mi17 0 (entL [.ref 43, .int (nI p), .int (nI q), .int (nI dy), .int (nI mk), .int (nI wk)] 11) [] (LY ++ ext) V VL (vr G) 0 0 P := by
  have h6 := hW.n
  refine s_hear hX hW hL hp (by omega) hd4 hmk hwk (fun V' hF hH => ?_)
  obtain ⟨a1, a2, a3⟩ := hear_sem hW hp hH
  exact hP V' hF a1 a2 a3
-- from the mark that prevails on
set_option maxRecDepth 20000 in
theorem out_c {w a b : Nat} {y1 y2 y3 y5 y6 y7 y8 : Value} (hw : w ≤ 3) (h3 : (V 43 3 = -1 ∧ b = w) ∨ ∃ k, k ≤ 3 ∧ V 43 3 = nI k ∧ b = k) (hP : P (some (.int (nI (a * 4 + b)))) (LY ++ ext) V VL (vr G)) : Ex (d + 3) mi12 122 [.ref 43, y1, y2, y3, .int (nI mk), y5, y6, y7, y8, .int (nI w)] [.int (nI a)] (LY ++ ext) V VL (vr G) 0 0 P := by
  rcases h3 with ⟨h3, rfl⟩ | ⟨k, hk, h3, rfl⟩
  · refine x_iconstN (q := 4) rfl ?_
    refine x_imulN rfl ?_
    refine x_aload_n rfl rfl ?_
    refine x_getE (y := 3) rfl rfl rfl h3 ?_
    refine x_iconst rfl ?_
    refine x_icmp_eq rfl (fun c129 => ?_) (fun c129 => ?_)
    rotate_left
    · exact absurd rfl c129
    refine x_iload rfl rfl ?_
    refine x_iaddN rfl ?_
    refine x_iret rfl rfl ?_
    exact hP
  · refine x_iconstN (q := 4) rfl ?_
    refine x_imulN rfl ?_
    refine x_aload_n rfl rfl ?_
    refine x_getE (y := 3) rfl rfl rfl h3 ?_
    refine x_iconst rfl ?_
    refine x_icmp_eq rfl (fun c129 => ?_) (fun c129 => ?_)
    · exact absurd c129 (nI_m1 (by omega))
    refine x_aload_n rfl rfl ?_
    refine x_getE (y := 3) rfl rfl rfl h3 ?_
    refine x_goto rfl ?_
    refine x_iaddN rfl ?_
    refine x_iret rfl rfl ?_
    exact hP
set_option maxRecDepth 20000 in
theorem s_outcome (hX : RW 3 K V) (hW : WF K) (hL : Laws K 13 (LY ++ ext) V (vr G)) (hp : p < K 93) (hq : q < K 93) (hd4 : dy < 4) (hmk : mk < 16) (hwk : wk ≤ 1000000) (hP : ∀ V' : VIT, FrH V V' → P (some (.int (agI (outK K p q dy (mk / 4) (mk % 4) wk)))) (LY ++ ext) V' VL (vr G)) : Ex (d + 3) mi12 0 (entL [.ref 43, .int (nI p), .int (nI q), .int (nI dy), .int (nI mk), .int (nI wk)] 10) [] (LY ++ ext) V VL (vr G) 0 0 P := by
  have h6 := hW.n
  have b1 := brN_lt (K := K) (p := p) (q := q) (dy := dy) (m1 := mk / 4) (m2 := mk % 4) (wk := wk)
  have b2 := brN_lt (K := K) (p := q) (q := p) (dy := dy) (m1 := mk % 4) (m2 := mk / 4) (wk := wk)
  have l1 := swN_lt hW (q := q) (dy := dy) (m1 := mk / 4) (m2 := mk % 4) (wk := wk) hp
  have l2 := swN_lt hW (q := p) (dy := dy) (m1 := mk % 4) (m2 := mk / 4) (wk := wk) hq
  have ed : (mk % 4 * 4 + mk / 4) / 4 = mk % 4 := by omega
  have em : (mk % 4 * 4 + mk / 4) % 4 = mk / 4 := by omega
  by_cases c1 : brN K p q dy (mk / 4) (mk % 4) wk = 1
  · have eo : outK K p q dy (mk / 4) (mk % 4) wk = none := if_pos (Or.inl c1)
    rw [eo] at hP
    refine x_aload_n rfl rfl ?_
    refine x_iload_n rfl rfl ?_
    refine x_iload_n rfl rfl ?_
    refine x_iload_n rfl rfl ?_
    refine x_iload rfl rfl ?_
    refine x_iload rfl rfl ?_
    refine x_callV (M' := mi17) (As := [_, _, _, _, _]) (bc1 := 0) (bs1 := 0) (bc2 := 0) (bs2 := 0) rfl rfl rfl rfl ok17 rfl rfl (by decide) rfl rfl rfl rfl rfl rfl ?_
    refine s_hearS hX hW hL hp hq hd4 hmk hwk (fun V1 hF1 g4 g5 g3 => ?_)
    refine x_aload_n rfl rfl ?_
    refine x_getE (y := 5) rfl rfl rfl g5 ?_
    refine x_ifN_eq rfl (fun c15 => ?_) (fun c15 => ?_)
    · exact absurd c15 (by first | decide | omega)
    refine x_iconst rfl ?_
    refine x_iret rfl rfl ?_
    exact hP V1 hF1
  · refine x_aload_n rfl rfl ?_
    refine x_iload_n rfl rfl ?_
    refine x_iload_n rfl rfl ?_
    refine x_iload_n rfl rfl ?_
    refine x_iload rfl rfl ?_
    refine x_iload rfl rfl ?_
    refine x_callV (M' := mi17) (As := [_, _, _, _, _]) (bc1 := 0) (bs1 := 0) (bc2 := 0) (bs2 := 0) rfl rfl rfl rfl ok17 rfl rfl (by decide) rfl rfl rfl rfl rfl rfl ?_
    refine s_hearS hX hW hL hp hq hd4 hmk hwk (fun V1 hF1 g4 g5 g3 => ?_)
    refine x_aload_n rfl rfl ?_
    refine x_getE (y := 5) rfl rfl rfl g5 ?_
    refine x_ifN_eq rfl (fun c15 => ?_) (fun c15 => ?_)
    rotate_left
    · exact absurd c15 (by first | decide | omega)
    refine x_aload_n rfl rfl ?_
    refine x_getI rfl rfl rfl ?_
    refine x_istore (ls' := [_, _, _, _, _, _, _, _, _, _]) rfl rfl rfl ?_
    refine x_aload_n rfl rfl ?_
    refine x_getE (y := 4) rfl rfl rfl g4 ?_
    refine x_istore (ls' := [_, _, _, _, _, _, _, _, _, _]) rfl rfl rfl ?_
    refine x_aload_n rfl rfl ?_
    refine x_iload_n rfl rfl ?_
    refine x_iload_n rfl rfl ?_
    refine x_iload_n rfl rfl ?_
    refine x_iload rfl rfl ?_
    refine x_iconstN (q := 4) rfl ?_
    refine x_iremN rfl ?_
    refine x_iconstN (q := 4) rfl ?_
    refine x_imulN rfl ?_
    refine x_iload rfl rfl ?_
    refine x_iconstN (q := 4) rfl ?_
    refine x_idivN rfl ?_
    refine x_iaddN rfl ?_
    refine x_iload rfl rfl ?_
    refine x_callV (M' := mi17) (As := [_, _, _, _, _]) (bc1 := 0) (bs1 := 0) (bc2 := 0) (bs2 := 0) rfl rfl rfl rfl ok17 rfl rfl (by decide) rfl rfl rfl rfl rfl rfl ?_
    refine s_hearS (hF1.RW hX) hW (hF1.Laws hW hL) hq hp hd4 (by omega) hwk (fun V2 hF2 k4 k5 k3 => ?_)
    skip
    rw [ed, em] at k4 k5 k3
    by_cases c2 : brN K q p dy (mk % 4) (mk / 4) wk = 1
    · have eo : outK K p q dy (mk / 4) (mk % 4) wk = none := if_pos (Or.inr c2)
      rw [eo] at hP
      refine x_aload_n rfl rfl ?_
      refine x_getE (y := 5) rfl rfl rfl k5 ?_
      refine x_ifN_eq rfl (fun c56 => ?_) (fun c56 => ?_)
      · exact absurd c56 (by first | decide | omega)
      refine x_iconst rfl ?_
      refine x_iret rfl rfl ?_
      exact hP V2 (hF1.trans hF2)
    · have eo : outK K p q dy (mk / 4) (mk % 4) wk = some (tkN K p q dy (mk / 4) (mk % 4) wk (prv K p q dy (mk / 4) (mk % 4) wk) * 4 + tkN K q p dy (mk % 4) (mk / 4) wk (prv K p q dy (mk / 4) (mk % 4) wk)) := if_neg (fun z => z.elim c1 c2)
      rw [eo] at hP
      have b2z : brN K q p dy (mk % 4) (mk / 4) wk = 0 := by omega
      have hpv := prv_lt (K := K) (p := p) (q := q) (dy := dy) (m1 := mk / 4) (m2 := mk % 4) (wk := wk) (by omega) (by omega)
      have k3' : (V2 43 3 = -1 ∧ tkN K q p dy (mk % 4) (mk / 4) wk (prv K p q dy (mk / 4) (mk % 4) wk) = prv K p q dy (mk / 4) (mk % 4) wk) ∨ ∃ k, k ≤ 3 ∧ V2 43 3 = nI k ∧ tkN K q p dy (mk % 4) (mk / 4) wk (prv K p q dy (mk / 4) (mk % 4) wk) = k := by
        rcases k3 with ⟨z1, z2⟩ | ⟨k, z1, z2, z3⟩
        · exact Or.inl ⟨z1, z2 _ hpv⟩
        · exact Or.inr ⟨k, z1, z2, z3 _ hpv⟩
      have hk : ∀ (w : Nat) (y8 : Int32) (y9 : Value), w = prv K p q dy (mk / 4) (mk % 4) wk → Ex (d + 3) mi12 107 [.ref 43, .int (nI p), .int (nI q), .int (nI dy), .int (nI mk), .int (nI wk), .int (V1 43 3), .int (nI (swN K p q dy (mk / 4) (mk % 4) wk)), .int y8, y9] [.int (nI w)] (LY ++ ext) V2 VL (vr G) 0 0 P := by
        intro w y8 y9 hw
        subst hw
        rcases g3 with ⟨z1, z2⟩ | ⟨k, z1, z2, z3⟩
        · rw [z1]
          refine x_istore (ls' := [_, _, _, _, _, _, _, _, _, _]) rfl rfl rfl ?_
          refine x_iload rfl rfl ?_
          refine x_iconst rfl ?_
          refine x_icmp_eq rfl (fun c112 => ?_) (fun c112 => ?_)
          rotate_left
          · exact absurd rfl c112
          refine x_iload rfl rfl ?_
          exact out_c hpv k3' (by rw [z2 _ hpv] at hP; exact hP V2 (hF1.trans hF2))
        · rw [z2]
          refine x_istore (ls' := [_, _, _, _, _, _, _, _, _, _]) rfl rfl rfl ?_
          refine x_iload rfl rfl ?_
          refine x_iconst rfl ?_
          refine x_icmp_eq rfl (fun c112 => ?_) (fun c112 => ?_)
          · exact absurd c112 (nI_m1 (by omega))
          refine x_iload rfl rfl ?_
          refine x_goto rfl ?_
          exact out_c hpv k3' (by rw [z3 _ hpv] at hP; exact hP V2 (hF1.trans hF2))
      by_cases c : swN K p q dy (mk / 4) (mk % 4) wk < swN K q p dy (mk % 4) (mk / 4) wk ∨ (swN K q p dy (mk % 4) (mk / 4) wk = swN K p q dy (mk / 4) (mk % 4) wk ∧ p < q)
      · have ew : mk % 4 = prv K p q dy (mk / 4) (mk % 4) wk := (if_pos c).symm
        by_cases c3 : swN K p q dy (mk / 4) (mk % 4) wk < swN K q p dy (mk % 4) (mk / 4) wk
        · refine x_aload_n rfl rfl ?_
          refine x_getE (y := 5) rfl rfl rfl k5 ?_
          refine x_ifN_eq rfl (fun c56 => ?_) (fun c56 => ?_)
          rotate_left
          · exact absurd c56 (by rw [b2z]; decide)
          refine x_aload_n rfl rfl ?_
          refine x_getE (y := 4) rfl rfl rfl (k4) ?_
          refine x_iload rfl rfl ?_
          refine x_icmpN_gt rfl (fun c67 => ?_) (fun c67 => ?_)
          rotate_left
          · exact absurd c67 (by first | decide | omega)
          refine x_iconstN (q := 1) rfl ?_
          refine x_goto rfl ?_
          refine x_istore (ls' := [_, _, _, _, _, _, _, _, _, _]) rfl rfl rfl ?_
          refine x_iload rfl rfl ?_
          refine x_ifN_eq rfl (fun c93 => ?_) (fun c93 => ?_)
          · exact absurd c93 (by first | decide | omega)
          refine x_iload rfl rfl ?_
          refine x_iconstN (q := 4) rfl ?_
          refine x_iremN rfl ?_
          refine x_goto rfl ?_
          exact hk _ _ _ ew
        · refine x_aload_n rfl rfl ?_
          refine x_getE (y := 5) rfl rfl rfl k5 ?_
          refine x_ifN_eq rfl (fun c56 => ?_) (fun c56 => ?_)
          rotate_left
          · exact absurd c56 (by rw [b2z]; decide)
          refine x_aload_n rfl rfl ?_
          refine x_getE (y := 4) rfl rfl rfl (k4) ?_
          refine x_iload rfl rfl ?_
          refine x_icmpN_gt rfl (fun c67 => ?_) (fun c67 => ?_)
          · exact absurd c67 (by first | decide | omega)
          refine x_aload_n rfl rfl ?_
          refine x_getE (y := 4) rfl rfl rfl (k4) ?_
          refine x_iload rfl rfl ?_
          refine x_icmpN_ne rfl (fun c76 => ?_) (fun c76 => ?_)
          · exact absurd c76 (by first | decide | omega)
          refine x_iload_n rfl rfl ?_
          refine x_iload_n rfl rfl ?_
          refine x_icmpN_le rfl (fun c81 => ?_) (fun c81 => ?_)
          · exact absurd c81 (by first | decide | omega)
          refine x_iconstN (q := 1) rfl ?_
          refine x_goto rfl ?_
          refine x_istore (ls' := [_, _, _, _, _, _, _, _, _, _]) rfl rfl rfl ?_
          refine x_iload rfl rfl ?_
          refine x_ifN_eq rfl (fun c93 => ?_) (fun c93 => ?_)
          · exact absurd c93 (by first | decide | omega)
          refine x_iload rfl rfl ?_
          refine x_iconstN (q := 4) rfl ?_
          refine x_iremN rfl ?_
          refine x_goto rfl ?_
          exact hk _ _ _ ew
      · have ew : mk / 4 = prv K p q dy (mk / 4) (mk % 4) wk := (if_neg c).symm
        by_cases c3 : swN K q p dy (mk % 4) (mk / 4) wk = swN K p q dy (mk / 4) (mk % 4) wk
        · refine x_aload_n rfl rfl ?_
          refine x_getE (y := 5) rfl rfl rfl k5 ?_
          refine x_ifN_eq rfl (fun c56 => ?_) (fun c56 => ?_)
          rotate_left
          · exact absurd c56 (by rw [b2z]; decide)
          refine x_aload_n rfl rfl ?_
          refine x_getE (y := 4) rfl rfl rfl (k4) ?_
          refine x_iload rfl rfl ?_
          refine x_icmpN_gt rfl (fun c67 => ?_) (fun c67 => ?_)
          · exact absurd c67 (by first | decide | omega)
          refine x_aload_n rfl rfl ?_
          refine x_getE (y := 4) rfl rfl rfl (k4) ?_
          refine x_iload rfl rfl ?_
          refine x_icmpN_ne rfl (fun c76 => ?_) (fun c76 => ?_)
          · exact absurd c76 (by first | decide | omega)
          refine x_iload_n rfl rfl ?_
          refine x_iload_n rfl rfl ?_
          refine x_icmpN_le rfl (fun c81 => ?_) (fun c81 => ?_)
          rotate_left
          · exact absurd c81 (by first | decide | omega)
          refine x_iconstN (q := 0) rfl ?_
          refine x_istore (ls' := [_, _, _, _, _, _, _, _, _, _]) rfl rfl rfl ?_
          refine x_iload rfl rfl ?_
          refine x_ifN_eq rfl (fun c93 => ?_) (fun c93 => ?_)
          rotate_left
          · exact absurd c93 (by first | decide | omega)
          refine x_iload rfl rfl ?_
          refine x_iconstN (q := 4) rfl ?_
          refine x_idivN rfl ?_
          exact hk _ _ _ ew
        · refine x_aload_n rfl rfl ?_
          refine x_getE (y := 5) rfl rfl rfl k5 ?_
          refine x_ifN_eq rfl (fun c56 => ?_) (fun c56 => ?_)
          rotate_left
          · exact absurd c56 (by rw [b2z]; decide)
          refine x_aload_n rfl rfl ?_
          refine x_getE (y := 4) rfl rfl rfl (k4) ?_
          refine x_iload rfl rfl ?_
          refine x_icmpN_gt rfl (fun c67 => ?_) (fun c67 => ?_)
          · exact absurd c67 (by first | decide | omega)
          refine x_aload_n rfl rfl ?_
          refine x_getE (y := 4) rfl rfl rfl (k4) ?_
          refine x_iload rfl rfl ?_
          refine x_icmpN_ne rfl (fun c76 => ?_) (fun c76 => ?_)
          rotate_left
          · exact absurd c76 (by first | decide | omega)
          refine x_iconstN (q := 0) rfl ?_
          refine x_istore (ls' := [_, _, _, _, _, _, _, _, _, _]) rfl rfl rfl ?_
          refine x_iload rfl rfl ?_
          refine x_ifN_eq rfl (fun c93 => ?_) (fun c93 => ?_)
          rotate_left
          · exact absurd c93 (by first | decide | omega)
          refine x_iload rfl rfl ?_
          refine x_iconstN (q := 4) rfl ?_
          refine x_idivN rfl ?_
          exact hk _ _ _ ew
end Hear4
