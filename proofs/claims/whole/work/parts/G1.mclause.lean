/-! ===== the model reads clauses ===== -/
section ReadK
variable {d : Nat} {V0 V : VIT} {VL : VLT} {G : VRT} {P : Post} {ext : HL} {o : Bool} {N i p : Nat} {tc tv pl : Nat → Nat}
-- the test of a clause, if there is one: in readClause at 29, in readOrder at 87
set_option maxRecDepth 20000 in
theorem mif_c {kd tm : Nat} {x y z : Den} (hA : TkA false N tc tv pl V0) (hF : FrRM V0 V) (hS : MS i p V) (hi : i ≤ N) (hp : p ≤ 50)
  (h1 : ∀ (V' : VIT) (i' p' : Nat) (c : Cla), pIf false tc tv i p kd tm x y z = (1, i', p', c) → FrRM V0 V' → MS i' p' V' → i' ≤ N → p' ≤ 50 → P none (LY ++ ext) V' VL (vr G))
  (h0 : ∀ (V' : VIT) (i' : Nat), (pIf false tc tv i p kd tm x y z).1 = 0 → (pIf false tc tv i p kd tm x y z).2.1 = i' → FrRM V0 V' → V' 74 21 = nI (pl i') → P none (LY ++ ext) V' VL (vr G)) : Ex (d + 35) mi201 29 [.ref 74] [] (LY ++ ext) V VL (vr G) 0 0 P := by
  have hN := hA.2.2.2.2.1
  have hA1 := hA.fr hF
  have hci := (hA.2.2.2.2.2.2 i).1
  by_cases h4 : tc i = 4
  · have hin : i < N := Nat.lt_of_not_le (fun z => by have := hA.2.2.2.2.2.1 i z; omega)
    have hf := pTest_f (o := false) (tv := tv) (p := p) hA.2.2.2.2.2.1 (show i + 1 ≤ N from hin) hN
    have htest := (rd_tests (VL := VL) (G := G) (ext := ext) hA PFuel).1
    have e2 : pIf false tc tv i p kd tm x y z = (if (pTest false tc tv (i + 1) p).1 = 1 then ((1, (pTest false tc tv (i + 1) p).2.1, (pTest false tc tv (i + 1) p).2.2.1, kd, tm, x, y, z, 1, (pTest false tc tv (i + 1) p).2.2.2) : PCl) else ((pTest false tc tv (i + 1) p).1, (pTest false tc tv (i + 1) p).2.1, (pTest false tc tv (i + 1) p).2.2.1, kd, tm, x, y, z, 1, dz)) := if_pos h4
    refine x_aload_n rfl rfl ?_
    refine x_iconstN (q := 4) rfl ?_
    refine x_callV (M' := mi196) (As := [_]) (bc1 := 0) (bs1 := 0) (bc2 := 0) (bs2 := 0) rfl rfl rfl rfl ok196 rfl rfl (by decide) rfl rfl rfl rfl rfl rfl ?_
    refine m_takes1 hA1 hS hi h4 ?_
    refine x_ifN_eq rfl (fun c34 => ?_) (fun c34 => ?_)
    · exact absurd c34 (by first | decide | omega)
    refine x_aload_n rfl rfl ?_
    refine x_iconstN (q := 0) rfl ?_
    refine x_callV (M' := mi204) (As := [_]) (bc1 := 0) (bs1 := 0) (bc2 := 0) (bs2 := 0) rfl rfl rfl rfl ok204 rfl rfl (by decide) rfl rfl rfl rfl rfl rfl ?_
    refine htest 0 (i + 1) p dz _ (d + 34) (by omega) (by omega) hin hp (hF.up (by omega)) hS.tok hf _ (fun V' g0 g1 g2 => ?_)
    skip
    by_cases c : (pTest false tc tv (i + 1) p).1 = 1
    · obtain ⟨o1, o2, o3⟩ := prs_ok (o := false) (tv := tv) hA.2.2.2.2.2.1 PFuel 0 0 (i + 1) p dz hin c
      have op := (prs_c (o := false) (tc := tc) (tv := tv) PFuel 0 0 (i + 1) p dz hp).1 c
      rw [if_pos c] at e2
      refine x_vret rfl rfl ?_
      exact h1 V' _ _ _ e2 g0 (g1 c) o2 op
    · have c0 := ne2_0 hf (prs_c (o := false) (tc := tc) (tv := tv) PFuel 0 0 (i + 1) p dz hp) c
      rw [if_neg c] at e2
      refine x_vret rfl rfl ?_
      exact h0 V' (pTest false tc tv (i + 1) p).2.1 (by rw [e2]; exact c0) (by rw [e2]) g0 (g2 c0)
  · have e2 : pIf false tc tv i p kd tm x y z = (1, i, p, kd, tm, x, y, z, 0, dz) := if_neg h4
    refine x_aload_n rfl rfl ?_
    refine x_iconstN (q := 4) rfl ?_
    refine x_callV (M' := mi196) (As := [_]) (bc1 := 0) (bs1 := 0) (bc2 := 0) (bs2 := 0) rfl rfl rfl rfl ok196 rfl rfl (by decide) rfl rfl rfl rfl rfl rfl ?_
    refine m_takesN hA1 hS hi (by omega) h4 ?_
    refine x_ifN_eq rfl (fun c34 => ?_) (fun c34 => ?_)
    rotate_left
    · exact absurd c34 (by first | decide | omega)
    refine x_vret rfl rfl ?_
    exact h1 V _ _ _ e2 hF hS hi hp
set_option maxRecDepth 20000 in
theorem mif_cB {b : Nat} (h : V 74 21 = nI b) (hb : b ≤ 400) (hP : P none (LY ++ ext) V VL (vr G)) : Ex (d + 35) mi201 29 [.ref 74] [] (LY ++ ext) V VL (vr G) 0 0 P := by
  refine x_aload_n rfl rfl ?_
  refine x_iconstN (q := 4) rfl ?_
  refine x_callV (M' := mi196) (As := [_]) (bc1 := 0) (bs1 := 0) (bc2 := 0) (bs2 := 0) rfl rfl rfl rfl ok196 rfl rfl (by decide) rfl rfl rfl rfl rfl rfl ?_
  refine m_takesB h hb ?_
  refine x_ifN_eq rfl (fun c34 => ?_) (fun c34 => ?_)
  rotate_left
  · exact absurd c34 (by first | decide | omega)
  refine x_vret rfl rfl ?_
  exact hP
set_option maxRecDepth 20000 in
theorem mif_o {kd tm : Nat} {x y z : Den} (hA : TkA true N tc tv pl V0) (hF : FrRM V0 V) (hS : MS i p V) (hi : i ≤ N) (hp : p ≤ 50)
  (h1 : ∀ (V' : VIT) (i' p' : Nat) (c : Cla), pIf true tc tv i p kd tm x y z = (1, i', p', c) → FrRM V0 V' → MS i' p' V' → i' ≤ N → p' ≤ 50 → P none (LY ++ ext) V' VL (vr G))
  (h0 : ∀ (V' : VIT) (i' : Nat), (pIf true tc tv i p kd tm x y z).1 = 0 → (pIf true tc tv i p kd tm x y z).2.1 = i' → FrRM V0 V' → V' 74 21 = nI (pl i') → P none (LY ++ ext) V' VL (vr G)) : Ex (d + 35) mi202 87 [.ref 74] [] (LY ++ ext) V VL (vr G) 0 0 P := by
  have hN := hA.2.2.2.2.1
  have hA1 := hA.fr hF
  have hci := (hA.2.2.2.2.2.2 i).1
  by_cases h4 : tc i = 4
  · have hin : i < N := Nat.lt_of_not_le (fun z => by have := hA.2.2.2.2.2.1 i z; omega)
    have hf := pTest_f (o := true) (tv := tv) (p := p) hA.2.2.2.2.2.1 (show i + 1 ≤ N from hin) hN
    have htest := (rd_tests (VL := VL) (G := G) (ext := ext) hA PFuel).1
    have e2 : pIf true tc tv i p kd tm x y z = (if (pTest true tc tv (i + 1) p).1 = 1 then ((1, (pTest true tc tv (i + 1) p).2.1, (pTest true tc tv (i + 1) p).2.2.1, kd, tm, x, y, z, 1, (pTest true tc tv (i + 1) p).2.2.2) : PCl) else ((pTest true tc tv (i + 1) p).1, (pTest true tc tv (i + 1) p).2.1, (pTest true tc tv (i + 1) p).2.2.1, kd, tm, x, y, z, 1, dz)) := if_pos h4
    refine x_aload_n rfl rfl ?_
    refine x_iconstN (q := 4) rfl ?_
    refine x_callV (M' := mi196) (As := [_]) (bc1 := 0) (bs1 := 0) (bc2 := 0) (bs2 := 0) rfl rfl rfl rfl ok196 rfl rfl (by decide) rfl rfl rfl rfl rfl rfl ?_
    refine m_takes1 hA1 hS hi h4 ?_
    refine x_ifN_eq rfl (fun c92 => ?_) (fun c92 => ?_)
    · exact absurd c92 (by first | decide | omega)
    refine x_aload_n rfl rfl ?_
    refine x_iconstN (q := 0) rfl ?_
    refine x_callV (M' := mi204) (As := [_]) (bc1 := 0) (bs1 := 0) (bc2 := 0) (bs2 := 0) rfl rfl rfl rfl ok204 rfl rfl (by decide) rfl rfl rfl rfl rfl rfl ?_
    refine htest 0 (i + 1) p dz _ (d + 34) (by omega) (by omega) hin hp (hF.up (by omega)) hS.tok hf _ (fun V' g0 g1 g2 => ?_)
    skip
    by_cases c : (pTest true tc tv (i + 1) p).1 = 1
    · obtain ⟨o1, o2, o3⟩ := prs_ok (o := true) (tv := tv) hA.2.2.2.2.2.1 PFuel 0 0 (i + 1) p dz hin c
      have op := (prs_c (o := true) (tc := tc) (tv := tv) PFuel 0 0 (i + 1) p dz hp).1 c
      rw [if_pos c] at e2
      refine x_vret rfl rfl ?_
      exact h1 V' _ _ _ e2 g0 (g1 c) o2 op
    · have c0 := ne2_0 hf (prs_c (o := true) (tc := tc) (tv := tv) PFuel 0 0 (i + 1) p dz hp) c
      rw [if_neg c] at e2
      refine x_vret rfl rfl ?_
      exact h0 V' (pTest true tc tv (i + 1) p).2.1 (by rw [e2]; exact c0) (by rw [e2]) g0 (g2 c0)
  · have e2 : pIf true tc tv i p kd tm x y z = (1, i, p, kd, tm, x, y, z, 0, dz) := if_neg h4
    refine x_aload_n rfl rfl ?_
    refine x_iconstN (q := 4) rfl ?_
    refine x_callV (M' := mi196) (As := [_]) (bc1 := 0) (bs1 := 0) (bc2 := 0) (bs2 := 0) rfl rfl rfl rfl ok196 rfl rfl (by decide) rfl rfl rfl rfl rfl rfl ?_
    refine m_takesN hA1 hS hi (by omega) h4 ?_
    refine x_ifN_eq rfl (fun c92 => ?_) (fun c92 => ?_)
    rotate_left
    · exact absurd c92 (by first | decide | omega)
    refine x_vret rfl rfl ?_
    exact h1 V _ _ _ e2 hF hS hi hp
set_option maxRecDepth 20000 in
theorem mif_oB {b : Nat} (h : V 74 21 = nI b) (hb : b ≤ 400) (hP : P none (LY ++ ext) V VL (vr G)) : Ex (d + 35) mi202 87 [.ref 74] [] (LY ++ ext) V VL (vr G) 0 0 P := by
  refine x_aload_n rfl rfl ?_
  refine x_iconstN (q := 4) rfl ?_
  refine x_callV (M' := mi196) (As := [_]) (bc1 := 0) (bs1 := 0) (bc2 := 0) (bs2 := 0) rfl rfl rfl rfl ok196 rfl rfl (by decide) rfl rfl rfl rfl rfl rfl ?_
  refine m_takesB h hb ?_
  refine x_ifN_eq rfl (fun c92 => ?_) (fun c92 => ?_)
  rotate_left
  · exact absurd c92 (by first | decide | omega)
  refine x_vret rfl rfl ?_
  exact hP
set_option maxRecDepth 20000 in
theorem mtm_oB {b : Nat} (h : V 74 21 = nI b) (hb : b ≤ 400) (hP : P none (LY ++ ext) V VL (vr G)) : Ex (d + 35) mi202 71 [.ref 74] [] (LY ++ ext) V VL (vr G) 0 0 P := by
  refine x_aload_n rfl rfl ?_
  refine x_bipushN (q := 27) rfl ?_
  refine x_callV (M' := mi196) (As := [_]) (bc1 := 0) (bs1 := 0) (bc2 := 0) (bs2 := 0) rfl rfl rfl rfl ok196 rfl rfl (by decide) rfl rfl rfl rfl rfl rfl ?_
  refine m_takesB h hb ?_
  refine x_ifN_eq rfl (fun c77 => ?_) (fun c77 => ?_)
  rotate_left
  · exact absurd c77 (by first | decide | omega)
  exact mif_oB h hb hP
set_option maxRecDepth 20000 in
theorem mtm_o {kd : Nat} {x y z : Den} (hA : TkA true N tc tv pl V0) (hF : FrRM V0 V) (hS : MS i p V) (hi : i ≤ N) (hp : p ≤ 50)
  (h1 : ∀ (V' : VIT) (i' p' : Nat) (c : Cla), pTimes tc tv i p kd x y z = (1, i', p', c) → FrRM V0 V' → MS i' p' V' → i' ≤ N → p' ≤ 50 → P none (LY ++ ext) V' VL (vr G))
  (h0 : ∀ (V' : VIT) (i' : Nat), (pTimes tc tv i p kd x y z).1 = 0 → (pTimes tc tv i p kd x y z).2.1 = i' → FrRM V0 V' → V' 74 21 = nI (pl i') → P none (LY ++ ext) V' VL (vr G)) : Ex (d + 35) mi202 71 [.ref 74] [] (LY ++ ext) V VL (vr G) 0 0 P := by
  have hN := hA.2.2.2.2.1
  have hA1 := hA.fr hF
  have hci := (hA.2.2.2.2.2.2 i).1
  have hpl := fun j => (hA.2.2.2.2.2.2 j).2.2
  by_cases c : tc i = 27
  · have hin : i < N := Nat.lt_of_not_le (fun z => by have := hA.2.2.2.2.2.1 i z; omega)
    have hFt : FrRM V0 (up V 74 19 (nI (i + 1))) := hF.up (by omega)
    by_cases c50 : tc (i + 1) = 50 ∧ 1 ≤ tv (i + 1) ∧ tv (i + 1) ≤ 20
    · have hin2 : i + 1 < N := Nat.lt_of_not_le (fun z => by have := hA.2.2.2.2.2.1 _ z; omega)
      have e : pTimes tc tv i p kd x y z = pIf true tc tv (i + 2) p kd (tv (i + 1)) x y z := by
        unfold pTimes
        rw [if_pos c, if_pos c50]
      rw [e] at h0
      refine x_aload_n rfl rfl ?_
      refine x_bipushN (q := 27) rfl ?_
      refine x_callV (M' := mi196) (As := [_]) (bc1 := 0) (bs1 := 0) (bc2 := 0) (bs2 := 0) rfl rfl rfl rfl ok196 rfl rfl (by decide) rfl rfl rfl rfl rfl rfl ?_
      refine m_takes1 hA1 hS hi c ?_
      refine x_ifN_eq rfl (fun c77 => ?_) (fun c77 => ?_)
      · exact absurd c77 (by first | decide | omega)
      refine x_aload_n rfl rfl ?_
      refine x_iconstN (q := 1) rfl ?_
      refine x_bipushN (q := 20) rfl ?_
      refine x_callV (M' := mi200) (As := [_, _]) (bc1 := 0) (bs1 := 0) (bc2 := 0) (bs2 := 0) rfl rfl rfl rfl ok200 rfl rfl (by decide) rfl rfl rfl rfl rfl rfl ?_
      refine m_mn1 (hA.fr hFt) hS.tok hin (by omega) c50.1 c50.2 ?_
      skip
      exact mif_o (kd := kd) (tm := tv (i + 1)) (x := x) (y := y) (z := z) (d := d) hA (hFt.up (by omega)) hS.tok.tok hin2 hp (fun V' i' p' c' q => h1 V' i' p' c' (e.trans q)) h0
    · have e : pTimes tc tv i p kd x y z = (0, i + 1, p, kd, 1, x, y, z, 0, dz) := by
        unfold pTimes
        rw [if_pos c, if_neg c50]
      rw [e] at h0
      refine x_aload_n rfl rfl ?_
      refine x_bipushN (q := 27) rfl ?_
      refine x_callV (M' := mi196) (As := [_]) (bc1 := 0) (bs1 := 0) (bc2 := 0) (bs2 := 0) rfl rfl rfl rfl ok196 rfl rfl (by decide) rfl rfl rfl rfl rfl rfl ?_
      refine m_takes1 hA1 hS hi c ?_
      refine x_ifN_eq rfl (fun c77 => ?_) (fun c77 => ?_)
      · exact absurd c77 (by first | decide | omega)
      refine x_aload_n rfl rfl ?_
      refine x_iconstN (q := 1) rfl ?_
      refine x_bipushN (q := 20) rfl ?_
      refine x_callV (M' := mi200) (As := [_, _]) (bc1 := 0) (bs1 := 0) (bc2 := 0) (bs2 := 0) rfl rfl rfl rfl ok200 rfl rfl (by decide) rfl rfl rfl rfl rfl rfl ?_
      refine m_mnN (hA.fr hFt) hS.tok hin (by omega) (by omega) c50 ?_
      skip
      exact mif_oB (b := pl (i + 1)) up_at (hpl _) (h0 _ _ rfl rfl (hFt.up (by omega)) up_at)
  · have e : pTimes tc tv i p kd x y z = pIf true tc tv i p kd 1 x y z := if_neg c
    rw [e] at h0
    refine x_aload_n rfl rfl ?_
    refine x_bipushN (q := 27) rfl ?_
    refine x_callV (M' := mi196) (As := [_]) (bc1 := 0) (bs1 := 0) (bc2 := 0) (bs2 := 0) rfl rfl rfl rfl ok196 rfl rfl (by decide) rfl rfl rfl rfl rfl rfl ?_
    refine m_takesN hA1 hS hi (by omega) c ?_
    refine x_ifN_eq rfl (fun c77 => ?_) (fun c77 => ?_)
    rotate_left
    · exact absurd c77 (by first | decide | omega)
    skip
    exact mif_o (kd := kd) (tm := 1) (x := x) (y := y) (z := z) (d := d) hA hF hS hi hp (fun V' i' p' c' q => h1 V' i' p' c' (e.trans q)) h0
set_option maxRecDepth 20000 in
theorem m_readClause (hA : TkA false N tc tv pl V0) (hF : FrRM V0 V) (hS : MS i p V) (hi : i ≤ N) (hp : p ≤ 50)
  (h1 : ∀ (V' : VIT) (i' p' : Nat) (c : Cla), pLawC tc tv i p = (1, i', p', c) → FrRM V0 V' → MS i' p' V' → i' ≤ N → p' ≤ 50 → P none (LY ++ ext) V' VL (vr G))
  (h0 : ∀ (V' : VIT) (i' : Nat), (pLawC tc tv i p).1 = 0 → (pLawC tc tv i p).2.1 = i' → FrRM V0 V' → V' 74 21 = nI (pl i') → P none (LY ++ ext) V' VL (vr G)) : Ex (d + 35) mi201 0 (entL [.ref 74] 1) [] (LY ++ ext) V VL (vr G) 0 0 P := by
  have hN := hA.2.2.2.2.1
  have hA1 := hA.fr hF
  have hci := (hA.2.2.2.2.2.2 i).1
  have hpl := fun j => (hA.2.2.2.2.2.2 j).2.2
  by_cases c : tc i = 1 ∨ tc i = 2
  · have hin : i < N := Nat.lt_of_not_le (fun z => by have := hA.2.2.2.2.2.1 i z; omega)
    have hf := pSum_f (o := false) (tv := tv) (p := p) hA.2.2.2.2.2.1 (show i + 1 ≤ N from hin) hN
    have hsum := (rd_sums (VL := VL) (G := G) (ext := ext) hA PFuel).1
    have e : pLawC tc tv i p = if (pSum false tc tv (i + 1) p).1 = 1 then pIf false tc tv (pSum false tc tv (i + 1) p).2.1 (pSum false tc tv (i + 1) p).2.2.1 (tc i - 1) 1 (pSum false tc tv (i + 1) p).2.2.2 dz dz else ((pSum false tc tv (i + 1) p).1, (pSum false tc tv (i + 1) p).2.1, (pSum false tc tv (i + 1) p).2.2.1, 0, 1, dz, dz, dz, 0, dz) := by
      unfold pLawC
      rw [if_pos c]
    have hgo : Ex (d + 35) mi201 16 [.ref 74] [] (LY ++ ext) (up V 74 19 (nI (i + 1))) VL (vr G) 0 0 P := by
      refine x_aload_n rfl rfl ?_
      refine x_iconstN (q := 0) rfl ?_
      refine x_callV (M' := mi207) (As := [_]) (bc1 := 0) (bs1 := 0) (bc2 := 0) (bs2 := 0) rfl rfl rfl rfl ok207 rfl rfl (by decide) rfl rfl rfl rfl rfl rfl ?_
      refine hsum 0 (i + 1) p dz _ (d + 34) (by omega) (by omega) hin hp (hF.up (by omega)) hS.tok hf _ (fun V' g0 g1 g2 => ?_)
      refine x_goto rfl ?_
      skip
      by_cases cs : (pSum false tc tv (i + 1) p).1 = 1
      · obtain ⟨o1, o2, o3⟩ := prs_ok (o := false) (tv := tv) hA.2.2.2.2.2.1 PFuel 5 0 (i + 1) p dz hin cs
        have op := (prs_c (o := false) (tc := tc) (tv := tv) PFuel 5 0 (i + 1) p dz hp).1 cs
        rw [if_pos cs] at e
        rw [e] at h0
        exact mif_c (d := d) hA g0 (g1 cs) o2 op (fun V' i' p' c' q => h1 V' i' p' c' (e.trans q)) h0
      · have c0 := ne2_0 hf (prs_c (o := false) (tc := tc) (tv := tv) PFuel 5 0 (i + 1) p dz hp) cs
        rw [if_neg cs] at e
        rw [e] at h0
        exact mif_cB (g2 c0) (hpl _) (h0 V' _ c0 rfl g0 (g2 c0))
    by_cases c1 : tc i = 1
    · refine x_aload_n rfl rfl ?_
      refine x_iconstN (q := 1) rfl ?_
      refine x_callV (M' := mi196) (As := [_]) (bc1 := 0) (bs1 := 0) (bc2 := 0) (bs2 := 0) rfl rfl rfl rfl ok196 rfl rfl (by decide) rfl rfl rfl rfl rfl rfl ?_
      refine m_takes1 hA1 hS hi c1 ?_
      refine x_ifN_ne rfl (fun c5 => ?_) (fun c5 => ?_)
      rotate_left
      · exact absurd c5 (by first | decide | omega)
      exact hgo
    · refine x_aload_n rfl rfl ?_
      refine x_iconstN (q := 1) rfl ?_
      refine x_callV (M' := mi196) (As := [_]) (bc1 := 0) (bs1 := 0) (bc2 := 0) (bs2 := 0) rfl rfl rfl rfl ok196 rfl rfl (by decide) rfl rfl rfl rfl rfl rfl ?_
      refine m_takesN hA1 hS hi (by omega) c1 ?_
      refine x_ifN_ne rfl (fun c5 => ?_) (fun c5 => ?_)
      · exact absurd c5 (by first | decide | omega)
      refine x_aload_n rfl rfl ?_
      refine x_iconstN (q := 2) rfl ?_
      refine x_callV (M' := mi196) (As := [_]) (bc1 := 0) (bs1 := 0) (bc2 := 0) (bs2 := 0) rfl rfl rfl rfl ok196 rfl rfl (by decide) rfl rfl rfl rfl rfl rfl ?_
      refine m_takes1 hA1 hS hi (show tc i = 2 by omega) ?_
      refine x_ifN_eq rfl (fun c13 => ?_) (fun c13 => ?_)
      · exact absurd c13 (by first | decide | omega)
      exact hgo
  · by_cases c3 : tc i = 3
    · have hin : i < N := Nat.lt_of_not_le (fun z => by have := hA.2.2.2.2.2.1 i z; omega)
      have e : pLawC tc tv i p = pIf false tc tv (i + 1) p 2 1 dz dz dz := by
        unfold pLawC
        rw [if_neg c, if_pos c3]
      rw [e] at h0
      refine x_aload_n rfl rfl ?_
      refine x_iconstN (q := 1) rfl ?_
      refine x_callV (M' := mi196) (As := [_]) (bc1 := 0) (bs1 := 0) (bc2 := 0) (bs2 := 0) rfl rfl rfl rfl ok196 rfl rfl (by decide) rfl rfl rfl rfl rfl rfl ?_
      refine m_takesN hA1 hS hi (by omega) (by omega) ?_
      refine x_ifN_ne rfl (fun c5 => ?_) (fun c5 => ?_)
      · exact absurd c5 (by first | decide | omega)
      refine x_aload_n rfl rfl ?_
      refine x_iconstN (q := 2) rfl ?_
      refine x_callV (M' := mi196) (As := [_]) (bc1 := 0) (bs1 := 0) (bc2 := 0) (bs2 := 0) rfl rfl rfl rfl ok196 rfl rfl (by decide) rfl rfl rfl rfl rfl rfl ?_
      refine m_takesN hA1 hS hi (by omega) (by omega) ?_
      refine x_ifN_eq rfl (fun c13 => ?_) (fun c13 => ?_)
      rotate_left
      · exact absurd c13 (by first | decide | omega)
      refine x_aload_n rfl rfl ?_
      refine x_iconstN (q := 3) rfl ?_
      refine x_callV (M' := mi197) (As := [_]) (bc1 := 0) (bs1 := 0) (bc2 := 0) (bs2 := 0) rfl rfl rfl rfl ok197 rfl rfl (by decide) rfl rfl rfl rfl rfl rfl ?_
      refine m_must1 hA1 hS hi c3 ?_
      exact mif_c (d := d) hA (hF.up (by omega)) hS.tok hin hp (fun V' i' p' c' q => h1 V' i' p' c' (e.trans q)) h0
    · have e : pLawC tc tv i p = (0, i, p, 0, 1, dz, dz, dz, 0, dz) := by
        unfold pLawC
        rw [if_neg c, if_neg c3]
      rw [e] at h0
      refine x_aload_n rfl rfl ?_
      refine x_iconstN (q := 1) rfl ?_
      refine x_callV (M' := mi196) (As := [_]) (bc1 := 0) (bs1 := 0) (bc2 := 0) (bs2 := 0) rfl rfl rfl rfl ok196 rfl rfl (by decide) rfl rfl rfl rfl rfl rfl ?_
      refine m_takesN hA1 hS hi (by omega) (by omega) ?_
      refine x_ifN_ne rfl (fun c5 => ?_) (fun c5 => ?_)
      · exact absurd c5 (by first | decide | omega)
      refine x_aload_n rfl rfl ?_
      refine x_iconstN (q := 2) rfl ?_
      refine x_callV (M' := mi196) (As := [_]) (bc1 := 0) (bs1 := 0) (bc2 := 0) (bs2 := 0) rfl rfl rfl rfl ok196 rfl rfl (by decide) rfl rfl rfl rfl rfl rfl ?_
      refine m_takesN hA1 hS hi (by omega) (by omega) ?_
      refine x_ifN_eq rfl (fun c13 => ?_) (fun c13 => ?_)
      rotate_left
      · exact absurd c13 (by first | decide | omega)
      refine x_aload_n rfl rfl ?_
      refine x_iconstN (q := 3) rfl ?_
      refine x_callV (M' := mi197) (As := [_]) (bc1 := 0) (bs1 := 0) (bc2 := 0) (bs2 := 0) rfl rfl rfl rfl ok197 rfl rfl (by decide) rfl rfl rfl rfl rfl rfl ?_
      refine m_mustN hA1 hS hi (by omega) c3 ?_
      exact mif_cB (b := pl i) up_at (hpl _) (h0 _ _ rfl rfl (hF.up (by omega)) up_at)
-- a sum of a clause of orders
set_option maxRecDepth 20000 in
theorem mo_sum (hA : TkA true N tc tv pl V0) (hF : FrRM V0 V) (hS : MS i p V) (hi : i ≤ N) (hp : p ≤ 50)
  (h1 : ∀ (V' : VIT) (i' p' : Nat) (x : Den), pSum true tc tv i p = (1, i', p', x) → FrRM V0 V' → MS i' p' V' → i' ≤ N → p' ≤ 50 → P none (LY ++ ext) V' VL (vr G))
  (h0 : (pSum true tc tv i p).1 ≠ 1 → (pSum true tc tv i p).1 = 0 → ∀ V' : VIT, FrRM V0 V' → V' 74 21 = nI (pl (pSum true tc tv i p).2.1) → P none (LY ++ ext) V' VL (vr G)) : Ex (d + 34) mi207 0 (entL [.ref 74, .int (nI 0)] 2) [] (LY ++ ext) V VL (vr G) 0 0 P := by
  have hN := hA.2.2.2.2.1
  have hf := pSum_f (o := true) (tv := tv) (p := p) hA.2.2.2.2.2.1 hi hN
  refine (rd_sums (VL := VL) (G := G) (ext := ext) hA PFuel).1 0 i p dz V (d + 34) (by omega) (by omega) hi hp hF hS hf _ (fun V' g0 g1 g2 => ?_)
  by_cases cs : (pSum true tc tv i p).1 = 1
  · obtain ⟨o1, o2, o3⟩ := prs_ok (o := true) (tv := tv) hA.2.2.2.2.2.1 PFuel 5 0 i p dz hi cs
    have op := (prs_c (o := true) (tc := tc) (tv := tv) PFuel 5 0 i p dz hp).1 cs
    exact h1 V' (pSum true tc tv i p).2.1 (pSum true tc tv i p).2.2.1 (pSum true tc tv i p).2.2.2 (by rw [← cs]) g0 (g1 cs) o2 op
  · have c0 := ne2_0 hf (prs_c (o := true) (tc := tc) (tv := tv) PFuel 5 0 i p dz hp) cs
    exact h0 cs c0 V' g0 (g2 c0)
set_option maxRecDepth 20000 in
theorem m_readOrder (hA : TkA true N tc tv pl V0) (hF : FrRM V0 V) (hS : MS i p V) (hi : i ≤ N) (hp : p ≤ 50)
  (h1 : ∀ (V' : VIT) (i' p' : Nat) (c : Cla), pOrdC tc tv i p = (1, i', p', c) → FrRM V0 V' → MS i' p' V' → i' ≤ N → p' ≤ 50 → P none (LY ++ ext) V' VL (vr G))
  (h0 : ∀ (V' : VIT) (i' : Nat), (pOrdC tc tv i p).1 = 0 → (pOrdC tc tv i p).2.1 = i' → FrRM V0 V' → V' 74 21 = nI (pl i') → P none (LY ++ ext) V' VL (vr G)) : Ex (d + 35) mi202 0 (entL [.ref 74] 1) [] (LY ++ ext) V VL (vr G) 0 0 P := by
  have hN := hA.2.2.2.2.1
  have hA1 := hA.fr hF
  have hci := (hA.2.2.2.2.2.2 i).1
  have hpl := fun j => (hA.2.2.2.2.2.2 j).2.2
  have hbad20 : ∀ (V' : VIT) (b : Nat), V' 74 21 = nI b → b ≤ 400 → P none (LY ++ ext) V' VL (vr G) → Ex (d + 35) mi202 25 [.ref 74] [] (LY ++ ext) V' VL (vr G) 0 0 P := fun V' b q1 q2 q3 => by
    refine x_aload_n rfl rfl ?_
    refine x_bipushN (q := 23) rfl ?_
    refine x_callV (M' := mi197) (As := [_]) (bc1 := 0) (bs1 := 0) (bc2 := 0) (bs2 := 0) rfl rfl rfl rfl ok197 rfl rfl (by decide) rfl rfl rfl rfl rfl rfl ?_
    refine m_mustB q1 q2 ?_
    refine x_aload_n rfl rfl ?_
    refine x_iconstN (q := 0) rfl ?_
    refine x_callV (M' := mi207) (As := [_]) (bc1 := 0) (bs1 := 0) (bc2 := 0) (bs2 := 0) rfl rfl rfl rfl ok207 rfl rfl (by decide) rfl rfl rfl rfl rfl rfl ?_
    refine sum_bad0 (d := d + 29) q1 q2 ?_
    refine x_goto rfl ?_
    exact mtm_oB q1 q2 q3
  have hbad14 : ∀ (V' : VIT) (b : Nat), V' 74 21 = nI b → b ≤ 400 → P none (LY ++ ext) V' VL (vr G) → Ex (d + 35) mi202 14 [.ref 74] [] (LY ++ ext) V' VL (vr G) 0 0 P := fun V' b q1 q2 q3 => by
    refine x_aload_n rfl rfl ?_
    refine x_bipushN (q := 22) rfl ?_
    refine x_callV (M' := mi197) (As := [_]) (bc1 := 0) (bs1 := 0) (bc2 := 0) (bs2 := 0) rfl rfl rfl rfl ok197 rfl rfl (by decide) rfl rfl rfl rfl rfl rfl ?_
    refine m_mustB q1 q2 ?_
    refine x_aload_n rfl rfl ?_
    refine x_iconstN (q := 0) rfl ?_
    refine x_callV (M' := mi207) (As := [_]) (bc1 := 0) (bs1 := 0) (bc2 := 0) (bs2 := 0) rfl rfl rfl rfl ok207 rfl rfl (by decide) rfl rfl rfl rfl rfl rfl ?_
    refine sum_bad0 (d := d + 29) q1 q2 ?_
    exact hbad20 V' b q1 q2 q3
  by_cases c21 : tc i = 21
  · have hin : i < N := Nat.lt_of_not_le (fun z => by have := hA.2.2.2.2.2.1 i z; omega)
    have e : pOrdC tc tv i p = pcb (pSum true tc tv (i + 1) p) (fun i1 p1 x => if tc i1 = 22 then pcb (pSum true tc tv (i1 + 1) p1) (fun i2 p2 y => if tc i2 = 23 then pcb (pSum true tc tv (i2 + 1) p2) (fun i3 p3 z => pTimes tc tv i3 p3 0 x y z) else (0, i2, p2, 0, 1, dz, dz, dz, 0, dz)) else (0, i1, p1, 0, 1, dz, dz, dz, 0, dz)) := by
      unfold pOrdC
      rw [if_pos c21]
    refine x_aload_n rfl rfl ?_
    refine x_bipushN (q := 21) rfl ?_
    refine x_callV (M' := mi196) (As := [_]) (bc1 := 0) (bs1 := 0) (bc2 := 0) (bs2 := 0) rfl rfl rfl rfl ok196 rfl rfl (by decide) rfl rfl rfl rfl rfl rfl ?_
    refine m_takes1 hA1 hS hi c21 ?_
    refine x_ifN_eq rfl (fun c6 => ?_) (fun c6 => ?_)
    · exact absurd c6 (by first | decide | omega)
    refine x_aload_n rfl rfl ?_
    refine x_iconstN (q := 0) rfl ?_
    refine x_callV (M' := mi207) (As := [_]) (bc1 := 0) (bs1 := 0) (bc2 := 0) (bs2 := 0) rfl rfl rfl rfl ok207 rfl rfl (by decide) rfl rfl rfl rfl rfl rfl ?_
    refine mo_sum (d := d) hA (hF.up (by omega)) hS.tok hin hp (fun V3 i3 p3 x3 e3 F3 S3 o2 op => ?_) (fun cs1 cs0 V3 F3 g3 => ?_)
    skip
    · rw [e3] at e
      have e' := e.trans (if_pos (c := (1 : Nat) = 1) rfl)
      dsimp only at e'
      have hci3 := (hA.2.2.2.2.2.2 i3).1
      by_cases c22 : tc i3 = 22
      · have hin3 : i3 < N := Nat.lt_of_not_le (fun z => by have := hA.2.2.2.2.2.1 i3 z; omega)
        rw [if_pos c22] at e'
        refine x_aload_n rfl rfl ?_
        refine x_bipushN (q := 22) rfl ?_
        refine x_callV (M' := mi197) (As := [_]) (bc1 := 0) (bs1 := 0) (bc2 := 0) (bs2 := 0) rfl rfl rfl rfl ok197 rfl rfl (by decide) rfl rfl rfl rfl rfl rfl ?_
        refine m_must1 (hA.fr F3) S3 o2 c22 ?_
        refine x_aload_n rfl rfl ?_
        refine x_iconstN (q := 0) rfl ?_
        refine x_callV (M' := mi207) (As := [_]) (bc1 := 0) (bs1 := 0) (bc2 := 0) (bs2 := 0) rfl rfl rfl rfl ok207 rfl rfl (by decide) rfl rfl rfl rfl rfl rfl ?_
        refine mo_sum (d := d) hA (F3.up (by omega)) S3.tok hin3 op (fun V4 i4 p4 x4 e4 F4 S4 m2 mp => ?_) (fun cs1 cs0 V4 F4 g4 => ?_)
        skip
        · rw [e4] at e'
          have e2 := e'.trans (if_pos (c := (1 : Nat) = 1) rfl)
          dsimp only at e2
          have hci4 := (hA.2.2.2.2.2.2 i4).1
          by_cases c23 : tc i4 = 23
          · have hin4 : i4 < N := Nat.lt_of_not_le (fun z => by have := hA.2.2.2.2.2.1 i4 z; omega)
            rw [if_pos c23] at e2
            refine x_aload_n rfl rfl ?_
            refine x_bipushN (q := 23) rfl ?_
            refine x_callV (M' := mi197) (As := [_]) (bc1 := 0) (bs1 := 0) (bc2 := 0) (bs2 := 0) rfl rfl rfl rfl ok197 rfl rfl (by decide) rfl rfl rfl rfl rfl rfl ?_
            refine m_must1 (hA.fr F4) S4 m2 c23 ?_
            refine x_aload_n rfl rfl ?_
            refine x_iconstN (q := 0) rfl ?_
            refine x_callV (M' := mi207) (As := [_]) (bc1 := 0) (bs1 := 0) (bc2 := 0) (bs2 := 0) rfl rfl rfl rfl ok207 rfl rfl (by decide) rfl rfl rfl rfl rfl rfl ?_
            refine mo_sum (d := d) hA (F4.up (by omega)) S4.tok hin4 mp (fun V5 i5 p5 x5 e5 F5 S5 n2 np => ?_) (fun cs1 cs0 V5 F5 g5 => ?_)
            refine x_goto rfl ?_
            skip
            · rw [e5] at e2
              have e6 := e2.trans (if_pos (c := (1 : Nat) = 1) rfl)
              dsimp only at e6
              rw [e6] at h0
              exact mtm_o (d := d) hA F5 S5 n2 np (fun V' i' p' c' q => h1 V' i' p' c' (e6.trans q)) h0
            · have e6 := e2.trans (if_neg cs1)
              rw [e6] at h0
              refine x_goto rfl ?_
              exact mtm_oB g5 (hpl _) (h0 V5 _ cs0 rfl F5 g5)
          · rw [if_neg c23] at e2
            rw [e2] at h0
            refine x_aload_n rfl rfl ?_
            refine x_bipushN (q := 23) rfl ?_
            refine x_callV (M' := mi197) (As := [_]) (bc1 := 0) (bs1 := 0) (bc2 := 0) (bs2 := 0) rfl rfl rfl rfl ok197 rfl rfl (by decide) rfl rfl rfl rfl rfl rfl ?_
            refine m_mustN (hA.fr F4) S4 m2 (by omega) c23 ?_
            refine x_aload_n rfl rfl ?_
            refine x_iconstN (q := 0) rfl ?_
            refine x_callV (M' := mi207) (As := [_]) (bc1 := 0) (bs1 := 0) (bc2 := 0) (bs2 := 0) rfl rfl rfl rfl ok207 rfl rfl (by decide) rfl rfl rfl rfl rfl rfl ?_
            refine sum_bad0 (d := d + 29) up_at (hpl i4) ?_
            refine x_goto rfl ?_
            exact mtm_oB up_at (hpl i4) (h0 _ _ rfl rfl (F4.up (by omega)) up_at)
        · have e2 := e'.trans (if_neg cs1)
          rw [e2] at h0
          exact hbad20 V4 _ g4 (hpl _) (h0 V4 _ cs0 rfl F4 g4)
      · rw [if_neg c22] at e'
        rw [e'] at h0
        refine x_aload_n rfl rfl ?_
        refine x_bipushN (q := 22) rfl ?_
        refine x_callV (M' := mi197) (As := [_]) (bc1 := 0) (bs1 := 0) (bc2 := 0) (bs2 := 0) rfl rfl rfl rfl ok197 rfl rfl (by decide) rfl rfl rfl rfl rfl rfl ?_
        refine m_mustN (hA.fr F3) S3 o2 (by omega) c22 ?_
        refine x_aload_n rfl rfl ?_
        refine x_iconstN (q := 0) rfl ?_
        refine x_callV (M' := mi207) (As := [_]) (bc1 := 0) (bs1 := 0) (bc2 := 0) (bs2 := 0) rfl rfl rfl rfl ok207 rfl rfl (by decide) rfl rfl rfl rfl rfl rfl ?_
        refine sum_bad0 (d := d + 29) up_at (hpl i3) ?_
        exact hbad20 _ _ up_at (hpl i3) (h0 _ _ rfl rfl (F3.up (by omega)) up_at)
    · have e' := e.trans (if_neg cs1)
      rw [e'] at h0
      exact hbad14 V3 _ g3 (hpl _) (h0 V3 _ cs0 rfl F3 g3)
  · by_cases c24 : tc i = 24 ∨ tc i = 25
    · have hin : i < N := Nat.lt_of_not_le (fun z => by have := hA.2.2.2.2.2.1 i z; omega)
      have e : pOrdC tc tv i p = pcb (pSum true tc tv (i + 1) p) (fun i1 p1 x => pTimes tc tv i1 p1 (tc i - 23) x dz dz) := by
        unfold pOrdC
        rw [if_neg c21, if_pos c24]
      have hgo : Ex (d + 35) mi202 57 [.ref 74] [] (LY ++ ext) (up V 74 19 (nI (i + 1))) VL (vr G) 0 0 P := by
        refine x_aload_n rfl rfl ?_
        refine x_iconstN (q := 0) rfl ?_
        refine x_callV (M' := mi207) (As := [_]) (bc1 := 0) (bs1 := 0) (bc2 := 0) (bs2 := 0) rfl rfl rfl rfl ok207 rfl rfl (by decide) rfl rfl rfl rfl rfl rfl ?_
        refine mo_sum (d := d) hA (hF.up (by omega)) hS.tok hin hp (fun V3 i3 p3 x3 e3 F3 S3 o2 op => ?_) (fun cs1 cs0 V3 F3 g3 => ?_)
        refine x_goto rfl ?_
        skip
        · rw [e3] at e
          have e' := e.trans (if_pos (c := (1 : Nat) = 1) rfl)
          dsimp only at e'
          rw [e'] at h0
          exact mtm_o (d := d) hA F3 S3 o2 op (fun V' i' p' c' q => h1 V' i' p' c' (e'.trans q)) h0
        · have e' := e.trans (if_neg cs1)
          rw [e'] at h0
          refine x_goto rfl ?_
          exact mtm_oB g3 (hpl _) (h0 V3 _ cs0 rfl F3 g3)
      by_cases c4 : tc i = 24
      · refine x_aload_n rfl rfl ?_
        refine x_bipushN (q := 21) rfl ?_
        refine x_callV (M' := mi196) (As := [_]) (bc1 := 0) (bs1 := 0) (bc2 := 0) (bs2 := 0) rfl rfl rfl rfl ok196 rfl rfl (by decide) rfl rfl rfl rfl rfl rfl ?_
        refine m_takesN hA1 hS hi (by omega) c21 ?_
        refine x_ifN_eq rfl (fun c6 => ?_) (fun c6 => ?_)
        rotate_left
        · exact absurd c6 (by first | decide | omega)
        refine x_aload_n rfl rfl ?_
        refine x_bipushN (q := 24) rfl ?_
        refine x_callV (M' := mi196) (As := [_]) (bc1 := 0) (bs1 := 0) (bc2 := 0) (bs2 := 0) rfl rfl rfl rfl ok196 rfl rfl (by decide) rfl rfl rfl rfl rfl rfl ?_
        refine m_takes1 hA1 hS hi c4 ?_
        refine x_ifN_ne rfl (fun c45 => ?_) (fun c45 => ?_)
        rotate_left
        · exact absurd c45 (by first | decide | omega)
        exact hgo
      · refine x_aload_n rfl rfl ?_
        refine x_bipushN (q := 21) rfl ?_
        refine x_callV (M' := mi196) (As := [_]) (bc1 := 0) (bs1 := 0) (bc2 := 0) (bs2 := 0) rfl rfl rfl rfl ok196 rfl rfl (by decide) rfl rfl rfl rfl rfl rfl ?_
        refine m_takesN hA1 hS hi (by omega) c21 ?_
        refine x_ifN_eq rfl (fun c6 => ?_) (fun c6 => ?_)
        rotate_left
        · exact absurd c6 (by first | decide | omega)
        refine x_aload_n rfl rfl ?_
        refine x_bipushN (q := 24) rfl ?_
        refine x_callV (M' := mi196) (As := [_]) (bc1 := 0) (bs1 := 0) (bc2 := 0) (bs2 := 0) rfl rfl rfl rfl ok196 rfl rfl (by decide) rfl rfl rfl rfl rfl rfl ?_
        refine m_takesN hA1 hS hi (by omega) c4 ?_
        refine x_ifN_ne rfl (fun c45 => ?_) (fun c45 => ?_)
        · exact absurd c45 (by first | decide | omega)
        refine x_aload_n rfl rfl ?_
        refine x_bipushN (q := 25) rfl ?_
        refine x_callV (M' := mi196) (As := [_]) (bc1 := 0) (bs1 := 0) (bc2 := 0) (bs2 := 0) rfl rfl rfl rfl ok196 rfl rfl (by decide) rfl rfl rfl rfl rfl rfl ?_
        refine m_takes1 hA1 hS hi (show tc i = 25 by omega) ?_
        refine x_ifN_eq rfl (fun c54 => ?_) (fun c54 => ?_)
        · exact absurd c54 (by first | decide | omega)
        exact hgo
    · by_cases c26 : tc i = 26
      · have hin : i < N := Nat.lt_of_not_le (fun z => by have := hA.2.2.2.2.2.1 i z; omega)
        have e : pOrdC tc tv i p = pTimes tc tv (i + 1) p 3 dz dz dz := by
          unfold pOrdC
          rw [if_neg c21, if_neg c24, if_pos c26]
        rw [e] at h0
        refine x_aload_n rfl rfl ?_
        refine x_bipushN (q := 21) rfl ?_
        refine x_callV (M' := mi196) (As := [_]) (bc1 := 0) (bs1 := 0) (bc2 := 0) (bs2 := 0) rfl rfl rfl rfl ok196 rfl rfl (by decide) rfl rfl rfl rfl rfl rfl ?_
        refine m_takesN hA1 hS hi (by omega) c21 ?_
        refine x_ifN_eq rfl (fun c6 => ?_) (fun c6 => ?_)
        rotate_left
        · exact absurd c6 (by first | decide | omega)
        refine x_aload_n rfl rfl ?_
        refine x_bipushN (q := 24) rfl ?_
        refine x_callV (M' := mi196) (As := [_]) (bc1 := 0) (bs1 := 0) (bc2 := 0) (bs2 := 0) rfl rfl rfl rfl ok196 rfl rfl (by decide) rfl rfl rfl rfl rfl rfl ?_
        refine m_takesN hA1 hS hi (by omega) (by omega) ?_
        refine x_ifN_ne rfl (fun c45 => ?_) (fun c45 => ?_)
        · exact absurd c45 (by first | decide | omega)
        refine x_aload_n rfl rfl ?_
        refine x_bipushN (q := 25) rfl ?_
        refine x_callV (M' := mi196) (As := [_]) (bc1 := 0) (bs1 := 0) (bc2 := 0) (bs2 := 0) rfl rfl rfl rfl ok196 rfl rfl (by decide) rfl rfl rfl rfl rfl rfl ?_
        refine m_takesN hA1 hS hi (by omega) (by omega) ?_
        refine x_ifN_eq rfl (fun c54 => ?_) (fun c54 => ?_)
        rotate_left
        · exact absurd c54 (by first | decide | omega)
        refine x_aload_n rfl rfl ?_
        refine x_bipushN (q := 26) rfl ?_
        refine x_callV (M' := mi197) (As := [_]) (bc1 := 0) (bs1 := 0) (bc2 := 0) (bs2 := 0) rfl rfl rfl rfl ok197 rfl rfl (by decide) rfl rfl rfl rfl rfl rfl ?_
        refine m_must1 hA1 hS hi c26 ?_
        exact mtm_o (d := d) hA (hF.up (by omega)) hS.tok hin hp (fun V' i' p' c' q => h1 V' i' p' c' (e.trans q)) h0
      · have e : pOrdC tc tv i p = (0, i, p, 0, 1, dz, dz, dz, 0, dz) := by
          unfold pOrdC
          rw [if_neg c21, if_neg c24, if_neg c26]
        rw [e] at h0
        refine x_aload_n rfl rfl ?_
        refine x_bipushN (q := 21) rfl ?_
        refine x_callV (M' := mi196) (As := [_]) (bc1 := 0) (bs1 := 0) (bc2 := 0) (bs2 := 0) rfl rfl rfl rfl ok196 rfl rfl (by decide) rfl rfl rfl rfl rfl rfl ?_
        refine m_takesN hA1 hS hi (by omega) c21 ?_
        refine x_ifN_eq rfl (fun c6 => ?_) (fun c6 => ?_)
        rotate_left
        · exact absurd c6 (by first | decide | omega)
        refine x_aload_n rfl rfl ?_
        refine x_bipushN (q := 24) rfl ?_
        refine x_callV (M' := mi196) (As := [_]) (bc1 := 0) (bs1 := 0) (bc2 := 0) (bs2 := 0) rfl rfl rfl rfl ok196 rfl rfl (by decide) rfl rfl rfl rfl rfl rfl ?_
        refine m_takesN hA1 hS hi (by omega) (by omega) ?_
        refine x_ifN_ne rfl (fun c45 => ?_) (fun c45 => ?_)
        · exact absurd c45 (by first | decide | omega)
        refine x_aload_n rfl rfl ?_
        refine x_bipushN (q := 25) rfl ?_
        refine x_callV (M' := mi196) (As := [_]) (bc1 := 0) (bs1 := 0) (bc2 := 0) (bs2 := 0) rfl rfl rfl rfl ok196 rfl rfl (by decide) rfl rfl rfl rfl rfl rfl ?_
        refine m_takesN hA1 hS hi (by omega) (by omega) ?_
        refine x_ifN_eq rfl (fun c54 => ?_) (fun c54 => ?_)
        rotate_left
        · exact absurd c54 (by first | decide | omega)
        refine x_aload_n rfl rfl ?_
        refine x_bipushN (q := 26) rfl ?_
        refine x_callV (M' := mi197) (As := [_]) (bc1 := 0) (bs1 := 0) (bc2 := 0) (bs2 := 0) rfl rfl rfl rfl ok197 rfl rfl (by decide) rfl rfl rfl rfl rfl rfl ?_
        refine m_mustN hA1 hS hi (by omega) c26 ?_
        exact mtm_oB (b := pl i) up_at (hpl _) (h0 _ _ rfl rfl (hF.up (by omega)) up_at)
end ReadK
