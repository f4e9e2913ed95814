/-! ===== the model goes along a clause of orders ===== -/
def OrS (K : KT) (N : Nat) (tc tv : Nat → Nat) : Prop := N ≤ 400 ∧ (∀ i, i < N → tc i = K (2505 + i) ∧ tv i = K (5305 + i)) ∧ (∀ i, N ≤ i → tc i = 0) ∧ ∀ i, tc i < 1000 ∧ tv i < 100000000
def GcS (K : KT) (N ran : Nat) (lat : Int) (V : VIT) : Prop := RK (V 76) K ∧ V 74 23 = nI (2400 + N) ∧ V 74 25 = nI 1 ∧ V 74 27 = nI ran ∧ V 74 28 = Int32.ofInt lat
set_option maxRecDepth 20000 in
theorem GcS.ev {K : KT} {N ran : Nat} {lat : Int} {tc tv : Nat → Nat} {V : VIT} (h : GcS K N ran lat V) (hO : OrS K N tc tv) : EvS K 2400 N tc V := ⟨h.1, h.2.1, by omega, hO.1, fun i hi => by rw [show 105 + (2400 + i) = 2505 + i by omega]; exact (hO.2.1 i hi).1, hO.2.2.1, fun i => (hO.2.2.2 i).1⟩
def FrG1 (V0 V : VIT) : Prop := ∀ a k, ¬ (a = 74 ∧ (k = 22 ∨ k = 24 ∨ k = 46)) → V a k = V0 a k
set_option maxRecDepth 20000 in
theorem FrG1.gc {K : KT} {N ran : Nat} {lat : Int} {V V' : VIT} (hF : FrG1 V V') (h : GcS K N ran lat V) : GcS K N ran lat V' := by
  obtain ⟨h1, h2, h3, h4, h5⟩ := h
  refine ⟨?_, by rw [hF 74 23 (by omega)]; exact h2, by rw [hF 74 25 (by omega)]; exact h3, by rw [hF 74 27 (by omega)]; exact h4, by rw [hF 74 28 (by omega)]; exact h5⟩
  rw [show V' 76 = V 76 from funext (fun k => hF 76 k (by omega))]
  exact h1
set_option maxRecDepth 20000 in
theorem FrE.g1 {V V' : VIT} (h : FrE V V') : FrG1 V V' := fun a k q => h a k (by omega)
set_option maxRecDepth 20000 in
theorem FrG1.trans {V0 V1 V2 : VIT} (h1 : FrG1 V0 V1) (h2 : FrG1 V1 V2) : FrG1 V0 V2 := fun a k q => (h2 a k q).trans (h1 a k q)
/-- bounds and row of an order's state -/
def PuO (K : KT) (ran : Nat) (lat : Int) : Prop := WF K ∧ ran ≤ 100000 ∧ -1 ≤ lat ∧ lat ≤ 1000
section GoA
variable {d : Nat} {V : VIT} {VL : VLT} {G : VRT} {P : Post} {ext : HL} {K : KT} {N ran l : Nat} {tc tv : Nat → Nat} {lat : Int} {endv : Int32}
set_option maxRecDepth 20000 in
theorem ga_sn (hO : OrS K N tc tv) (hG : GcS K N ran lat V) (hB : PuO K ran lat) : Sn5 V VL G ext 2400 N (envO K ran lat) true tc tv PFuel ∧ Tn0 V VL G ext 2400 N (envO K ran lat) true tc tv PFuel := by
  have hE := hG.ev hO
  have hL := lf_ord (VL := VL) (G := G) (ext := ext) (tv := tv) hE hB.1 hG.2.2.1 hG.2.2.2.1 hG.2.2.2.2 hB.2.1 hB.2.2.1 hB.2.2.2 (fun i hi => by rw [show 2905 + (2400 + i) = 5305 + i by omega]; exact (hO.2.1 i hi).2)
  exact ⟨(sn_all hE hL PFuel).1, (tn_all hE (fun g => (sn_all hE hL g).1) PFuel).1⟩
set_option maxRecDepth 20000 in
theorem ga_sum {k nn j p j' p' sa : Nat} {x : Den} (hO : OrS K N tc tv) (hB : PuO K ran lat) (hG : GcS K N ran lat V) (hj : j ≤ N) (hg : V 74 22 = nI (2400 + j)) (hsa : V 74 46 = nI sa) (hsa1 : sa ≤ 1) (hl : l ≤ 1) (hk : k < 3) (hp : pSum true tc tv j p = (1, j', p', x))
  (hP : ∀ (V' : VIT) (v : Int64) (sa' : Nat), FrG1 V V' → V' 74 22 = nI (2400 + j') → j' ≤ N → V' 74 46 = nI sa' → sa' ≤ 1 → (l = 1 → (sa' = 1 ↔ sa = 1 ∧ x (envO K ran lat) ≠ none) ∧ ∀ a, x (envO K ran lat) = some a → v.toInt = a ∧ -1000000000 ≤ a ∧ a ≤ 1000000000) → Ex (d + 51) mi270 76 [.ref 74, .int endv, .int (nI l), .int (nI nn), .int (nI (k + 1))] [] (LY ++ ext) V' (up VL 98 k v) (vr G) 0 0 P) : Ex (d + 51) mi270 97 [.ref 74, .int endv, .int (nI l), .int (nI nn), .int (nI k)] [] (LY ++ ext) V VL (vr G) 0 0 P := by
  have hN := hO.1
  have hFb : FrE V (up V 74 24 (nI 0)) := FrE.refl.br
  have hG0 := hFb.g1.gc hG
  have hS := (ga_sn (VL := VL) (G := G) (ext := ext) hO hG0 hB).1
  have hA : At 2400 j 0 (up V 74 24 (nI 0)) := ⟨(up_at' (by omega)).trans hg, up_at, by omega⟩
  have hr : (prs true tc tv PFuel 5 0 j p dz) = (1, j', p', x) := hp
  obtain ⟨o1, o2, o3⟩ := prs_ok (o := true) (tv := tv) hO.2.2.1 PFuel 5 0 j p dz hj (by rw [hr])
  rw [hr] at o2
  have hSj := hS 0 j p dz l 0 (up V 74 24 (nI 0)) (d + 50) (by omega) (by omega) hj hl FrE.refl hA (by rw [hr])
  rw [hr] at hSj
  refine x_aload_n rfl rfl ?_
  refine x_iconstN (q := 0) rfl ?_
  refine x_putZ rfl rfl rfl rfl (by first | exact Or.inl rfl | exact Or.inr rfl) ?_
  refine x_aload_n rfl rfl ?_
  refine x_getR (u := .ref _) rfl rfl rfl rfl ?_
  refine x_iload rfl rfl ?_
  refine x_aload_n rfl rfl ?_
  refine x_iload_n rfl rfl ?_
  refine x_callV (M' := mi219) (As := [_]) (bc1 := 0) (bs1 := 0) (bc2 := 0) (bs2 := 0) rfl rfl rfl rfl ok219 rfl rfl (by decide) rfl rfl rfl rfl rfl rfl ?_
  refine hSj _ (fun v V1 b1_ hF1 hA1 hR1 => ?_)
  skip
  have hF01 : FrG1 V V1 := hFb.g1.trans hF1.g1
  have e46 : V1 74 46 = nI sa := by rw [hF1 74 46 (by omega), up_at' (by omega)]; exact hsa
  have hb1 := hA1.2.2
  have hend : ∀ sa' : Nat, (sa' = if sa = 1 ∧ b1_ = 0 then 1 else 0) → Ex (d + 51) mi270 76 [.ref 74, .int endv, .int (nI l), .int (nI nn), .int (nI (k + 1))] [] (LY ++ ext) (up V1 74 46 (nI sa')) (up VL 98 k v) (vr G) 0 0 P := by
    intro sa' hsa'
    refine hP _ v sa' (fun a i q => by rw [up_ne2 (by omega)]; exact hF01 a i q) ((up_at' (by omega)).trans hA1.1) o2 up_at (by rw [hsa']; split <;> omega) (fun hl1 => ?_)
    obtain ⟨r1, r2⟩ := hR1.1 hl1 rfl
    refine ⟨?_, fun a ha => ⟨(r1 a ha).1, (r1 a ha).2.1, (r1 a ha).2.2.1⟩⟩
    rw [hsa']
    cases hx : x (envO K ran lat) with
    | none =>
      have := r2 hx
      rw [if_neg (by omega)]
      exact ⟨fun z => absurd z (by omega), fun z => absurd rfl z.2⟩
    | some a =>
      have := (r1 a hx).2.2.2
      by_cases cs : sa = 1
      · rw [if_pos ⟨cs, this⟩]
        exact ⟨fun _ => ⟨cs, fun z => by cases z⟩, fun _ => rfl⟩
      · rw [if_neg (fun z => cs z.1)]
        exact ⟨fun z => absurd z (by omega), fun z => absurd z.1 cs⟩
  rcases (show sa = 0 ∨ sa = 1 by omega) with rfl | rfl
  · have hk0 := hend 0 rfl
    refine x_lasN (j := k) rfl rfl (rfl) (by omega) ?_
    refine x_aload_n rfl rfl ?_
    refine x_aload_n rfl rfl ?_
    refine x_getE (y := 46) rfl rfl rfl e46 ?_
    refine x_ifN_eq rfl (fun c119 => ?_) (fun c119 => ?_)
    rotate_left
    · exact absurd c119 (by first | decide | omega)
    refine x_iconstN (q := 0) rfl ?_
    refine x_putZ rfl rfl rfl rfl (by first | exact Or.inl rfl | exact Or.inr rfl) ?_
    refine x_iincN (q := 1) (ls' := [_, _, _, _, _]) rfl rfl rfl rfl ?_
    refine x_goto rfl ?_
    exact hk0
  · rcases (show b1_ = 0 ∨ b1_ = 1 by omega) with rfl | rfl
    · have hk0 := hend 1 rfl
      refine x_lasN (j := k) rfl rfl (rfl) (by omega) ?_
      refine x_aload_n rfl rfl ?_
      refine x_aload_n rfl rfl ?_
      refine x_getE (y := 46) rfl rfl rfl e46 ?_
      refine x_ifN_eq rfl (fun c119 => ?_) (fun c119 => ?_)
      · exact absurd c119 (by first | decide | omega)
      refine x_aload_n rfl rfl ?_
      refine x_getE (y := 24) rfl rfl rfl hA1.2.1 ?_
      refine x_ifN_ne rfl (fun c126 => ?_) (fun c126 => ?_)
      · exact absurd c126 (by first | decide | omega)
      refine x_iconstN (q := 1) rfl ?_
      refine x_goto rfl ?_
      refine x_putZ rfl rfl rfl rfl (by first | exact Or.inl rfl | exact Or.inr rfl) ?_
      refine x_iincN (q := 1) (ls' := [_, _, _, _, _]) rfl rfl rfl rfl ?_
      refine x_goto rfl ?_
      exact hk0
    · have hk0 := hend 0 rfl
      refine x_lasN (j := k) rfl rfl (rfl) (by omega) ?_
      refine x_aload_n rfl rfl ?_
      refine x_aload_n rfl rfl ?_
      refine x_getE (y := 46) rfl rfl rfl e46 ?_
      refine x_ifN_eq rfl (fun c119 => ?_) (fun c119 => ?_)
      · exact absurd c119 (by first | decide | omega)
      refine x_aload_n rfl rfl ?_
      refine x_getE (y := 24) rfl rfl rfl hA1.2.1 ?_
      refine x_ifN_ne rfl (fun c126 => ?_) (fun c126 => ?_)
      rotate_left
      · exact absurd c126 (by first | decide | omega)
      refine x_iconstN (q := 0) rfl ?_
      refine x_putZ rfl rfl rfl rfl (by first | exact Or.inl rfl | exact Or.inr rfl) ?_
      refine x_iincN (q := 1) (ls' := [_, _, _, _, _]) rfl rfl rfl rfl ?_
      refine x_goto rfl ?_
      exact hk0
def FrG2 (V0 V : VIT) : Prop := ∀ a k, ¬ (a = 74 ∧ (k = 22 ∨ k = 24 ∨ k = 44 ∨ k = 47)) → V a k = V0 a k
set_option maxRecDepth 20000 in
theorem FrG2.gc {K : KT} {N ran : Nat} {lat : Int} {V V' : VIT} (hF : FrG2 V V') (h : GcS K N ran lat V) : GcS K N ran lat V' := by
  obtain ⟨h1, h2, h3, h4, h5⟩ := h
  refine ⟨?_, by rw [hF 74 23 (by omega)]; exact h2, by rw [hF 74 25 (by omega)]; exact h3, by rw [hF 74 27 (by omega)]; exact h4, by rw [hF 74 28 (by omega)]; exact h5⟩
  rw [show V' 76 = V 76 from funext (fun k => hF 76 k (by omega))]
  exact h1
-- the test: from 184 on
set_option maxRecDepth 20000 in
theorem ga_if {j p i' p' kd tm fl : Nat} {x y z te : Den} {z3 z4 : Value} (hO : OrS K N tc tv) (hB : PuO K ran lat) (hG : GcS K N ran lat V) (hj : j ≤ N) (hg : V 74 22 = nI (2400 + j)) (hl : l ≤ 1) (hp : pIf true tc tv j p kd tm x y z = (1, i', p', kd, tm, x, y, z, fl, te))
  (hP : ∀ (V' : VIT) (ti : Nat), (∀ a k, ¬ (a = 74 ∧ (k = 22 ∨ k = 24 ∨ k = 47)) → V' a k = V a k) → V' 74 22 = nI (2400 + i' + 1) → i' ≤ N → V' 74 47 = nI ti → ti ≤ 1 → (l = 1 → (ti = 1 ↔ ¬ (fl = 1 ∧ soB (te (envO K ran lat)) = false))) → P none (LY ++ ext) V' VL (vr G)) : Ex (d + 51) mi270 184 [.ref 74, .int endv, .int (nI l), z3, z4] [] (LY ++ ext) V VL (vr G) 0 0 P := by
  have hN := hO.1
  have hFb : FrE V (up V 74 24 (nI 0)) := FrE.refl.br
  have hG0 := hFb.g1.gc hG
  have hE0 := hG0.ev hO
  have hg0 : up V 74 24 (nI 0) 74 22 = nI (2400 + j) := (up_at' (by omega)).trans hg
  have hc := (hO.2.2.2 j).1
  -- from the test's value on
  have hend : ∀ (V1 : VIT) (t1 b1_ i1 ti : Nat), FrE V V1 → V1 74 22 = nI (2400 + i1) → V1 74 24 = nI b1_ → b1_ ≤ 1 → t1 ≤ 1 → i1 ≤ N → i1 = i' → ti = (if t1 = 1 ∧ b1_ = 0 then 1 else 0) → (l = 1 → (ti = 1 ↔ ¬ (fl = 1 ∧ soB (te (envO K ran lat)) = false))) → Ex (d + 51) mi270 211 [.ref 74, .int endv, .int (nI l), z3, z4] [.int (nI t1), .ref 74] (LY ++ ext) V1 VL (vr G) 0 0 P := by
    intro V1 t1 b1_ i1 ti hF1 h22 h24 hb ht hi1 ei hti hsem
    subst ei
    have hk := hP (up (up (up V1 74 47 (nI t1)) 74 47 (nI ti)) 74 22 (nI (2400 + i1 + 1))) ti (fun a k q => by rw [up_ne2 (by omega), up_ne2 (by omega), up_ne2 (by omega)]; exact hF1 a k (by omega)) up_at hi1 ((up_at' (by omega)).trans up_at) (by rw [hti]; split <;> omega) hsem
    rcases (show t1 = 0 ∨ t1 = 1 by omega) with rfl | rfl
    · rw [if_neg (by omega)] at hti
      subst hti
      refine x_putZ rfl rfl rfl rfl (by first | exact Or.inl rfl | exact Or.inr rfl) ?_
      refine x_aload_n rfl rfl ?_
      refine x_aload_n rfl rfl ?_
      refine x_getE (y := 47) rfl rfl rfl up_at ?_
      refine x_ifN_eq rfl (fun c219 => ?_) (fun c219 => ?_)
      rotate_left
      · exact absurd c219 (by first | decide | omega)
      refine x_iconstN (q := 0) rfl ?_
      refine x_putZ rfl rfl rfl rfl (by first | exact Or.inl rfl | exact Or.inr rfl) ?_
      refine x_aload_n rfl rfl ?_
      refine x_dup rfl rfl ?_
      refine x_getE (y := 22) rfl rfl rfl ((up_at' (by omega)).trans ((up_at' (by omega)).trans h22)) ?_
      refine x_iconstN (q := 1) rfl ?_
      refine x_iaddN rfl ?_
      refine x_putI rfl rfl rfl rfl ?_
      refine x_vret rfl rfl ?_
      exact hk
    · rcases (show b1_ = 0 ∨ b1_ = 1 by omega) with rfl | rfl
      · rw [if_pos ⟨rfl, rfl⟩] at hti
        subst hti
        refine x_putZ rfl rfl rfl rfl (by first | exact Or.inl rfl | exact Or.inr rfl) ?_
        refine x_aload_n rfl rfl ?_
        refine x_aload_n rfl rfl ?_
        refine x_getE (y := 47) rfl rfl rfl up_at ?_
        refine x_ifN_eq rfl (fun c219 => ?_) (fun c219 => ?_)
        · exact absurd c219 (by first | decide | omega)
        refine x_aload_n rfl rfl ?_
        refine x_getE (y := 24) rfl rfl rfl ((up_at' (by omega)).trans h24) ?_
        refine x_ifN_ne rfl (fun c226 => ?_) (fun c226 => ?_)
        · exact absurd c226 (by first | decide | omega)
        refine x_iconstN (q := 1) rfl ?_
        refine x_goto rfl ?_
        refine x_putZ rfl rfl rfl rfl (by first | exact Or.inl rfl | exact Or.inr rfl) ?_
        refine x_aload_n rfl rfl ?_
        refine x_dup rfl rfl ?_
        refine x_getE (y := 22) rfl rfl rfl ((up_at' (by omega)).trans ((up_at' (by omega)).trans h22)) ?_
        refine x_iconstN (q := 1) rfl ?_
        refine x_iaddN rfl ?_
        refine x_putI rfl rfl rfl rfl ?_
        refine x_vret rfl rfl ?_
        exact hk
      · rw [if_neg (by omega)] at hti
        subst hti
        refine x_putZ rfl rfl rfl rfl (by first | exact Or.inl rfl | exact Or.inr rfl) ?_
        refine x_aload_n rfl rfl ?_
        refine x_aload_n rfl rfl ?_
        refine x_getE (y := 47) rfl rfl rfl up_at ?_
        refine x_ifN_eq rfl (fun c219 => ?_) (fun c219 => ?_)
        · exact absurd c219 (by first | decide | omega)
        refine x_aload_n rfl rfl ?_
        refine x_getE (y := 24) rfl rfl rfl ((up_at' (by omega)).trans h24) ?_
        refine x_ifN_ne rfl (fun c226 => ?_) (fun c226 => ?_)
        rotate_left
        · exact absurd c226 (by first | decide | omega)
        refine x_iconstN (q := 0) rfl ?_
        refine x_putZ rfl rfl rfl rfl (by first | exact Or.inl rfl | exact Or.inr rfl) ?_
        refine x_aload_n rfl rfl ?_
        refine x_dup rfl rfl ?_
        refine x_getE (y := 22) rfl rfl rfl ((up_at' (by omega)).trans ((up_at' (by omega)).trans h22)) ?_
        refine x_iconstN (q := 1) rfl ?_
        refine x_iaddN rfl ?_
        refine x_putI rfl rfl rfl rfl ?_
        refine x_vret rfl rfl ?_
        exact hk
  by_cases h4 : tc j = 4
  · have e2 : pIf true tc tv j p kd tm x y z = (if (pTest true tc tv (j + 1) p).1 = 1 then ((1, (pTest true tc tv (j + 1) p).2.1, (pTest true tc tv (j + 1) p).2.2.1, kd, tm, x, y, z, 1, (pTest true tc tv (j + 1) p).2.2.2) : PCl) else ((pTest true tc tv (j + 1) p).1, (pTest true tc tv (j + 1) p).2.1, (pTest true tc tv (j + 1) p).2.2.1, kd, tm, x, y, z, 1, dz)) := if_pos h4
    rw [hp] at e2
    by_cases ct : (pTest true tc tv (j + 1) p).1 = 1
    · rw [if_pos ct] at e2
      simp only [Prod.mk.injEq, true_and] at e2
      obtain ⟨e21, e22, e23, e24⟩ := e2
      have hjn : j < N := Nat.lt_of_not_le (fun q => by have := hO.2.2.1 j q; omega)
      have hT := (ga_sn (VL := VL) (G := G) (ext := ext) hO hG0 hB).2
      obtain ⟨o1, o2, o3⟩ := prs_ok (o := true) (tv := tv) hO.2.2.1 PFuel 0 0 (j + 1) p dz hjn ct
      refine x_aload_n rfl rfl ?_
      refine x_iconstN (q := 0) rfl ?_
      refine x_putZ rfl rfl rfl rfl (by first | exact Or.inl rfl | exact Or.inr rfl) ?_
      refine x_aload_n rfl rfl ?_
      refine x_aload_n rfl rfl ?_
      refine x_iconstN (q := 4) rfl ?_
      refine x_callV (M' := mi217) (As := [_]) (bc1 := 0) (bs1 := 0) (bc2 := 0) (bs2 := 0) rfl rfl rfl rfl ok217 rfl rfl (by decide) rfl rfl rfl rfl rfl rfl ?_
      refine m_passes_yes hE0 hg0 (by omega) h4 (fun _ => ?_)
      refine x_ifN_eq rfl (fun c195 => ?_) (fun c195 => ?_)
      · exact absurd c195 (by first | decide | omega)
      refine x_aload_n rfl rfl ?_
      refine x_iload_n rfl rfl ?_
      refine x_callV (M' := mi223) (As := [_]) (bc1 := 0) (bs1 := 0) (bc2 := 0) (bs2 := 0) rfl rfl rfl rfl ok223 rfl rfl (by decide) rfl rfl rfl rfl rfl rfl ?_
      refine hT 0 (j + 1) p dz l 0 _ (d + 50) (by omega) (by omega) hjn hl FrE.refl.go ⟨up_at, (up_at' (by omega)).trans up_at, by omega⟩ ct _ (fun t1 V1 b1_ hF1 hA1 hR1 => ?_)
      skip
      have ht1 := hR1.1
      have hb1 := hA1.2.2
      have hsem : l = 1 → ((if t1 = 1 ∧ b1_ = 0 then 1 else 0) = 1 ↔ ¬ (fl = 1 ∧ soB (te (envO K ran lat)) = false)) := by
        intro hl1
        obtain ⟨r1, r2⟩ := hR1.2.1 hl1 rfl
        have ete : te = (prs true tc tv PFuel 0 0 (j + 1) p dz).2.2.2 := e24
        rw [e23, ete]
        cases hx : (prs true tc tv PFuel 0 0 (j + 1) p dz).2.2.2 (envO K ran lat) with
        | none =>
          have := r2 hx
          rw [if_neg (by omega)]
          exact ⟨fun q => absurd q (by omega), fun q => absurd ⟨rfl, rfl⟩ q⟩
        | some a =>
          obtain ⟨q1, q2⟩ := r1 a hx
          rcases (show t1 = 0 ∨ t1 = 1 by omega) with w | w
          · rw [if_neg (by omega)]
            refine ⟨fun q => absurd q (by omega), fun q => absurd ⟨rfl, ?_⟩ q⟩
            show decide (a ≠ 0) = false
            rw [decide_eq_false_iff_not]
            omega
          · rw [if_pos ⟨w, q2⟩]
            refine ⟨fun _ q => ?_, fun _ => rfl⟩
            have q3 : decide (a ≠ 0) = false := q.2
            rw [decide_eq_false_iff_not] at q3
            omega
      have hF1' : FrE V V1 := hFb.trans hF1
      rcases (show t1 = 0 ∨ t1 = 1 by omega) with rfl | rfl
      · refine x_ifN_eq rfl (fun c203 => ?_) (fun c203 => ?_)
        rotate_left
        · exact absurd c203 (by first | decide | omega)
        refine x_iconstN (q := 0) rfl ?_
        exact hend V1 0 b1_ _ _ hF1' hA1.1 hA1.2.1 hb1 (by omega) o2 e21.symm rfl hsem
      · refine x_ifN_eq rfl (fun c203 => ?_) (fun c203 => ?_)
        · exact absurd c203 (by first | decide | omega)
        refine x_iconstN (q := 1) rfl ?_
        refine x_goto rfl ?_
        exact hend V1 1 b1_ _ _ hF1' hA1.1 hA1.2.1 hb1 (by omega) o2 e21.symm rfl hsem
    · rw [if_neg ct] at e2
      exact absurd (congrArg Prod.fst e2).symm ct
  · have e2 : pIf true tc tv j p kd tm x y z = (1, j, p, kd, tm, x, y, z, 0, dz) := if_neg h4
    rw [hp] at e2
    simp only [Prod.mk.injEq, true_and] at e2
    obtain ⟨e21, e22, e23, e24⟩ := e2
    refine x_aload_n rfl rfl ?_
    refine x_iconstN (q := 0) rfl ?_
    refine x_putZ rfl rfl rfl rfl (by first | exact Or.inl rfl | exact Or.inr rfl) ?_
    refine x_aload_n rfl rfl ?_
    refine x_aload_n rfl rfl ?_
    refine x_iconstN (q := 4) rfl ?_
    refine x_callV (M' := mi217) (As := [_]) (bc1 := 0) (bs1 := 0) (bc2 := 0) (bs2 := 0) rfl rfl rfl rfl ok217 rfl rfl (by decide) rfl rfl rfl rfl rfl rfl ?_
    refine m_passes_no hE0 hg0 (by omega) (by omega) h4 ?_
    refine x_ifN_eq rfl (fun c195 => ?_) (fun c195 => ?_)
    rotate_left
    · exact absurd c195 (by first | decide | omega)
    refine x_iconstN (q := 1) rfl ?_
    refine x_goto rfl ?_
    exact hend _ 1 0 j 1 hFb hg0 up_at (by omega) (by omega) hj e21.symm rfl (fun _ => ⟨fun _ q => absurd q.1 (by omega), fun _ => rfl⟩)
set_option maxRecDepth 20000 in
theorem ga_tail {j p i' p' kd : Nat} {x y z : Den} {c : Cla} {z3 z4 : Value} (hO : OrS K N tc tv) (hB : PuO K ran lat) (hG : GcS K N ran lat V) (hj : j ≤ N) (hg : V 74 22 = nI (2400 + j)) (hl : l ≤ 1) (hp : pTimes tc tv j p kd x y z = (1, i', p', c))
  (hP : ∀ (V' : VIT) (ti : Nat), FrG2 V V' → V' 74 22 = nI (2400 + i' + 1) → i' ≤ N → V' 74 44 = nI c.2.1 → V' 74 47 = nI ti → ti ≤ 1 → (l = 1 → (ti = 1 ↔ ¬ offO c (envO K ran lat))) → c.1 = kd → c.2.2.1 = x → c.2.2.2.1 = y → c.2.2.2.2.1 = z → P none (LY ++ ext) V' VL (vr G)) : Ex (d + 51) mi270 143 [.ref 74, .int endv, .int (nI l), z3, z4] [] (LY ++ ext) V VL (vr G) 0 0 P := by
  have hN := hO.1
  have hc := (hO.2.2.2 j).1
  have hif : ∀ (j2 p2 tm : Nat) (V1 : VIT), pIf true tc tv j2 p2 kd tm x y z = (1, i', p', c) → j2 ≤ N → V1 74 22 = nI (2400 + j2) → V1 74 44 = nI tm → FrG2 V V1 → Ex (d + 51) mi270 184 [.ref 74, .int endv, .int (nI l), z3, z4] [] (LY ++ ext) V1 VL (vr G) 0 0 P := by
    intro j2 p2 tm V1 e1 hj2 h22 h44 hF1
    have ec : c = (kd, tm, x, y, z, c.2.2.2.2.2.1, c.2.2.2.2.2.2) := by
      have := e1
      unfold pIf at this
      split at this
      · split at this
        · simp only [Prod.mk.injEq] at this
          rw [← this.2.2.2]
        · simp only [Prod.mk.injEq] at this
          rw [← this.2.2.2]
      · simp only [Prod.mk.injEq] at this
        rw [← this.2.2.2]
    have e2 : pIf true tc tv j2 p2 kd tm x y z = (1, i', p', kd, tm, x, y, z, c.2.2.2.2.2.1, c.2.2.2.2.2.2) := by rw [← ec]; exact e1
    refine ga_if (d := d) hO hB (hF1.gc hG) hj2 h22 hl e2 (fun V' ti f1 f2 f3 f4 f5 f6 => hP V' ti (fun a k q => by rw [f1 a k (by omega)]; exact hF1 a k q) f2 f3 ?_ f4 f5 f6 (by rw [ec]) (by rw [ec]) (by rw [ec]) (by rw [ec]))
    rw [f1 74 44 (by omega), h44, ec]
  have hF1 : FrG2 V (up V 74 44 (nI 1)) := fun a k q => up_ne2 (by omega)
  have hG1 := hF1.gc hG
  have hE1 := hG1.ev hO
  have hg1 : up V 74 44 (nI 1) 74 22 = nI (2400 + j) := (up_at' (by omega)).trans hg
  by_cases c27 : tc j = 27
  · have hjn : j < N := Nat.lt_of_not_le (fun q => by have := hO.2.2.1 j q; omega)
    by_cases c50 : tc (j + 1) = 50 ∧ 1 ≤ tv (j + 1) ∧ tv (j + 1) ≤ 20
    · have hjn2 : j + 1 < N := Nat.lt_of_not_le (fun q => by have := hO.2.2.1 _ q; omega)
      have e : pTimes tc tv j p kd x y z = pIf true tc tv (j + 2) p kd (tv (j + 1)) x y z := by
        unfold pTimes
        rw [if_pos c27, if_pos c50]
      have hval : ∀ u w : Int32, up (up V 74 44 u) 74 22 w 76 (2905 + (2400 + j + 1)) = nI (tv (j + 1)) := fun u w => by
        rw [up_ne (by omega), up_ne (by omega), (hO.2.1 (j + 1) hjn2).2, show 5305 + (j + 1) = 2905 + (2400 + j + 1) by omega]
        exact hG.1.at (2905 + (2400 + j + 1))
      refine x_aload_n rfl rfl ?_
      refine x_iconstN (q := 1) rfl ?_
      refine x_putI rfl rfl rfl rfl ?_
      refine x_aload_n rfl rfl ?_
      refine x_bipushN (q := 27) rfl ?_
      refine x_callV (M' := mi217) (As := [_]) (bc1 := 0) (bs1 := 0) (bc2 := 0) (bs2 := 0) rfl rfl rfl rfl ok217 rfl rfl (by decide) rfl rfl rfl rfl rfl rfl ?_
      refine m_passes_yes hE1 hg1 (by omega) c27 (fun _ => ?_)
      refine x_ifN_eq rfl (fun c154 => ?_) (fun c154 => ?_)
      · exact absurd c154 (by first | decide | omega)
      refine x_aload_n rfl rfl ?_
      refine x_aload_n rfl rfl ?_
      refine x_getR (u := .ref _) rfl rfl rfl rfl ?_
      refine x_sipushN (q := 2905) rfl ?_
      refine x_aload_n rfl rfl ?_
      refine x_getE (y := 22) rfl rfl rfl up_at ?_
      refine x_iaddN rfl ?_
      refine x_ialE (j := 2905 + (2400 + j + 1)) rfl rfl (rfl) (by omega) (hval _ _) ?_
      refine x_putI rfl rfl rfl rfl ?_
      refine x_aload_n rfl rfl ?_
      refine x_dup rfl rfl ?_
      refine x_getE (y := 22) rfl rfl rfl ((up_at' (by omega)).trans up_at) ?_
      refine x_iconstN (q := 1) rfl ?_
      refine x_iaddN rfl ?_
      refine x_putI rfl rfl rfl rfl ?_
      refine hif (j + 2) p (tv (j + 1)) _ (e.symm.trans hp) (by omega) up_at ((up_at' (by omega)).trans up_at) (fun a k q => by rw [up_ne2 (by omega), up_ne2 (by omega), up_ne2 (by omega), up_ne2 (by omega)])
    · have e : pTimes tc tv j p kd x y z = (0, j + 1, p, kd, 1, x, y, z, 0, dz) := by
        unfold pTimes
        rw [if_pos c27, if_neg c50]
      rw [e] at hp
      exact absurd (congrArg Prod.fst hp) (by show ¬ 0 = 1; omega)
  · have e : pTimes tc tv j p kd x y z = pIf true tc tv j p kd 1 x y z := if_neg c27
    refine x_aload_n rfl rfl ?_
    refine x_iconstN (q := 1) rfl ?_
    refine x_putI rfl rfl rfl rfl ?_
    refine x_aload_n rfl rfl ?_
    refine x_bipushN (q := 27) rfl ?_
    refine x_callV (M' := mi217) (As := [_]) (bc1 := 0) (bs1 := 0) (bc2 := 0) (bs2 := 0) rfl rfl rfl rfl ok217 rfl rfl (by decide) rfl rfl rfl rfl rfl rfl ?_
    refine m_passes_no hE1 hg1 (by omega) (by omega) c27 ?_
    refine x_ifN_eq rfl (fun c154 => ?_) (fun c154 => ?_)
    rotate_left
    · exact absurd c154 (by first | decide | omega)
    exact hif j p 1 _ (e.symm.trans hp) hj hg1 up_at hF1
end GoA
