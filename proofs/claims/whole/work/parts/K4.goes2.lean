/-! ===== the model goes along a clause of orders, whole ===== -/
def FrGA (V0 V : VIT) : Prop := ∀ a k, ¬ (a = 74 ∧ ((22 ≤ k ∧ k ≤ 25) ∨ (44 ≤ k ∧ k ≤ 47))) → V a k = V0 a k
set_option maxRecDepth 20000 in
theorem FrG1.ga {V V' : VIT} (h : FrG1 V V') : FrGA V V' := fun a k q => h a k (by omega)
set_option maxRecDepth 20000 in
theorem FrG2.ga {V V' : VIT} (h : FrG2 V V') : FrGA V V' := fun a k q => h a k (by omega)
set_option maxRecDepth 20000 in
theorem FrGA.trans {V0 V1 V2 : VIT} (h1 : FrGA V0 V1) (h2 : FrGA V1 V2) : FrGA V0 V2 := fun a k q => (h2 a k q).trans (h1 a k q)
def hdO (kd : Nat) : Nat := if kd = 0 then 21 else kd + 23
/-- what the model knows of a clause behind goesAlong -/
def GaK (c : Cla) (e : Env) (VL : VLT) (sa ti : Nat) : Prop := (ti = 1 ↔ ¬ offO c e) ∧ (sa = 1 ↔ xO c e ≠ none ∧ yO c e ≠ none ∧ zO c e ≠ none) ∧ (c.1 ≠ 3 → ∀ a, xO c e = some a → (VL 98 0).toInt = a ∧ -1000000000 ≤ a ∧ a ≤ 1000000000) ∧ (c.1 = 0 → (∀ a, yO c e = some a → (VL 98 1).toInt = a ∧ -1000000000 ≤ a ∧ a ≤ 1000000000) ∧ ∀ a, zO c e = some a → (VL 98 2).toInt = a ∧ -1000000000 ≤ a ∧ a ≤ 1000000000)
section GoA2
variable {d : Nat} {V : VIT} {VL : VLT} {G : VRT} {P : Post} {ext : HL} {K : KT} {N ran l : Nat} {tc tv : Nat → Nat} {lat : Int}
set_option maxRecDepth 20000 in
theorem m_goesAlong {i p i' p' : Nat} {c : Cla} (hO : OrS K N tc tv) (hB : PuO K ran lat) (hM : RK (V 76) K) (h43 : V 74 43 = nI (2400 + i)) (h27 : V 74 27 = nI ran) (h28 : V 74 28 = Int32.ofInt lat) (hi : i ≤ N) (hl : l ≤ 1) (hp : pOrdC tc tv i p = (1, i', p', c))
  (hP : ∀ (V' : VIT) (VL' : VLT) (sa ti : Nat), FrGA V V' → V' 74 22 = nI (2400 + i' + 1) → i' ≤ N → V' 74 44 = nI c.2.1 → V' 74 45 = nI (hdO c.1) → V' 74 46 = nI sa → sa ≤ 1 → V' 74 47 = nI ti → ti ≤ 1 → (l = 1 → GaK c (envO K ran lat) VL' sa ti) → P none (LY ++ ext) V' VL' (vr G)) : Ex (d + 51) mi270 0 (entL [.ref 74, .int (nI (2400 + N)), .int (nI l)] 5) [] (LY ++ ext) V VL (vr G) 0 0 P := by
  have hN := hO.1
  have hci := (hO.2.2.2 i).1
  have hmain : ∀ V2 : VIT, GcS K N ran lat V2 → V2 74 22 = nI (2400 + (i + 1)) → V2 74 45 = nI (tc i) → V2 74 46 = nI 1 → FrGA V V2 → Ex (d + 51) mi270 45 [.ref 74, .int (nI (2400 + N)), .int (nI l), .retAddr 9, .retAddr 9] [] (LY ++ ext) V2 VL (vr G) 0 0 P := by
    intro V2 hG h22 h45 h46 hF
    by_cases c21 : tc i = 21
    · have hin : i < N := Nat.lt_of_not_le (fun z => by have := hO.2.2.1 i z; omega)
      have e : pOrdC tc tv i p = pcb (pSum true tc tv (i + 1) p) (fun i1 p1 x => if tc i1 = 22 then pcb (pSum true tc tv (i1 + 1) p1) (fun i2 p2 y => if tc i2 = 23 then pcb (pSum true tc tv (i2 + 1) p2) (fun i3 p3 z => pTimes tc tv i3 p3 0 x y z) else (0, i2, p2, 0, 1, dz, dz, dz, 0, dz)) else (0, i1, p1, 0, 1, dz, dz, dz, 0, dz)) := by
        unfold pOrdC
        rw [if_pos c21]
      have no0 : ∀ q : PCl, q = (1, i', p', c) → ¬ q.1 ≠ 1 := fun q hq => by rw [hq]; exact fun z => z rfl
      cases hs1 : pSum true tc tv (i + 1) p with
      | mk w1 t1 =>
      obtain ⟨i1, p1, x1⟩ := t1
      rw [hs1] at e
      by_cases k1 : w1 = 1
      · subst k1
        have e1 := e.trans (if_pos (c := (1 : Nat) = 1) rfl)
        dsimp only at e1
        by_cases c22 : tc i1 = 22
        · rw [if_pos c22] at e1
          cases hs2 : pSum true tc tv (i1 + 1) p1 with
          | mk w2 t2 =>
          obtain ⟨i2, p2, x2⟩ := t2
          rw [hs2] at e1
          by_cases k2 : w2 = 1
          · subst k2
            have e2 := e1.trans (if_pos (c := (1 : Nat) = 1) rfl)
            dsimp only at e2
            by_cases c23 : tc i2 = 23
            · rw [if_pos c23] at e2
              cases hs3 : pSum true tc tv (i2 + 1) p2 with
              | mk w3 t3 =>
              obtain ⟨i3, p3, x3⟩ := t3
              rw [hs3] at e2
              by_cases k3 : w3 = 1
              · subst k3
                have e3 := e2.trans (if_pos (c := (1 : Nat) = 1) rfl)
                dsimp only at e3
                have hpt : pTimes tc tv i3 p3 0 x1 x2 x3 = (1, i', p', c) := e3.symm.trans hp
                refine x_aload_n rfl rfl ?_
                refine x_getE (y := 45) rfl rfl rfl h45 ?_
                refine x_bipushN (q := 26) rfl ?_
                refine x_icmpN_ne rfl (fun c51 => ?_) (fun c51 => ?_)
                rotate_left
                · exact absurd c51 (by first | decide | omega)
                refine x_aload_n rfl rfl ?_
                refine x_getE (y := 45) rfl rfl rfl h45 ?_
                refine x_bipushN (q := 21) rfl ?_
                refine x_icmpN_ne rfl (fun c64 => ?_) (fun c64 => ?_)
                · exact absurd c64 (by first | decide | omega)
                refine x_iconstN (q := 3) rfl ?_
                refine x_goto rfl ?_
                refine x_istore_n (ls' := [_, _, _, _, _]) rfl rfl rfl ?_
                refine x_iconstN (q := 0) rfl ?_
                refine x_istore (ls' := [_, _, _, _, _]) rfl rfl rfl ?_
                skip
                refine x_iload rfl rfl ?_
                refine x_iload_n rfl rfl ?_
                refine x_icmpN_ge rfl (fun c79 => ?_) (fun c79 => ?_)
                · exact absurd c79 (by first | decide | omega)
                refine x_iload rfl rfl ?_
                refine x_ifN_le rfl (fun c84 => ?_) (fun c84 => ?_)
                rotate_left
                · exact absurd c84 (by first | decide | omega)
                skip
                refine ga_sum (d := d) (k := 0) (nn := 3) hO hB hG hin h22 h46 (by omega) hl (by omega) hs1 (fun V3 v0 sa0 f1 f2 f3 f4 f5 f6 => ?_)
                have hG3 := f1.gc hG
                have hj1 : i1 < N := Nat.lt_of_not_le (fun z => by have := hO.2.2.1 i1 z; omega)
                have hFg : FrG1 V3 (up V3 74 22 (nI (2400 + (i1 + 1)))) := fun a k q => up_ne2 (by omega)
                refine x_iload rfl rfl ?_
                refine x_iload_n rfl rfl ?_
                refine x_icmpN_ge rfl (fun c79 => ?_) (fun c79 => ?_)
                · exact absurd c79 (by first | decide | omega)
                refine x_iload rfl rfl ?_
                refine x_ifN_le rfl (fun c84 => ?_) (fun c84 => ?_)
                · exact absurd c84 (by first | decide | omega)
                refine x_aload_n rfl rfl ?_
                refine x_dup rfl rfl ?_
                refine x_getE (y := 22) rfl rfl rfl f2 ?_
                refine x_iconstN (q := 1) rfl ?_
                refine x_iaddN rfl ?_
                refine x_putI rfl rfl rfl rfl ?_
                skip
                refine ga_sum (d := d) (V := up V3 74 22 (nI (2400 + (i1 + 1)))) (k := 1) (nn := 3) hO hB (hFg.gc hG3) hj1 up_at ((up_at' (by omega)).trans f4) f5 hl (by omega) hs2 (fun V4 v1 sa1 g1 g2 g3 g4 g5 g6 => ?_)
                have hG4 := g1.gc (hFg.gc hG3)
                have hj2 : i2 < N := Nat.lt_of_not_le (fun z => by have := hO.2.2.1 i2 z; omega)
                have hFh : FrG1 V4 (up V4 74 22 (nI (2400 + (i2 + 1)))) := fun a k q => up_ne2 (by omega)
                refine x_iload rfl rfl ?_
                refine x_iload_n rfl rfl ?_
                refine x_icmpN_ge rfl (fun c79 => ?_) (fun c79 => ?_)
                · exact absurd c79 (by first | decide | omega)
                refine x_iload rfl rfl ?_
                refine x_ifN_le rfl (fun c84 => ?_) (fun c84 => ?_)
                · exact absurd c84 (by first | decide | omega)
                refine x_aload_n rfl rfl ?_
                refine x_dup rfl rfl ?_
                refine x_getE (y := 22) rfl rfl rfl g2 ?_
                refine x_iconstN (q := 1) rfl ?_
                refine x_iaddN rfl ?_
                refine x_putI rfl rfl rfl rfl ?_
                skip
                refine ga_sum (d := d) (V := up V4 74 22 (nI (2400 + (i2 + 1)))) (k := 2) (nn := 3) hO hB (hFh.gc hG4) hj2 up_at ((up_at' (by omega)).trans g4) g5 hl (by omega) hs3 (fun V5 v2 sa2 q1 q2 q3 q4 q5 q6 => ?_)
                have hG5 := q1.gc (hFh.gc hG4)
                have hF5 : FrG1 V2 V5 := (f1.trans hFg).trans ((g1.trans hFh).trans q1)
                refine x_iload rfl rfl ?_
                refine x_iload_n rfl rfl ?_
                refine x_icmpN_ge rfl (fun c79 => ?_) (fun c79 => ?_)
                rotate_left
                · exact absurd c79 (by first | decide | omega)
                skip
                refine ga_tail (d := d) hO hB hG5 q3 q2 hl hpt (fun V6 ti r1 r2 r3 r4 r5 r6 r7 s1 s2 s3 s4 => hP V6 _ sa2 ti (hF.trans (hF5.ga.trans r1.ga)) r2 r3 r4 ?_ ?_ q5 r5 r6 (fun hl1 => ⟨r7 hl1, ?_, ?_, ?_⟩))
                · rw [r1 74 45 (by omega), hF5 74 45 (by omega), h45, c21, s1]; rfl
                · rw [r1 74 46 (by omega)]; exact q4
                · have ex : xO c (envO K ran lat) = x1 (envO K ran lat) := by unfold xO; rw [if_neg (by omega), s2]
                  have ey : yO c (envO K ran lat) = x2 (envO K ran lat) := by unfold yO; rw [if_pos s1, s3]
                  have ez : zO c (envO K ran lat) = x3 (envO K ran lat) := by unfold zO; rw [if_pos s1, s4]
                  rw [ex, ey, ez]
                  have t1 := (f6 hl1).1
                  have t2 := (g6 hl1).1
                  have t3 := (q6 hl1).1
                  rw [t3, t2, t1]
                  exact ⟨fun z => ⟨z.1.1.2, z.1.2, z.2⟩, fun z => ⟨⟨⟨rfl, z.1⟩, z.2.1⟩, z.2.2⟩⟩
                · intro _ a ha
                  have ex : xO c (envO K ran lat) = x1 (envO K ran lat) := by unfold xO; rw [if_neg (by omega), s2]
                  rw [ex] at ha
                  have t := (f6 hl1).2 a ha
                  rw [up_at' (by omega), up_at' (by omega), up_at]
                  exact t
                · intro _
                  refine ⟨fun a ha => ?_, fun a ha => ?_⟩
                  · have ey : yO c (envO K ran lat) = x2 (envO K ran lat) := by unfold yO; rw [if_pos s1, s3]
                    rw [ey] at ha
                    have t := (g6 hl1).2 a ha
                    rw [up_at' (by omega), up_at]
                    exact t
                  · have ez : zO c (envO K ran lat) = x3 (envO K ran lat) := by unfold zO; rw [if_pos s1, s4]
                    rw [ez] at ha
                    have t := (q6 hl1).2 a ha
                    rw [up_at]
                    exact t
              · have e3 := e2.trans (if_neg k3)
                exact absurd (congrArg Prod.fst (e3.symm.trans hp)) k3
            · rw [if_neg c23] at e2
              exact absurd (congrArg Prod.fst (e2.symm.trans hp)) (by show ¬ 0 = 1; omega)
          · have e2 := e1.trans (if_neg k2)
            exact absurd (congrArg Prod.fst (e2.symm.trans hp)) k2
        · rw [if_neg c22] at e1
          exact absurd (congrArg Prod.fst (e1.symm.trans hp)) (by show ¬ 0 = 1; omega)
      · have e1 := e.trans (if_neg k1)
        exact absurd (congrArg Prod.fst (e1.symm.trans hp)) k1
    · by_cases c24 : tc i = 24 ∨ tc i = 25
      · have hin : i < N := Nat.lt_of_not_le (fun z => by have := hO.2.2.1 i z; omega)
        have e : pOrdC tc tv i p = pcb (pSum true tc tv (i + 1) p) (fun i1 p1 x => pTimes tc tv i1 p1 (tc i - 23) x dz dz) := by
          unfold pOrdC
          rw [if_neg c21, if_pos c24]
        cases hs1 : pSum true tc tv (i + 1) p with
        | mk w1 t1 =>
        obtain ⟨i1, p1, x1⟩ := t1
        rw [hs1] at e
        by_cases k1 : w1 = 1
        · subst k1
          have e1 := e.trans (if_pos (c := (1 : Nat) = 1) rfl)
          dsimp only at e1
          have hpt : pTimes tc tv i1 p1 (tc i - 23) x1 dz dz = (1, i', p', c) := e1.symm.trans hp
          refine x_aload_n rfl rfl ?_
          refine x_getE (y := 45) rfl rfl rfl h45 ?_
          refine x_bipushN (q := 26) rfl ?_
          refine x_icmpN_ne rfl (fun c51 => ?_) (fun c51 => ?_)
          rotate_left
          · exact absurd c51 (by first | decide | omega)
          refine x_aload_n rfl rfl ?_
          refine x_getE (y := 45) rfl rfl rfl h45 ?_
          refine x_bipushN (q := 21) rfl ?_
          refine x_icmpN_ne rfl (fun c64 => ?_) (fun c64 => ?_)
          rotate_left
          · exact absurd c64 (by first | decide | omega)
          refine x_iconstN (q := 1) rfl ?_
          refine x_istore_n (ls' := [_, _, _, _, _]) rfl rfl rfl ?_
          refine x_iconstN (q := 0) rfl ?_
          refine x_istore (ls' := [_, _, _, _, _]) rfl rfl rfl ?_
          skip
          refine x_iload rfl rfl ?_
          refine x_iload_n rfl rfl ?_
          refine x_icmpN_ge rfl (fun c79 => ?_) (fun c79 => ?_)
          · exact absurd c79 (by first | decide | omega)
          refine x_iload rfl rfl ?_
          refine x_ifN_le rfl (fun c84 => ?_) (fun c84 => ?_)
          rotate_left
          · exact absurd c84 (by first | decide | omega)
          skip
          refine ga_sum (d := d) (k := 0) (nn := 1) hO hB hG hin h22 h46 (by omega) hl (by omega) hs1 (fun V3 v0 sa0 f1 f2 f3 f4 f5 f6 => ?_)
          have hG3 := f1.gc hG
          refine x_iload rfl rfl ?_
          refine x_iload_n rfl rfl ?_
          refine x_icmpN_ge rfl (fun c79 => ?_) (fun c79 => ?_)
          rotate_left
          · exact absurd c79 (by first | decide | omega)
          skip
          refine ga_tail (d := d) hO hB hG3 f3 f2 hl hpt (fun V6 ti r1 r2 r3 r4 r5 r6 r7 s1 s2 s3 s4 => hP V6 _ sa0 ti (hF.trans (f1.ga.trans r1.ga)) r2 r3 r4 ?_ ?_ f5 r5 r6 (fun hl1 => ⟨r7 hl1, ?_, ?_, fun z => absurd z (by omega)⟩))
          · rw [r1 74 45 (by omega), f1 74 45 (by omega), h45, s1]
            unfold hdO
            rw [if_neg (by omega), show tc i - 23 + 23 = tc i by omega]
          · rw [r1 74 46 (by omega)]; exact f4
          · have ex : xO c (envO K ran lat) = x1 (envO K ran lat) := by unfold xO; rw [if_neg (by omega), s2]
            have ey : yO c (envO K ran lat) = some 0 := by unfold yO; rw [if_neg (by omega)]
            have ez : zO c (envO K ran lat) = some 0 := by unfold zO; rw [if_neg (by omega)]
            rw [ex, ey, ez, (f6 hl1).1]
            exact ⟨fun z => ⟨z.2, (fun w => by cases w), (fun w => by cases w)⟩, fun z => ⟨rfl, z.1⟩⟩
          · intro _ a ha
            have ex : xO c (envO K ran lat) = x1 (envO K ran lat) := by unfold xO; rw [if_neg (by omega), s2]
            rw [ex] at ha
            have t := (f6 hl1).2 a ha
            rw [up_at]
            exact t
        · have e1 := e.trans (if_neg k1)
          exact absurd (congrArg Prod.fst (e1.symm.trans hp)) k1
      · by_cases c26 : tc i = 26
        · have hin : i < N := Nat.lt_of_not_le (fun z => by have := hO.2.2.1 i z; omega)
          have e : pOrdC tc tv i p = pTimes tc tv (i + 1) p 3 dz dz dz := by
            unfold pOrdC
            rw [if_neg c21, if_neg c24, if_pos c26]
          have hpt : pTimes tc tv (i + 1) p 3 dz dz dz = (1, i', p', c) := e.symm.trans hp
          refine x_aload_n rfl rfl ?_
          refine x_getE (y := 45) rfl rfl rfl h45 ?_
          refine x_bipushN (q := 26) rfl ?_
          refine x_icmpN_ne rfl (fun c51 => ?_) (fun c51 => ?_)
          · exact absurd c51 (by first | decide | omega)
          refine x_iconstN (q := 0) rfl ?_
          refine x_goto rfl ?_
          refine x_istore_n (ls' := [_, _, _, _, _]) rfl rfl rfl ?_
          refine x_iconstN (q := 0) rfl ?_
          refine x_istore (ls' := [_, _, _, _, _]) rfl rfl rfl ?_
          skip
          refine x_iload rfl rfl ?_
          refine x_iload_n rfl rfl ?_
          refine x_icmpN_ge rfl (fun c79 => ?_) (fun c79 => ?_)
          rotate_left
          · exact absurd c79 (by first | decide | omega)
          skip
          refine ga_tail (d := d) hO hB hG hin h22 hl hpt (fun V6 ti r1 r2 r3 r4 r5 r6 r7 s1 s2 s3 s4 => hP V6 _ 1 ti (hF.trans r1.ga) r2 r3 r4 ?_ ?_ (by omega) r5 r6 (fun hl1 => ⟨r7 hl1, ?_, fun z => absurd s1 z, fun z => absurd z (by omega)⟩))
          · rw [r1 74 45 (by omega), h45, c26, s1]; rfl
          · rw [r1 74 46 (by omega)]; exact h46
          · have ex : xO c (envO K ran lat) = some 0 := by unfold xO; rw [if_pos s1]
            have ey : yO c (envO K ran lat) = some 0 := by unfold yO; rw [if_neg (by omega)]
            have ez : zO c (envO K ran lat) = some 0 := by unfold zO; rw [if_neg (by omega)]
            rw [ex, ey, ez]
            exact ⟨fun _ => ⟨(fun w => by cases w), (fun w => by cases w), (fun w => by cases w)⟩, fun _ => rfl⟩
        · have e : pOrdC tc tv i p = (0, i, p, 0, 1, dz, dz, dz, 0, dz) := by
            unfold pOrdC
            rw [if_neg c21, if_neg c24, if_neg c26]
          exact absurd (congrArg Prod.fst (e.symm.trans hp)) (by show ¬ 0 = 1; omega)
  have hG1 : GcS K N ran lat (up (up (up V 74 25 (nI 1)) 74 23 (nI (2400 + N))) 74 22 (nI (2400 + i))) := by
    refine ⟨?_, ?_, ?_, ?_, ?_⟩
    · rw [up_ne (by omega), up_ne (by omega), up_ne (by omega)]; exact hM
    · rw [up_at' (by omega), up_at]
    · rw [up_at' (by omega), up_at' (by omega), up_at]
    · rw [up_at' (by omega), up_at' (by omega), up_at' (by omega)]; exact h27
    · rw [up_at' (by omega), up_at' (by omega), up_at' (by omega)]; exact h28
  refine x_aload_n rfl rfl ?_
  refine x_iconstN (q := 1) rfl ?_
  refine x_putZ rfl rfl rfl rfl (by first | exact Or.inl rfl | exact Or.inr rfl) ?_
  refine x_aload_n rfl rfl ?_
  refine x_iload_n rfl rfl ?_
  refine x_putI rfl rfl rfl rfl ?_
  refine x_aload_n rfl rfl ?_
  refine x_aload_n rfl rfl ?_
  refine x_getE (y := 43) rfl rfl rfl ((up_at' (by omega)).trans ((up_at' (by omega)).trans h43)) ?_
  refine x_putI rfl rfl rfl rfl ?_
  refine x_aload_n rfl rfl ?_
  refine x_aload_n rfl rfl ?_
  refine x_aload_n rfl rfl ?_
  refine x_getE (y := 22) rfl rfl rfl up_at ?_
  refine x_callV (M' := mi216) (As := [_]) (bc1 := 0) (bs1 := 0) (bc2 := 0) (bs2 := 0) rfl rfl rfl rfl ok216 rfl rfl (by decide) rfl rfl rfl rfl rfl rfl ?_
  refine m_codeAt (hG1.ev hO) (by omega) ?_
  refine x_putI rfl rfl rfl rfl ?_
  refine x_aload_n rfl rfl ?_
  refine x_dup rfl rfl ?_
  refine x_getE (y := 22) rfl rfl rfl ((up_at' (by omega)).trans up_at) ?_
  refine x_iconstN (q := 1) rfl ?_
  refine x_iaddN rfl ?_
  refine x_putI rfl rfl rfl rfl ?_
  refine x_aload_n rfl rfl ?_
  refine x_iconstN (q := 1) rfl ?_
  refine x_putZ rfl rfl rfl rfl (by first | exact Or.inl rfl | exact Or.inr rfl) ?_
  skip
  refine hmain _ ?_ ?_ ?_ ?_ (fun a k q => by rw [up_ne2 (by omega), up_ne2 (by omega), up_ne2 (by omega), up_ne2 (by omega), up_ne2 (by omega), up_ne2 (by omega)])
  · obtain ⟨b1_, b2_, b3_, b4_, b5_⟩ := hG1
    refine ⟨?_, ?_, ?_, ?_, ?_⟩
    · rw [up_ne (by omega), up_ne (by omega), up_ne (by omega)]; exact b1_
    · rw [up_at' (by omega), up_at' (by omega), up_at' (by omega)]; exact b2_
    · rw [up_at' (by omega), up_at' (by omega), up_at' (by omega)]; exact b3_
    · rw [up_at' (by omega), up_at' (by omega), up_at' (by omega)]; exact b4_
    · rw [up_at' (by omega), up_at' (by omega), up_at' (by omega)]; exact b5_
  · rw [up_at' (by omega), up_at]; rfl
  · rw [up_at' (by omega), up_at' (by omega), up_at]
  · rw [up_at]
end GoA2
