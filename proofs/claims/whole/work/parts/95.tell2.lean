/-! ===== the model tells a law ===== -/
set_option maxRecDepth 20000 in
theorem t_sem {kd flag hd hi ho b2 b1_ : Nat} {x test : Den} {e : Env} {v told : Int64} {t' : Int64} {tm : Nat} {y z : Den} (hR : Rel 1 0 (if kd = 2 then some 1 else x e) v b1_) (hH : (ho = 1 ∧ b2 = 0) ↔ (flag = 0 ∨ soB (test e) = true)) (ht : t'.toInt = (if kd + 1 = hd ∧ ho = 1 ∧ b2 = 0 ∧ b1_ = 0 then clp v.toInt hi else told.toInt)) : t'.toInt = tS hd hi e told.toInt (kd, tm, x, y, z, flag, test) := by
  obtain ⟨hs, hn⟩ := hR.1 rfl rfl
  rw [ht]
  show _ = if kd + 1 = hd ∧ (flag = 0 ∨ soB (test e) = true) then (if kd = 2 then clp 1 hi else (x e).elim told.toInt (fun v => clp v hi)) else told.toInt
  by_cases c : kd + 1 = hd ∧ (flag = 0 ∨ soB (test e) = true)
  · rw [if_pos c]
    have h2 := hH.mpr c.2
    by_cases k2 : kd = 2
    · rw [if_pos k2] at hs hn
      obtain ⟨q1, q2, q3, q4⟩ := hs 1 rfl
      rw [if_pos ⟨c.1, h2.1, h2.2, q4⟩, if_pos k2, q1]
    · rw [if_neg k2] at hs hn ⊢
      cases hx : x e with
      | none =>
        have := hn hx
        rw [if_neg (fun z => by have := z.2.2.2; omega)]
        rfl
      | some a =>
        obtain ⟨q1, q2, q3, q4⟩ := hs a hx
        rw [if_pos ⟨c.1, h2.1, h2.2, q4⟩, q1]
        rfl
  · rw [if_neg c, if_neg (fun z => c ⟨z.1, hH.mp ⟨z.2.1, z.2.2.1⟩⟩)]
section Tell2
variable {d : Nat} {V0 : VIT} {VL : VLT} {G : VRT} {P : Post} {ext : HL} {K : KT} {B n : Nat} {tc tv : Nat → Nat} {e : Env} {hd hi : Nat} {y2 y3 y4 y5 y6 : Value} {y8 : Int32}
set_option maxRecDepth 20000 in
theorem tl_if {V : VIT} {j pp kd tm b1_ : Nat} {x y z : Den} {v told : Int64} {z14 z15 : Value} (hE : EvS K B n tc V0) (hT0 : Ts0 V0 VL G ext B n e false tc tv PFuel) (hhd : hd ≤ 3) (hkd : kd ≤ 2) (hhi : hi ≤ 1000) (hj : j ≤ n) (hF : FrE V0 V) (hA : At B j b1_ V) (hR : Rel 1 0 (if kd = 2 then some 1 else x e) v b1_) (hr : (pIf false tc tv j pp kd tm x y z).1 = 1) (hP : ∀ (V' : VIT) (t' : Int64) (z11 z12 z13 z14 z15 : Value), FrE V0 V' → V' 74 22 = nI (B + (pIf false tc tv j pp kd tm x y z).2.1) → (pIf false tc tv j pp kd tm x y z).2.1 ≤ n → t'.toInt = tS hd hi e told.toInt (pIf false tc tv j pp kd tm x y z).2.2.2 → Ex (d + 41) mi227 300 [.ref 74, .int (nI hd), y2, y3, y4, y5, y6, .int (nI hi), .int y8, .long t', .retAddr 8, z11, z12, z13, z14, z15] [] (LY ++ ext) V' VL (vr G) 0 0 P) : Ex (d + 41) mi227 213 [.ref 74, .int (nI hd), y2, y3, y4, y5, y6, .int (nI hi), .int y8, .long told, .retAddr 8, .int (nI (kd + 1)), .long v, .retAddr 8, z14, z15] [] (LY ++ ext) V VL (vr G) 0 0 P := by
  have hE1 := hE.fr hF
  have hn4 := hE.2.2.2.1
  have hB4 := hE.2.2.1
  have hb1 := hA.2.2
  have hEb : EvS K B n tc (up V 74 24 (nI 0)) := hE.fr hF.br
  have hg0 : up V 74 24 (nI 0) 74 22 = nI (B + j) := (up_at' (by omega)).trans hA.1
  by_cases c : tc j = 4
  · have ep : pIf false tc tv j pp kd tm x y z = if (pTest false tc tv (j + 1) pp).1 = 1 then (1, (pTest false tc tv (j + 1) pp).2.1, (pTest false tc tv (j + 1) pp).2.2.1, kd, tm, x, y, z, 1, (pTest false tc tv (j + 1) pp).2.2.2) else ((pTest false tc tv (j + 1) pp).1, (pTest false tc tv (j + 1) pp).2.1, (pTest false tc tv (j + 1) pp).2.2.1, kd, tm, x, y, z, 1, dz) := if_pos c
    by_cases ct : (pTest false tc tv (j + 1) pp).1 = 1
    · rw [if_pos ct] at ep
      rw [ep] at hP
      have hjn : j < n := Nat.lt_of_not_le (fun q => by have := hE.2.2.2.2.2.1 j q; omega)
      obtain ⟨o1, o2, o3⟩ := prs_ok (o := false) (tv := tv) hE.2.2.2.2.2.1 PFuel 0 0 (j + 1) pp dz hjn ct
      refine x_aload_n rfl rfl ?_
      refine x_getE (y := 24) rfl rfl rfl (hA.2.1) ?_
      refine x_istore (ls' := [_, _, _, _, _, _, _, _, _, _, _, _, _, _, _, _]) rfl rfl rfl ?_
      refine x_aload_n rfl rfl ?_
      refine x_iconstN (q := 0) rfl ?_
      refine x_putZ rfl rfl rfl rfl (by first | exact Or.inl rfl | exact Or.inr rfl) ?_
      refine x_aload_n rfl rfl ?_
      refine x_iconstN (q := 4) rfl ?_
      refine x_callV (M' := mi217) (As := [_]) (bc1 := 0) (bs1 := 0) (bc2 := 0) (bs2 := 0) rfl rfl rfl rfl ok217 rfl rfl (by decide) rfl rfl rfl rfl rfl rfl ?_
      refine m_passes_yes hEb hg0 (by omega) c (fun _ => ?_)
      refine x_ifN_eq rfl (fun c229 => ?_) (fun c229 => ?_)
      · exact absurd c229 (by first | decide | omega)
      refine x_aload_n rfl rfl ?_
      refine x_iconstN (q := 1) rfl ?_
      refine x_callV (M' := mi223) (As := [_]) (bc1 := 0) (bs1 := 0) (bc2 := 0) (bs2 := 0) rfl rfl rfl rfl ok223 rfl rfl (by decide) rfl rfl rfl rfl rfl rfl ?_
      refine hT0 0 (j + 1) pp dz 1 0 _ (d + 40) (by omega) (by omega) hjn (by omega) hF.br.go ⟨up_at, (up_at' (by omega)).trans up_at, by omega⟩ ct _ (fun tv_ V2 b2 hF2 hA2 hR2 => ?_)
      skip
      have hv1 := hR2.1
      obtain ⟨hs2, hn2⟩ := hR2.2.1 rfl rfl
      have hH : (tv_ = 1 ∧ b2 = 0) ↔ ((1 : Nat) = 0 ∨ soB ((pTest false tc tv (j + 1) pp).2.2.2 e) = true) := by
        have hpt : (pTest false tc tv (j + 1) pp).2.2.2 = (prs false tc tv PFuel 0 0 (j + 1) pp dz).2.2.2 := rfl
        rw [hpt]
        cases hx : (prs false tc tv PFuel 0 0 (j + 1) pp dz).2.2.2 e with
        | none =>
          have := hn2 hx
          exact ⟨fun q => by omega, fun q => by rcases q with q | q; omega; exact absurd q (by decide)⟩
        | some a =>
          obtain ⟨q1, q2⟩ := hs2 a hx
          show _ ↔ _ ∨ decide (a ≠ 0) = true
          rw [decide_eq_true_eq]
          omega
      rcases (show tv_ = 0 ∨ tv_ = 1 by omega) with rfl | rfl
      · refine x_ifN_eq rfl (fun c237 => ?_) (fun c237 => ?_)
        rotate_left
        · exact absurd c237 (by first | decide | omega)
        refine x_iconstN (q := 0) rfl ?_
        refine x_istore (ls' := [_, _, _, _, _, _, _, _, _, _, _, _, _, _, _, _]) rfl rfl rfl ?_
        exact t_C hhd (by omega) hhi hb1 hA2.2.1 hA2.2.2 (by omega) (fun t' ht => hP V2 t' _ _ _ _ _ hF2 hA2.1 o2 (t_sem hR hH ht))
      · refine x_ifN_eq rfl (fun c237 => ?_) (fun c237 => ?_)
        · exact absurd c237 (by first | decide | omega)
        refine x_iconstN (q := 1) rfl ?_
        refine x_goto rfl ?_
        refine x_istore (ls' := [_, _, _, _, _, _, _, _, _, _, _, _, _, _, _, _]) rfl rfl rfl ?_
        exact t_C hhd (by omega) hhi hb1 hA2.2.1 hA2.2.2 (by omega) (fun t' ht => hP V2 t' _ _ _ _ _ hF2 hA2.1 o2 (t_sem hR hH ht))
    · rw [if_neg ct] at ep
      rw [ep] at hr
      exact absurd hr ct
  · have ep : pIf false tc tv j pp kd tm x y z = (1, j, pp, kd, tm, x, y, z, 0, dz) := if_neg c
    rw [ep] at hP
    refine x_aload_n rfl rfl ?_
    refine x_getE (y := 24) rfl rfl rfl (hA.2.1) ?_
    refine x_istore (ls' := [_, _, _, _, _, _, _, _, _, _, _, _, _, _, _, _]) rfl rfl rfl ?_
    refine x_aload_n rfl rfl ?_
    refine x_iconstN (q := 0) rfl ?_
    refine x_putZ rfl rfl rfl rfl (by first | exact Or.inl rfl | exact Or.inr rfl) ?_
    refine x_aload_n rfl rfl ?_
    refine x_iconstN (q := 4) rfl ?_
    refine x_callV (M' := mi217) (As := [_]) (bc1 := 0) (bs1 := 0) (bc2 := 0) (bs2 := 0) rfl rfl rfl rfl ok217 rfl rfl (by decide) rfl rfl rfl rfl rfl rfl ?_
    refine m_passes_no hEb hg0 (by omega) (by omega) c ?_
    refine x_ifN_eq rfl (fun c229 => ?_) (fun c229 => ?_)
    rotate_left
    · exact absurd c229 (by first | decide | omega)
    refine x_iconstN (q := 1) rfl ?_
    refine x_goto rfl ?_
    refine x_istore (ls' := [_, _, _, _, _, _, _, _, _, _, _, _, _, _, _, _]) rfl rfl rfl ?_
    exact t_C (ho := 1) hhd (by omega) hhi hb1 up_at (by omega) (by omega) (fun t' ht => hP _ t' _ _ _ _ _ hF.br hg0 hj (t_sem (flag := 0) hR ⟨fun _ => Or.inl rfl, fun _ => ⟨rfl, rfl⟩⟩ ht))
set_option maxRecDepth 20000 in
theorem tl_clause {V : VIT} {i pp : Nat} {told : Int64} {z11 z12 z13 z14 z15 : Value} (hE : EvS K B n tc V0) (hS5 : Sm5 V0 VL G ext B n e false tc tv PFuel) (hT0 : Ts0 V0 VL G ext B n e false tc tv PFuel) (hhd : hd ≤ 3) (hhi : hi ≤ 1000) (hF : FrE V0 V) (hg : V 74 22 = nI (B + i)) (hr : (pLawC tc tv i pp).1 = 1) (hP : ∀ (V' : VIT) (t' : Int64) (z11 z12 z13 z14 z15 : Value), FrE V0 V' → V' 74 22 = nI (B + (pLawC tc tv i pp).2.1) → (pLawC tc tv i pp).2.1 ≤ n → t'.toInt = tS hd hi e told.toInt (pLawC tc tv i pp).2.2.2 → Ex (d + 41) mi227 300 [.ref 74, .int (nI hd), y2, y3, y4, y5, y6, .int (nI hi), .int y8, .long t', .retAddr 8, z11, z12, z13, z14, z15] [] (LY ++ ext) V' VL (vr G) 0 0 P) : Ex (d + 41) mi227 160 [.ref 74, .int (nI hd), y2, y3, y4, y5, y6, .int (nI hi), .int y8, .long told, .retAddr 8, z11, z12, z13, z14, z15] [] (LY ++ ext) V VL (vr G) 0 0 P := by
  have hE1 := hE.fr hF
  have hn4 := hE.2.2.2.1
  have hB4 := hE.2.2.1
  have hge : V 74 23 = nI (B + n) := hE1.2.1
  have h7c := hE.2.2.2.2.2.2 i
  have hg0 : up V 74 24 (nI 0) 74 22 = nI (B + i) := (up_at' (by omega)).trans hg
  by_cases c1 : tc i = 1 ∨ tc i = 2
  · have hin : i < n := Nat.lt_of_not_le (fun q => by have := hE.2.2.2.2.2.1 i q; omega)
    have ep : pLawC tc tv i pp = if (pSum false tc tv (i + 1) pp).1 = 1 then pIf false tc tv (pSum false tc tv (i + 1) pp).2.1 (pSum false tc tv (i + 1) pp).2.2.1 (tc i - 1) 1 (pSum false tc tv (i + 1) pp).2.2.2 dz dz else ((pSum false tc tv (i + 1) pp).1, (pSum false tc tv (i + 1) pp).2.1, (pSum false tc tv (i + 1) pp).2.2.1, 0, 1, dz, dz, dz, 0, dz) := if_pos c1
    by_cases cs : (pSum false tc tv (i + 1) pp).1 = 1
    · rw [if_pos cs] at ep
      rw [ep] at hP hr
      obtain ⟨o1, o2, o3⟩ := prs_ok (o := false) (tv := tv) hE.2.2.2.2.2.1 PFuel 5 0 (i + 1) pp dz hin cs
      refine x_aload_n rfl rfl ?_
      refine x_getE (y := 22) rfl rfl rfl hg ?_
      refine x_aload_n rfl rfl ?_
      refine x_getE (y := 23) rfl rfl rfl hge ?_
      refine x_icmpN_ge rfl (fun c168 => ?_) (fun c168 => ?_)
      · exact absurd c168 (by first | decide | omega)
      refine x_aload_n rfl rfl ?_
      refine x_aload_n rfl rfl ?_
      refine x_getE (y := 22) rfl rfl rfl hg ?_
      refine x_callV (M' := mi216) (As := [_]) (bc1 := 0) (bs1 := 0) (bc2 := 0) (bs2 := 0) rfl rfl rfl rfl ok216 rfl rfl (by decide) rfl rfl rfl rfl rfl rfl ?_
      refine m_codeAt hE1 (by omega) ?_
      refine x_istore (ls' := [_, _, _, _, _, _, _, _, _, _, _, _, _, _, _, _]) rfl rfl rfl ?_
      refine x_aload_n rfl rfl ?_
      refine x_iconstN (q := 0) rfl ?_
      refine x_putZ rfl rfl rfl rfl (by first | exact Or.inl rfl | exact Or.inr rfl) ?_
      refine x_aload_n rfl rfl ?_
      refine x_dup rfl rfl ?_
      refine x_getE (y := 22) rfl rfl rfl hg0 ?_
      refine x_iconstN (q := 1) rfl ?_
      refine x_iaddN rfl ?_
      refine x_putI rfl rfl rfl rfl ?_
      refine x_iload rfl rfl ?_
      refine x_iconstN (q := 3) rfl ?_
      refine x_icmpN_ne rfl (fun c199 => ?_) (fun c199 => ?_)
      rotate_left
      · exact absurd c199 (by first | decide | omega)
      refine x_aload_n rfl rfl ?_
      refine x_iconstN (q := 1) rfl ?_
      refine x_callV (M' := mi219) (As := [_]) (bc1 := 0) (bs1 := 0) (bc2 := 0) (bs2 := 0) rfl rfl rfl rfl ok219 rfl rfl (by decide) rfl rfl rfl rfl rfl rfl ?_
      refine hS5 0 (i + 1) pp dz 1 0 _ (d + 40) (by omega) (by omega) hin (by omega) hF.br.go ⟨up_at, (up_at' (by omega)).trans up_at, by omega⟩ cs _ (fun v V1 b1_ hF1 hA1 hR1 => ?_)
      refine x_lstore (ls' := [_, _, _, _, _, _, _, _, _, _, _, _, _, _, _, _]) rfl rfl rfl ?_
      skip
      have ek : nI (tc i) = nI (tc i - 1 + 1) := by rw [show tc i - 1 + 1 = tc i by omega]
      rw [ek]
      exact tl_if hE hT0 hhd (by omega) hhi o2 hF1 hA1 (by rw [if_neg (by omega)]; exact hR1) hr hP
    · rw [if_neg cs] at ep
      rw [ep] at hr
      exact absurd hr cs
  · by_cases c3 : tc i = 3
    · have hin : i < n := Nat.lt_of_not_le (fun q => by have := hE.2.2.2.2.2.1 i q; omega)
      have ep : pLawC tc tv i pp = pIf false tc tv (i + 1) pp 2 1 dz dz dz := by
        unfold pLawC
        rw [if_neg c1, if_pos c3]
      rw [ep] at hP hr
      refine x_aload_n rfl rfl ?_
      refine x_getE (y := 22) rfl rfl rfl hg ?_
      refine x_aload_n rfl rfl ?_
      refine x_getE (y := 23) rfl rfl rfl hge ?_
      refine x_icmpN_ge rfl (fun c168 => ?_) (fun c168 => ?_)
      · exact absurd c168 (by first | decide | omega)
      refine x_aload_n rfl rfl ?_
      refine x_aload_n rfl rfl ?_
      refine x_getE (y := 22) rfl rfl rfl hg ?_
      refine x_callV (M' := mi216) (As := [_]) (bc1 := 0) (bs1 := 0) (bc2 := 0) (bs2 := 0) rfl rfl rfl rfl ok216 rfl rfl (by decide) rfl rfl rfl rfl rfl rfl ?_
      refine m_codeAt hE1 (by omega) ?_
      rw [c3]
      refine x_istore (ls' := [_, _, _, _, _, _, _, _, _, _, _, _, _, _, _, _]) rfl rfl rfl ?_
      refine x_aload_n rfl rfl ?_
      refine x_iconstN (q := 0) rfl ?_
      refine x_putZ rfl rfl rfl rfl (by first | exact Or.inl rfl | exact Or.inr rfl) ?_
      refine x_aload_n rfl rfl ?_
      refine x_dup rfl rfl ?_
      refine x_getE (y := 22) rfl rfl rfl hg0 ?_
      refine x_iconstN (q := 1) rfl ?_
      refine x_iaddN rfl ?_
      refine x_putI rfl rfl rfl rfl ?_
      refine x_iload rfl rfl ?_
      refine x_iconstN (q := 3) rfl ?_
      refine x_icmpN_ne rfl (fun c199 => ?_) (fun c199 => ?_)
      · exact absurd c199 (by first | decide | omega)
      refine x_lconst rfl ?_
      refine x_goto rfl ?_
      refine x_lstore (ls' := [_, _, _, _, _, _, _, _, _, _, _, _, _, _, _, _]) rfl rfl rfl ?_
      exact tl_if (kd := 2) hE hT0 hhd (by omega) hhi hin hF.br.go ⟨up_at, (up_at' (by omega)).trans up_at, by omega⟩ (by rw [if_pos rfl]; exact ⟨fun _ _ => ⟨fun a ha => by cases ha; exact ⟨rfl, by omega, by omega, rfl⟩, fun z => (by cases z)⟩, fun z => by omega⟩) hr hP
    · have ep : (pLawC tc tv i pp).1 = 0 := by
        unfold pLawC
        rw [if_neg c1, if_neg c3]
      rw [ep] at hr
      exact absurd hr (by omega)
set_option maxRecDepth 20000 in
theorem tl_loop (hE : EvS K B n tc V0) (hS5 : Sm5 V0 VL G ext B n e false tc tv PFuel) (hT0 : Ts0 V0 VL G ext B n e false tc tv PFuel) (hhd : hd ≤ 3) (hhi : hi ≤ 1000) : ∀ (m i pp : Nat) (V : VIT) (told : Int64) (z11 z12 z13 z14 z15 : Value), FrE V0 V → V 74 22 = nI (B + i) → (pTxt false tc tv n m i pp).1 = 1 → (∀ (V' : VIT) (t' : Int64), FrE V0 V' → t'.toInt = (pTxt false tc tv n m i pp).2.2.foldl (tS hd hi e) told.toInt → P (some (.int t'.toInt32)) (LY ++ ext) V' VL (vr G)) → Ex (d + 41) mi227 160 [.ref 74, .int (nI hd), y2, y3, y4, y5, y6, .int (nI hi), .int y8, .long told, .retAddr 8, z11, z12, z13, z14, z15] [] (LY ++ ext) V VL (vr G) 0 0 P := by
  have hn4 := hE.2.2.2.1
  have hB4 := hE.2.2.1
  intro m
  induction m with
  | zero => exact fun i pp V told z11 z12 z13 z14 z15 hF hg hr => absurd hr (by show ¬ 0 = 1; omega)
  | succ m ih =>
    intro i pp V told z11 z12 z13 z14 z15 hF hg hr hP
    have et : pTxt false tc tv n (m + 1) i pp = (if (pLawC tc tv i pp).1 = 1 then (if (pLawC tc tv i pp).2.1 = n then (1, n, [(pLawC tc tv i pp).2.2.2]) else if tc (pLawC tc tv i pp).2.1 = 159 then ((pTxt false tc tv n m ((pLawC tc tv i pp).2.1 + 1) (pLawC tc tv i pp).2.2.1).1, (pTxt false tc tv n m ((pLawC tc tv i pp).2.1 + 1) (pLawC tc tv i pp).2.2.1).2.1, (pLawC tc tv i pp).2.2.2 :: (pTxt false tc tv n m ((pLawC tc tv i pp).2.1 + 1) (pLawC tc tv i pp).2.2.1).2.2) else (0, (pLawC tc tv i pp).2.1, [])) else ((pLawC tc tv i pp).1, (pLawC tc tv i pp).2.1, [])) := rfl
    rw [et] at hr hP
    by_cases c1 : (pLawC tc tv i pp).1 = 1
    · rw [if_pos c1] at hr hP
      refine tl_clause hE hS5 hT0 hhd hhi hF hg c1 (fun V1 t1 z11 z12 z13 z14 z15 hF1 hg1 hle ht1 => ?_)
      by_cases c2 : (pLawC tc tv i pp).2.1 = n
      · rw [if_pos c2] at hP
        have hge : V1 74 23 = nI (B + n) := (hE.fr hF1).2.1
        rw [c2] at hg1
        refine x_aload_n rfl rfl ?_
        refine x_dup rfl rfl ?_
        refine x_getE (y := 22) rfl rfl rfl hg1 ?_
        refine x_iconstN (q := 1) rfl ?_
        refine x_iaddN rfl ?_
        refine x_putI rfl rfl rfl rfl ?_
        refine x_goto rfl ?_
        refine x_aload_n rfl rfl ?_
        refine x_getE (y := 22) rfl rfl rfl up_at ?_
        refine x_aload_n rfl rfl ?_
        refine x_getE (y := 23) rfl rfl rfl ((up_at' (by omega)).trans hge) ?_
        refine x_icmpN_ge rfl (fun c168 => ?_) (fun c168 => ?_)
        rotate_left
        · exact absurd c168 (by first | decide | omega)
        refine x_lload rfl rfl ?_
        refine x_l2i rfl ?_
        refine x_iret rfl rfl ?_
        exact hP _ t1 hF1.go ht1
      · rw [if_neg c2] at hr hP
        by_cases c3 : tc (pLawC tc tv i pp).2.1 = 159
        · rw [if_pos c3] at hr hP
          refine x_aload_n rfl rfl ?_
          refine x_dup rfl rfl ?_
          refine x_getE (y := 22) rfl rfl rfl hg1 ?_
          refine x_iconstN (q := 1) rfl ?_
          refine x_iaddN rfl ?_
          refine x_putI rfl rfl rfl rfl ?_
          refine x_goto rfl ?_
          exact ih _ _ _ t1 _ _ _ _ _ hF1.go up_at hr (fun V' t' q1 q2 => hP V' t' q1 (by rw [q2, ht1]; rfl))
        · rw [if_neg c3] at hr
          exact absurd hr (by show ¬ 0 = 1; omega)
    · rw [if_neg c1] at hr
      exact absurd hr c1
end Tell2
