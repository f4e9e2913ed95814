/-! ===== the class hears; the model tells a clause ===== -/
set_option maxRecDepth 20000 in
theorem FrH.trans {V V1 V2 : VIT} (h : FrH V V1) (h1 : FrH V1 V2) : FrH V V2 := fun a k q1 q2 q3 => (h1 a k q1 q2 q3).trans (h a k q1 q2 q3)
section Hear3
variable {d : Nat} {V V0 : VIT} {VL : VLT} {G : VRT} {P : Post} {ext : HL} {K : KT} {p q dy mk wk : Nat}
set_option maxRecDepth 20000 in
theorem s_hear (hX : RW 3 K V) (hW : WF K) (hL : Laws K 13 (LY ++ ext) V (vr G)) (hp : p < K 93) (hq : q < 6) (hd4 : dy < 4) (hmk : mk < 16) (hwk : wk ≤ 1000000) (hP : ∀ V' : VIT, FrH V V' → HrAt (hearR K p q dy mk wk) V' → P none (LY ++ ext) V' VL (vr G)) : Ex (d + 2) mi17 0 (entL [.ref 43, .int (nI p), .int (nI q), .int (nI dy), .int (nI mk), .int (nI wk)] 11) [] (LY ++ ext) V VL (vr G) 0 0 P := by
  by_cases h0 : K 97 = 0
  · exact hear_none hX hW h0 hp hP
  · obtain ⟨t, ht⟩ : ∃ t, K 97 = t + 1 := ⟨K 97 - 1, by omega⟩
    have h6 := hW.n
    have h96 := hW.l6
    have h5 : K 97 ≤ K 96 := hW.2.2.2.2.1
    obtain ⟨b, b1, b2, b3, l1, l2, l3, l4, l5, L, cd, l6, l7, l8, l9, l10⟩ := hL t (by omega)
    have hX1 : RW 3 K (up (up V 43 3 (-1)) 43 5 0) := hX.same (fun a _ _ => by rw [up_ne (by omega), up_ne (by omega)])
    have hX2 : RW 3 K (up (up (up V 43 3 (-1)) 43 5 0) 43 4 (nI (K (39 + p)))) := hX1.same (fun a _ _ => by rw [up_ne (by omega)])
    have ek := pTxt_kind (tc := ktc K t) (tv := ktv K t) (n := K (98 + t)) 12 0 0
    have er : hearR K p q dy mk wk = (kcl K t).2.2.foldl (hS (lawE K p q dy (mk / 4) (mk % 4) wk)) (r0K K p) := by
      unfold hearR
      rw [if_neg h0, show K 97 - 1 = t by omega]
    rw [er] at hP
    refine x_aload_n rfl rfl ?_
    refine x_iconst rfl ?_
    refine x_putI rfl rfl rfl rfl ?_
    refine x_aload_n rfl rfl ?_
    refine x_iconst rfl ?_
    refine x_putZ rfl rfl rfl rfl (by first | exact Or.inl rfl | exact Or.inr rfl) ?_
    refine x_aload_n rfl rfl ?_
    refine x_aload_n rfl rfl ?_
    refine x_getR (u := .ref _) rfl rfl rfl rfl ?_
    refine x_iload_n rfl rfl ?_
    refine x_callV (M' := mi95) (As := [_]) (bc1 := 0) (bs1 := 0) (bc2 := 0) (bs2 := 0) rfl rfl rfl rfl ok95 rfl rfl (by decide) rfl rfl rfl rfl rfl rfl ?_
    refine s_hasPersonK hX1 ?_
    rw [hasF_in hp (by omega)]
    refine x_if_eq rfl (fun c19 => ?_) (fun c19 => ?_)
    · exact absurd c19 (by first | decide | omega)
    refine x_aload_n rfl rfl ?_
    refine x_getR (u := .ref _) rfl rfl rfl rfl ?_
    refine x_getR (u := .ref _) rfl rfl rfl rfl ?_
    refine x_iload_n rfl rfl ?_
    refine x_ialE (j := p) rfl rfl (rfl) (by omega) (hX1.firm hp) ?_
    refine x_goto rfl ?_
    refine x_putI rfl rfl rfl rfl ?_
    refine x_aload_n rfl rfl ?_
    refine x_getR (u := .ref _) rfl rfl rfl rfl ?_
    refine x_callV (M' := mi100) (As := []) (bc1 := 0) (bs1 := 0) (bc2 := 0) (bs2 := 0) rfl rfl rfl rfl ok100 rfl rfl (by decide) rfl rfl rfl rfl rfl rfl ?_
    refine s_lawInForce_some hX2 hW ht b1 ?_
    refine x_astore (ls' := [_, _, _, _, _, _, _, _, _, _, _]) rfl rfl rfl ?_
    refine x_aload rfl rfl ?_
    refine x_ifnull rfl ?_
    refine x_aload_n rfl rfl ?_
    refine x_getR (u := .ref _) rfl rfl rfl rfl ?_
    refine x_iload_n rfl rfl ?_
    refine x_callV (M' := mi95) (As := [_]) (bc1 := 0) (bs1 := 0) (bc2 := 0) (bs2 := 0) rfl rfl rfl rfl ok95 rfl rfl (by decide) rfl rfl rfl rfl rfl rfl ?_
    refine s_hasPersonK hX2 ?_
    rw [hasF_in hp (by omega)]
    refine x_if_ne rfl (fun c60 => ?_) (fun c60 => ?_)
    rotate_left
    · exact absurd c60 (by first | decide | omega)
    refine x_aload_n rfl rfl ?_
    refine x_iload_n rfl rfl ?_
    refine x_iload_n rfl rfl ?_
    refine x_iload_n rfl rfl ?_
    refine x_iload rfl rfl ?_
    refine x_iload rfl rfl ?_
    refine x_callV (M' := mi18) (As := [_, _, _, _, _]) (bc1 := 0) (bs1 := 0) (bc2 := 0) (bs2 := 0) rfl rfl rfl rfl ok18 rfl rfl (by decide) rfl rfl rfl rfl rfl rfl ?_
    refine s_setWords (dy := dy) (wk := wk) (q := q) hX2 hW hp hmk (fun V1 hF1 hW1 => ?_)
    refine x_iconstN (q := 0) rfl ?_
    refine x_istore (ls' := [_, _, _, _, _, _, _, _, _, _, _]) rfl rfl rfl ?_
    skip
    have hF0 : FrH V V1 := fun a k q1 q2 q3 => by
      rw [hF1 a k q2, up_ne2 (by omega), up_ne2 (by omega), up_ne2 (by omega)]
    have hb1 : ∀ a, 100 ≤ a → V1 a = V a := fun a ha => funext (fun k => hF0 a k (by omega) (by omega) (by omega))
    refine hear_loop (V0 := V1) (cl := (kcl K t).2.2) (r0 := r0K K p) (e := (lawE K p q dy (mk / 4) (mk % 4) wk)) l4 b2 b3 l3 l5 l7 l6 (by rw [hb1 b l3]; exact l8) ek.1 (fun c hc => (ek.2 c hc).1) (fun k hk => by rw [hb1 (b + 2) (by omega)]; exact l9 k hk) (by rw [hb1 (b + 1) (by omega)]; exact l10) (fun w => lawE_bd hW hp hq hd4 (by omega) (by omega) hwk w) (fun V' hF' hH => hP V' (hF0.trans hF') hH) (kcl K t).2.2.length 0 V1 _ _ _ (Nat.zero_add _) (fun _ _ _ _ _ => rfl) hW1 ?_
    refine ⟨?_, ?_, ?_⟩
    · rw [hF1 43 3 (by omega)]; rfl
    · rw [hF1 43 4 (by omega)]; exact oI_nat
    · rw [hF1 43 5 (by omega)]; rfl
end Hear3
def tS (hd : Nat) (hi : Int) (e : Env) (w : Int) (c : Cla) : Int := if c.1 + 1 = hd ∧ (c.2.2.2.2.2.1 = 0 ∨ soB (c.2.2.2.2.2.2 e) = true) then (if c.1 = 2 then clp 1 hi else (c.2.2.1 e).elim w (fun v => clp v hi)) else w
section Tell
variable {d : Nat} {V V0 : VIT} {VL : VLT} {G : VRT} {P : Post} {ext : HL} {K : KT} {B n : Nat} {tc tv : Nat → Nat} {e : Env} {hd hi : Nat} {y2 y3 y4 y5 y6 z11 z12 z13 z14 z15 : Value} {y8 : Int32}
set_option maxRecDepth 20000 in
theorem t_C {k b1_ b2 ho : Nat} {told sum : Int64} (hhd : hd ≤ 3) (hk : k ≤ 3) (hhi : hi ≤ 1000) (h1 : b1_ ≤ 1) (h2 : V 74 24 = nI b2) (h2' : b2 ≤ 1) (h3 : ho ≤ 1) (hP : ∀ t' : Int64, t'.toInt = (if k = hd ∧ ho = 1 ∧ b2 = 0 ∧ b1_ = 0 then clp sum.toInt hi else told.toInt) → Ex (d + 41) mi227 300 [.ref 74, .int (nI hd), y2, y3, y4, y5, y6, .int (nI hi), .int y8, .long t', .retAddr 8, .int (nI k), .long sum, .retAddr 8, .int (nI b1_), .int (nI ho)] [] (LY ++ ext) V VL (vr G) 0 0 P) : Ex (d + 41) mi227 247 [.ref 74, .int (nI hd), y2, y3, y4, y5, y6, .int (nI hi), .int y8, .long told, .retAddr 8, .int (nI k), .long sum, .retAddr 8, .int (nI b1_), .int (nI ho)] [] (LY ++ ext) V VL (vr G) 0 0 P := by
  by_cases c1 : k = hd
  · by_cases c2 : ho = 1
    · by_cases c3 : b2 = 0
      · by_cases c4 : b1_ = 0
        · rw [if_pos ⟨c1, c2, c3, c4⟩] at hP
          have eh : ((nI hi).toInt64).toInt = (hi : Int) := by rw [Int32.toInt_toInt64, nI_toInt (by omega)]
          by_cases s1 : sum.toInt < 0
          · have hk2 := hP 0 (by unfold clp; rw [if_pos s1]; rfl)
            refine x_iload rfl rfl ?_
            refine x_iload_n rfl rfl ?_
            refine x_icmpN_ne rfl (fun c250 => ?_) (fun c250 => ?_)
            · exact absurd c250 (by first | decide | omega)
            refine x_iload rfl rfl ?_
            refine x_ifN_eq rfl (fun c255 => ?_) (fun c255 => ?_)
            · exact absurd c255 (by first | decide | omega)
            refine x_aload_n rfl rfl ?_
            refine x_getE (y := 24) rfl rfl rfl (h2) ?_
            refine x_ifN_ne rfl (fun c262 => ?_) (fun c262 => ?_)
            · exact absurd c262 (by first | decide | omega)
            refine x_iload rfl rfl ?_
            refine x_ifN_ne rfl (fun c267 => ?_) (fun c267 => ?_)
            · exact absurd c267 (by first | decide | omega)
            refine x_lload rfl rfl ?_
            refine x_lconst rfl ?_
            refine x_lcmp rfl ?_
            refine x_if_ge rfl (fun c274 => ?_) (fun c274 => ?_)
            · exact absurd (lgG.mp c274) (by show ¬ (0 : Int) ≤ _; omega)
            refine x_lconst rfl ?_
            refine x_goto rfl ?_
            refine x_lstore (ls' := [_, _, _, _, _, _, _, _, _, _, _, _, _, _, _, _]) rfl rfl rfl ?_
            exact hk2
          · by_cases s2 : (hi : Int) < sum.toInt
            · have hk2 := hP (nI hi).toInt64 (by unfold clp; rw [if_neg s1, if_pos s2]; exact eh)
              refine x_iload rfl rfl ?_
              refine x_iload_n rfl rfl ?_
              refine x_icmpN_ne rfl (fun c250 => ?_) (fun c250 => ?_)
              · exact absurd c250 (by first | decide | omega)
              refine x_iload rfl rfl ?_
              refine x_ifN_eq rfl (fun c255 => ?_) (fun c255 => ?_)
              · exact absurd c255 (by first | decide | omega)
              refine x_aload_n rfl rfl ?_
              refine x_getE (y := 24) rfl rfl rfl (h2) ?_
              refine x_ifN_ne rfl (fun c262 => ?_) (fun c262 => ?_)
              · exact absurd c262 (by first | decide | omega)
              refine x_iload rfl rfl ?_
              refine x_ifN_ne rfl (fun c267 => ?_) (fun c267 => ?_)
              · exact absurd c267 (by first | decide | omega)
              refine x_lload rfl rfl ?_
              refine x_lconst rfl ?_
              refine x_lcmp rfl ?_
              refine x_if_ge rfl (fun c274 => ?_) (fun c274 => ?_)
              rotate_left
              · exact absurd (lgG.mpr (by show (0 : Int) ≤ _; omega)) c274
              refine x_lload rfl rfl ?_
              refine x_iload rfl rfl ?_
              refine x_i2l rfl ?_
              refine x_lcmp rfl ?_
              refine x_if_le rfl (fun c287 => ?_) (fun c287 => ?_)
              · exact absurd (lgL.mp c287) (by rw [eh]; omega)
              refine x_iload rfl rfl ?_
              refine x_i2l rfl ?_
              refine x_goto rfl ?_
              refine x_lstore (ls' := [_, _, _, _, _, _, _, _, _, _, _, _, _, _, _, _]) rfl rfl rfl ?_
              exact hk2
            · have hk2 := hP sum (by unfold clp; rw [if_neg s1, if_neg s2])
              refine x_iload rfl rfl ?_
              refine x_iload_n rfl rfl ?_
              refine x_icmpN_ne rfl (fun c250 => ?_) (fun c250 => ?_)
              · exact absurd c250 (by first | decide | omega)
              refine x_iload rfl rfl ?_
              refine x_ifN_eq rfl (fun c255 => ?_) (fun c255 => ?_)
              · exact absurd c255 (by first | decide | omega)
              refine x_aload_n rfl rfl ?_
              refine x_getE (y := 24) rfl rfl rfl (h2) ?_
              refine x_ifN_ne rfl (fun c262 => ?_) (fun c262 => ?_)
              · exact absurd c262 (by first | decide | omega)
              refine x_iload rfl rfl ?_
              refine x_ifN_ne rfl (fun c267 => ?_) (fun c267 => ?_)
              · exact absurd c267 (by first | decide | omega)
              refine x_lload rfl rfl ?_
              refine x_lconst rfl ?_
              refine x_lcmp rfl ?_
              refine x_if_ge rfl (fun c274 => ?_) (fun c274 => ?_)
              rotate_left
              · exact absurd (lgG.mpr (by show (0 : Int) ≤ _; omega)) c274
              refine x_lload rfl rfl ?_
              refine x_iload rfl rfl ?_
              refine x_i2l rfl ?_
              refine x_lcmp rfl ?_
              refine x_if_le rfl (fun c287 => ?_) (fun c287 => ?_)
              rotate_left
              · exact absurd (lgL.mpr (by rw [eh]; omega)) c287
              refine x_lload rfl rfl ?_
              refine x_lstore (ls' := [_, _, _, _, _, _, _, _, _, _, _, _, _, _, _, _]) rfl rfl rfl ?_
              exact hk2
        · have hk2 := hP told (by rw [if_neg (fun z => c4 z.2.2.2)])
          refine x_iload rfl rfl ?_
          refine x_iload_n rfl rfl ?_
          refine x_icmpN_ne rfl (fun c250 => ?_) (fun c250 => ?_)
          · exact absurd c250 (by first | decide | omega)
          refine x_iload rfl rfl ?_
          refine x_ifN_eq rfl (fun c255 => ?_) (fun c255 => ?_)
          · exact absurd c255 (by first | decide | omega)
          refine x_aload_n rfl rfl ?_
          refine x_getE (y := 24) rfl rfl rfl (h2) ?_
          refine x_ifN_ne rfl (fun c262 => ?_) (fun c262 => ?_)
          · exact absurd c262 (by first | decide | omega)
          refine x_iload rfl rfl ?_
          refine x_ifN_ne rfl (fun c267 => ?_) (fun c267 => ?_)
          rotate_left
          · exact absurd c267 (by first | decide | omega)
          exact hk2
      · have hk2 := hP told (by rw [if_neg (fun z => c3 z.2.2.1)])
        refine x_iload rfl rfl ?_
        refine x_iload_n rfl rfl ?_
        refine x_icmpN_ne rfl (fun c250 => ?_) (fun c250 => ?_)
        · exact absurd c250 (by first | decide | omega)
        refine x_iload rfl rfl ?_
        refine x_ifN_eq rfl (fun c255 => ?_) (fun c255 => ?_)
        · exact absurd c255 (by first | decide | omega)
        refine x_aload_n rfl rfl ?_
        refine x_getE (y := 24) rfl rfl rfl (h2) ?_
        refine x_ifN_ne rfl (fun c262 => ?_) (fun c262 => ?_)
        rotate_left
        · exact absurd c262 (by first | decide | omega)
        exact hk2
    · have hk2 := hP told (by rw [if_neg (fun z => c2 z.2.1)])
      refine x_iload rfl rfl ?_
      refine x_iload_n rfl rfl ?_
      refine x_icmpN_ne rfl (fun c250 => ?_) (fun c250 => ?_)
      · exact absurd c250 (by first | decide | omega)
      refine x_iload rfl rfl ?_
      refine x_ifN_eq rfl (fun c255 => ?_) (fun c255 => ?_)
      rotate_left
      · exact absurd c255 (by first | decide | omega)
      exact hk2
  · have hk2 := hP told (by rw [if_neg (fun z => c1 z.1)])
    refine x_iload rfl rfl ?_
    refine x_iload_n rfl rfl ?_
    refine x_icmpN_ne rfl (fun c250 => ?_) (fun c250 => ?_)
    rotate_left
    · exact absurd c250 (by first | decide | omega)
    exact hk2
end Tell
