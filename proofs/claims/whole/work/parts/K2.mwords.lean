/-! ===== the model tells the words of orders ===== -/
section MWords
variable {d : Nat} {V0 V : VIT} {VL : VLT} {G : VRT} {P : Post} {ext : HL} {K : KT} {B n ran : Nat} {tc tv : Nat → Nat} {lat : Int}
set_option maxRecDepth 20000 in
theorem rel_w {b : Nat} {x : Int} {u : Int32} (hu : u = Int32.ofInt x) (h1 : -1000000000 ≤ x) (h2 : x ≤ 1000000000) : Rel 1 0 (some x) u.toInt64 0 := lf_fin (l := 1) (b := 0) (V := fun _ _ => 0) (by omega) (by omega) (by rw [hu]; exact oI_toInt (by omega) (by omega)) h1 h2
set_option maxRecDepth 20000 in
theorem m_orderValue {w k : Nat} (hM : RK (V 76) K) (hW : WF K) (hr : V 74 27 = nI ran) (hl : V 74 28 = Int32.ofInt lat) (hw : 15 ≤ w ∧ w ≤ 20) (hk1 : w = 15 → k ≤ 23) (hk2 : w = 20 → k ≤ 7) (hP : P (some (.int (Int32.ofInt (envO K ran lat (if w = 15 then 100 + k else if w = 20 then 200 + k else w))))) (LY ++ ext) V VL (vr G)) : Ex (d + 11) mi222 0 (entL [.ref 74, .int (nI w), .int (nI k)] 3) [] (LY ++ ext) V VL (vr G) 0 0 P := by
  have h6 := hW.n
  have h8 : K 94 ≤ 8 := hW.2.1
  have hwt : (nI w).toInt = (w : Int) := nI_toInt (by omega)
  by_cases c1 : w = 15
  · subst c1
    have hk := hk1 rfl
    rw [if_pos rfl, envO_mark (by omega)] at hP
    refine x_iload_n rfl rfl ?_
    refine x_swIn (tgt := 36) rfl (by decide) (by decide) rfl rfl ?_
    by_cases c : k / 4 < K 93
    · rw [if_pos c, ← oI_nat] at hP
      refine x_aload_n rfl rfl ?_
      refine x_iload_n rfl rfl ?_
      refine x_iconstN (q := 4) rfl ?_
      refine x_idivN rfl ?_
      refine x_callV (M' := mi164) (As := [_]) (bc1 := 0) (bs1 := 0) (bc2 := 0) (bs2 := 0) rfl rfl rfl rfl ok164 rfl rfl (by decide) rfl rfl rfl rfl rfl rfl ?_
      refine m_isPersonK hM hW ?_
      rw [hasF_in c (by omega)]
      refine x_if_eq rfl (fun c43 => ?_) (fun c43 => ?_)
      · exact absurd c43 (by first | decide | omega)
      refine x_aload_n rfl rfl ?_
      refine x_getR (u := .ref _) rfl rfl rfl rfl ?_
      refine x_iconstN (q := 0) rfl ?_
      refine x_iload_n rfl rfl ?_
      refine x_iaddN rfl ?_
      refine x_ialE (j := 0 + k) rfl rfl (rfl) (by omega) ((show V 76 (0 + k) = nI (K k) by rw [Nat.zero_add]; exact hM.at k)) ?_
      refine x_goto rfl ?_
      refine x_iret rfl rfl ?_
      exact hP
    · rw [if_neg c] at hP
      refine x_aload_n rfl rfl ?_
      refine x_iload_n rfl rfl ?_
      refine x_iconstN (q := 4) rfl ?_
      refine x_idivN rfl ?_
      refine x_callV (M' := mi164) (As := [_]) (bc1 := 0) (bs1 := 0) (bc2 := 0) (bs2 := 0) rfl rfl rfl rfl ok164 rfl rfl (by decide) rfl rfl rfl rfl rfl rfl ?_
      refine m_isPersonK hM hW ?_
      rw [hasF_bigN (by omega) (by omega)]
      refine x_if_eq rfl (fun c43 => ?_) (fun c43 => ?_)
      rotate_left
      · exact absurd c43 (by first | decide | omega)
      refine x_iconst rfl ?_
      refine x_iret rfl rfl ?_
      exact hP
  rw [if_neg c1] at hP
  by_cases c2 : w = 20
  · subst c2
    have hk := hk2 rfl
    rw [if_pos rfl, envO_roll] at hP
    refine x_iload_n rfl rfl ?_
    refine x_swOut (tgt := 85) rfl (by decide) rfl ?_
    by_cases c : k < K 94
    · rw [if_pos c] at hP
      have hP' : P (some (.int (agF K k))) (LY ++ ext) V VL (vr G) := by
        have e : agF K k = Int32.ofInt (if agK K k = none then 0 else 1) := by
          unfold agF
          split <;> rfl
        rw [e]
        exact hP
      refine x_aload_n rfl rfl ?_
      refine x_iload_n rfl rfl ?_
      refine x_callV (M' := mi165) (As := [_]) (bc1 := 0) (bs1 := 0) (bc2 := 0) (bs2 := 0) rfl rfl rfl rfl ok165 rfl rfl (by decide) rfl rfl rfl rfl rfl rfl ?_
      refine m_isRollK hM hW ?_
      rw [hasF_in c (by omega)]
      refine x_if_eq rfl (fun c90 => ?_) (fun c90 => ?_)
      · exact absurd c90 (by first | decide | omega)
      refine x_aload_n rfl rfl ?_
      refine x_iload_n rfl rfl ?_
      refine x_iconst rfl ?_
      refine x_callV (M' := mi183) (As := [_, _]) (bc1 := 0) (bs1 := 0) (bc2 := 0) (bs2 := 0) rfl rfl rfl rfl ok183 rfl rfl (by decide) rfl rfl rfl rfl rfl rfl ?_
      refine m_at_3 hM hW c ?_
      refine x_goto rfl ?_
      refine x_iret rfl rfl ?_
      exact hP'
    · rw [if_neg c] at hP
      refine x_aload_n rfl rfl ?_
      refine x_iload_n rfl rfl ?_
      refine x_callV (M' := mi165) (As := [_]) (bc1 := 0) (bs1 := 0) (bc2 := 0) (bs2 := 0) rfl rfl rfl rfl ok165 rfl rfl (by decide) rfl rfl rfl rfl rfl rfl ?_
      refine m_isRollK hM hW ?_
      rw [hasF_bigN (by omega) (by omega)]
      refine x_if_eq rfl (fun c90 => ?_) (fun c90 => ?_)
      rotate_left
      · exact absurd c90 (by first | decide | omega)
      refine x_iconst rfl ?_
      refine x_iret rfl rfl ?_
      exact hP
  rw [if_neg c2] at hP
  rcases (show w = 16 ∨ w = 17 ∨ w = 18 ∨ w = 19 by omega) with rfl | rfl | rfl | rfl
  · rw [envO_16, ← oI_nat] at hP
    refine x_iload_n rfl rfl ?_
    refine x_swIn (tgt := 59) rfl (by decide) (by decide) rfl rfl ?_
    refine x_aload_n rfl rfl ?_
    refine x_getR (u := .ref _) rfl rfl rfl rfl ?_
    refine x_bipushN (q := 38) rfl ?_
    refine x_ialE (j := 38) rfl rfl (rfl) (by omega) (hM.at 38) ?_
    refine x_iret rfl rfl ?_
    exact hP
  · rw [envO_17, ← oI_nat] at hP
    refine x_iload_n rfl rfl ?_
    refine x_swIn (tgt := 67) rfl (by decide) (by decide) rfl rfl ?_
    refine x_aload_n rfl rfl ?_
    refine x_getE (y := 27) rfl rfl rfl hr ?_
    refine x_iret rfl rfl ?_
    exact hP
  · rw [envO_18] at hP
    refine x_iload_n rfl rfl ?_
    refine x_swIn (tgt := 72) rfl (by decide) (by decide) rfl rfl ?_
    refine x_aload_n rfl rfl ?_
    refine x_getE (y := 28) rfl rfl rfl hl ?_
    refine x_iret rfl rfl ?_
    exact hP
  · rw [envO_19, ← oI_nat, pop_86 hW] at hP
    have hlm := hW.lm
    refine x_iload_n rfl rfl ?_
    refine x_swIn (tgt := 77) rfl (by decide) (by decide) rfl rfl ?_
    refine x_aload_n rfl rfl ?_
    refine x_callV (M' := mi170) (As := []) (bc1 := 0) (bs1 := 0) (bc2 := 0) (bs2 := 0) rfl rfl rfl rfl ok170 rfl rfl (by decide) rfl rfl rfl rfl rfl rfl ?_
    refine m_livingK hM hW ?_
    refine x_callS (M' := mi158) (As := [_]) (bc1 := 0) (bs1 := 0) (bc2 := 0) (bs2 := 0) rfl rfl rfl rfl ok158 rfl rfl rfl rfl rfl rfl ?_
    refine m_ones (by omega) ?_
    refine x_iret rfl rfl ?_
    exact hP
set_option maxRecDepth 20000 in
theorem lf_ord (hE : EvS K B n tc V0) (hW : WF K) (hO : V0 74 25 = nI 1) (hr0 : V0 74 27 = nI ran) (hl0 : V0 74 28 = Int32.ofInt lat) (hran : ran ≤ 100000) (hl1 : -1 ≤ lat) (hl2 : lat ≤ 1000) (hv : ∀ i, i < n → tv i = K (2905 + (B + i))) : LfOn V0 VL G ext B n (envO K ran lat) true tc tv := by
  intro f dp i p x l b V D hD hi hl hF hA c hr
  have hE1 := hE.fr hF
  have hn4 := hE.2.2.2.1
  have hB4 := hE.2.2.1
  have h7c := hE.2.2.2.2.2.2 i
  have hO1 : V 74 25 = nI 1 := (hF 74 25 (by omega)).trans hO
  have hr1 : V 74 27 = nI ran := (hF 74 27 (by omega)).trans hr0
  have hl1' : V 74 28 = Int32.ofInt lat := (hF 74 28 (by omega)).trans hl0
  have e9 : prs true tc tv (f + 1) 9 dp i p x = (if tc i = 191 then (if 8 ≤ dp then (0, i, p, x) else pbd (prs true tc tv f 5 (dp + 1) (i + 1) p x) (fun i' p' y => if tc i' = 193 then (1, i' + 1, p', y) else (0, i', p', y)))
      else if 50 ≤ p then (0, i, p, x)
      else if tc i = 50 ∧ tv i ≤ 1000 then (1, i + 1, p + 1, dNum (tv i))
      else if tc i = 15 then (if tc (i + 1) = 50 ∧ tv (i + 1) ≤ 23 then (1, i + 2, p + 1, dWord (100 + tv (i + 1))) else (0, i + 1, p, x))
      else if tc i = 20 then (if tc (i + 1) = 50 ∧ tv (i + 1) ≤ 7 then (1, i + 2, p + 1, dWord (200 + tv (i + 1))) else (0, i + 1, p, x))
      else if 16 ≤ tc i ∧ tc i ≤ 19 then (1, i + 1, p + 1, dWord (tc i)) else (0, i, p, x)) := rfl
  rw [e9, if_neg c] at hr ⊢
  by_cases c1 : 50 ≤ p
  · rw [if_pos c1] at hr; exact absurd hr (by show ¬ 0 = 1; omega)
  rw [if_neg c1] at hr ⊢
  obtain ⟨d, rfl⟩ : ∃ d, D = d + 12 := ⟨D - 12, by omega⟩
  have hgo : ∀ {q : Int32}, up V 74 22 q 74 24 = nI b := fun {q} => (up_at' (by omega)).trans hA.2.1
  have hgo2 : ∀ {q : Int32}, up V 74 22 q 74 25 = nI 1 := fun {q} => (up_at' (by omega)).trans hO1
  have hin : i < n := Nat.lt_of_not_le (fun z => by
    have := hE.2.2.2.2.2.1 i z
    rw [if_neg (by omega), if_neg (by omega), if_neg (by omega), if_neg (by omega)] at hr
    exact absurd hr (by show ¬ 0 = 1; omega))
  have hbd : ∀ w : Nat, (16 ≤ w ∧ w ≤ 19) ∨ (100 ≤ w ∧ w ≤ 123) ∨ (200 ≤ w ∧ w ≤ 207) → -1000000000 ≤ envO K ran lat w ∧ envO K ran lat w ≤ 1000000000 := by
    intro w hw
    rcases hw with q | q | q
    · have := envO_bd (lat := lat) hW hran hl1 hl2 (w - 16) (by omega)
      unfold owm at this
      rw [if_pos (by omega), show 16 + (w - 16) = w by omega] at this
      exact this
    · have := envO_bd (lat := lat) hW hran hl1 hl2 (w - 100 + 12) (by omega)
      unfold owm at this
      rw [if_neg (by omega), if_neg (by omega), show 100 + (w - 100 + 12 - 12) = w by omega] at this
      exact this
    · have := envO_bd (lat := lat) hW hran hl1 hl2 (w - 200 + 4) (by omega)
      unfold owm at this
      rw [if_neg (by omega), if_pos (by omega), show 200 + (w - 200 + 4 - 4) = w by omega] at this
      exact this
  by_cases c2 : tc i = 50 ∧ tv i ≤ 1000
  · rw [if_pos c2] at hr ⊢
    intro P hP
    have hk : K (2905 + (B + i)) = tv i := (hv i hin).symm
    rcases (show l = 0 ∨ l = 1 by omega) with rfl | rfl
    · refine x_aload_n rfl rfl ?_
      refine x_bipushN (q := 91) rfl ?_
      refine x_callS (M' := mi199) (As := [_]) (bc1 := 0) (bs1 := 0) (bc2 := 0) (bs2 := 0) rfl rfl rfl rfl ok199 rfl rfl rfl rfl rfl rfl ?_
      refine m_sign (by omega) ?_
      refine x_callV (M' := mi217) (As := [_]) (bc1 := 0) (bs1 := 0) (bc2 := 0) (bs2 := 0) rfl rfl rfl rfl ok217 rfl rfl (by decide) rfl rfl rfl rfl rfl rfl ?_
      refine m_passes_no hE1 hA.1 (by omega) (by omega) c ?_
      refine x_ifN_eq rfl (fun c9 => ?_) (fun c9 => ?_)
      rotate_left
      · exact absurd c9 (by first | decide | omega)
      refine x_aload_n rfl rfl ?_
      refine x_aload_n rfl rfl ?_
      refine x_getE (y := 22) rfl rfl rfl (hA.1) ?_
      refine x_callV (M' := mi216) (As := [_]) (bc1 := 0) (bs1 := 0) (bc2 := 0) (bs2 := 0) rfl rfl rfl rfl ok216 rfl rfl (by decide) rfl rfl rfl rfl rfl rfl ?_
      refine m_codeAt hE1 (by omega) ?_
      rw [c2.1]
      refine x_istore_n (ls' := [_, _, _, _]) rfl rfl rfl ?_
      refine x_iconstN (q := 0) rfl ?_
      refine x_istore_n (ls' := [_, _, _, _]) rfl rfl rfl ?_
      refine x_aload_n rfl rfl ?_
      refine x_dup rfl rfl ?_
      refine x_getE (y := 22) rfl rfl rfl (hA.1) ?_
      refine x_iconstN (q := 1) rfl ?_
      refine x_iaddN rfl ?_
      refine x_putI rfl rfl rfl rfl ?_
      refine x_aload_n rfl rfl ?_
      refine x_getE (y := 25) rfl rfl rfl (hO1) ?_
      refine x_ifN_eq rfl (fun c55 => ?_) (fun c55 => ?_)
      · exact absurd c55 (by first | decide | omega)
      refine x_iload_n rfl rfl ?_
      refine x_bipushN (q := 15) rfl ?_
      refine x_icmpN_eq rfl (fun c61 => ?_) (fun c61 => ?_)
      · exact absurd c61 (by first | decide | omega)
      refine x_iload_n rfl rfl ?_
      refine x_bipushN (q := 20) rfl ?_
      refine x_icmpN_ne rfl (fun c67 => ?_) (fun c67 => ?_)
      rotate_left
      · exact absurd c67 (by first | decide | omega)
      refine x_iload_n rfl rfl ?_
      refine x_ifN_eq rfl (fun c95 => ?_) (fun c95 => ?_)
      rotate_left
      · exact absurd c95 (by first | decide | omega)
      refine x_lconst rfl ?_
      refine x_lret rfl rfl ?_
      exact hP 0 _ b hF.go ⟨up_at, hgo, hA.2.2⟩ ⟨fun z => absurd z (by omega), fun _ => rfl⟩
    · rcases (show b = 0 ∨ b = 1 by have := hA.2.2; omega) with rfl | rfl
      · refine x_aload_n rfl rfl ?_
        refine x_bipushN (q := 91) rfl ?_
        refine x_callS (M' := mi199) (As := [_]) (bc1 := 0) (bs1 := 0) (bc2 := 0) (bs2 := 0) rfl rfl rfl rfl ok199 rfl rfl rfl rfl rfl rfl ?_
        refine m_sign (by omega) ?_
        refine x_callV (M' := mi217) (As := [_]) (bc1 := 0) (bs1 := 0) (bc2 := 0) (bs2 := 0) rfl rfl rfl rfl ok217 rfl rfl (by decide) rfl rfl rfl rfl rfl rfl ?_
        refine m_passes_no hE1 hA.1 (by omega) (by omega) c ?_
        refine x_ifN_eq rfl (fun c9 => ?_) (fun c9 => ?_)
        rotate_left
        · exact absurd c9 (by first | decide | omega)
        refine x_aload_n rfl rfl ?_
        refine x_aload_n rfl rfl ?_
        refine x_getE (y := 22) rfl rfl rfl (hA.1) ?_
        refine x_callV (M' := mi216) (As := [_]) (bc1 := 0) (bs1 := 0) (bc2 := 0) (bs2 := 0) rfl rfl rfl rfl ok216 rfl rfl (by decide) rfl rfl rfl rfl rfl rfl ?_
        refine m_codeAt hE1 (by omega) ?_
        rw [c2.1]
        refine x_istore_n (ls' := [_, _, _, _]) rfl rfl rfl ?_
        refine x_iconstN (q := 0) rfl ?_
        refine x_istore_n (ls' := [_, _, _, _]) rfl rfl rfl ?_
        refine x_aload_n rfl rfl ?_
        refine x_dup rfl rfl ?_
        refine x_getE (y := 22) rfl rfl rfl (hA.1) ?_
        refine x_iconstN (q := 1) rfl ?_
        refine x_iaddN rfl ?_
        refine x_putI rfl rfl rfl rfl ?_
        refine x_aload_n rfl rfl ?_
        refine x_getE (y := 25) rfl rfl rfl (hO1) ?_
        refine x_ifN_eq rfl (fun c55 => ?_) (fun c55 => ?_)
        · exact absurd c55 (by first | decide | omega)
        refine x_iload_n rfl rfl ?_
        refine x_bipushN (q := 15) rfl ?_
        refine x_icmpN_eq rfl (fun c61 => ?_) (fun c61 => ?_)
        · exact absurd c61 (by first | decide | omega)
        refine x_iload_n rfl rfl ?_
        refine x_bipushN (q := 20) rfl ?_
        refine x_icmpN_ne rfl (fun c67 => ?_) (fun c67 => ?_)
        rotate_left
        · exact absurd c67 (by first | decide | omega)
        refine x_iload_n rfl rfl ?_
        refine x_ifN_eq rfl (fun c95 => ?_) (fun c95 => ?_)
        · exact absurd c95 (by first | decide | omega)
        refine x_aload_n rfl rfl ?_
        refine x_getE (y := 24) rfl rfl rfl (hgo) ?_
        refine x_ifN_eq rfl (fun c102 => ?_) (fun c102 => ?_)
        rotate_left
        · exact absurd c102 (by first | decide | omega)
        refine x_iload_n rfl rfl ?_
        refine x_bipushN (q := 50) rfl ?_
        refine x_icmpN_ne rfl (fun c110 => ?_) (fun c110 => ?_)
        · exact absurd c110 (by first | decide | omega)
        skip
        refine x_aload_n rfl rfl ?_
        refine x_getR (u := .ref _) rfl rfl rfl rfl ?_
        refine x_sipushN (q := 2905) rfl ?_
        refine x_aload_n rfl rfl ?_
        refine x_getE (y := 22) rfl rfl rfl (up_at) ?_
        refine x_iaddN rfl ?_
        refine x_iconstN (q := 1) rfl ?_
        refine x_isubN rfl ?_
        refine x_ialE (j := 2905 + (B + i)) rfl rfl ((by rw [show 2905 + (B + i + 1) - 1 = 2905 + (B + i) by omega])) (by omega) (hE1.1.at (2905 + (B + i))) ?_
        rw [hk]
        refine x_i2l rfl ?_
        refine x_lret rfl rfl ?_
        exact hP _ _ 0 hF.go ⟨up_at, hgo, by omega⟩ (lf_fin (l := 1) (b := 0) (V := V) (by omega) (by omega) (nI_toInt (by omega)) (by omega) (by omega))
      · refine x_aload_n rfl rfl ?_
        refine x_bipushN (q := 91) rfl ?_
        refine x_callS (M' := mi199) (As := [_]) (bc1 := 0) (bs1 := 0) (bc2 := 0) (bs2 := 0) rfl rfl rfl rfl ok199 rfl rfl rfl rfl rfl rfl ?_
        refine m_sign (by omega) ?_
        refine x_callV (M' := mi217) (As := [_]) (bc1 := 0) (bs1 := 0) (bc2 := 0) (bs2 := 0) rfl rfl rfl rfl ok217 rfl rfl (by decide) rfl rfl rfl rfl rfl rfl ?_
        refine m_passes_no hE1 hA.1 (by omega) (by omega) c ?_
        refine x_ifN_eq rfl (fun c9 => ?_) (fun c9 => ?_)
        rotate_left
        · exact absurd c9 (by first | decide | omega)
        refine x_aload_n rfl rfl ?_
        refine x_aload_n rfl rfl ?_
        refine x_getE (y := 22) rfl rfl rfl (hA.1) ?_
        refine x_callV (M' := mi216) (As := [_]) (bc1 := 0) (bs1 := 0) (bc2 := 0) (bs2 := 0) rfl rfl rfl rfl ok216 rfl rfl (by decide) rfl rfl rfl rfl rfl rfl ?_
        refine m_codeAt hE1 (by omega) ?_
        rw [c2.1]
        refine x_istore_n (ls' := [_, _, _, _]) rfl rfl rfl ?_
        refine x_iconstN (q := 0) rfl ?_
        refine x_istore_n (ls' := [_, _, _, _]) rfl rfl rfl ?_
        refine x_aload_n rfl rfl ?_
        refine x_dup rfl rfl ?_
        refine x_getE (y := 22) rfl rfl rfl (hA.1) ?_
        refine x_iconstN (q := 1) rfl ?_
        refine x_iaddN rfl ?_
        refine x_putI rfl rfl rfl rfl ?_
        refine x_aload_n rfl rfl ?_
        refine x_getE (y := 25) rfl rfl rfl (hO1) ?_
        refine x_ifN_eq rfl (fun c55 => ?_) (fun c55 => ?_)
        · exact absurd c55 (by first | decide | omega)
        refine x_iload_n rfl rfl ?_
        refine x_bipushN (q := 15) rfl ?_
        refine x_icmpN_eq rfl (fun c61 => ?_) (fun c61 => ?_)
        · exact absurd c61 (by first | decide | omega)
        refine x_iload_n rfl rfl ?_
        refine x_bipushN (q := 20) rfl ?_
        refine x_icmpN_ne rfl (fun c67 => ?_) (fun c67 => ?_)
        rotate_left
        · exact absurd c67 (by first | decide | omega)
        refine x_iload_n rfl rfl ?_
        refine x_ifN_eq rfl (fun c95 => ?_) (fun c95 => ?_)
        · exact absurd c95 (by first | decide | omega)
        refine x_aload_n rfl rfl ?_
        refine x_getE (y := 24) rfl rfl rfl (hgo) ?_
        refine x_ifN_eq rfl (fun c102 => ?_) (fun c102 => ?_)
        · exact absurd c102 (by first | decide | omega)
        refine x_lconst rfl ?_
        refine x_lret rfl rfl ?_
        exact hP 0 _ 1 hF.go ⟨up_at, hgo, by omega⟩ ⟨fun _ z => absurd z (by omega), fun _ => rfl⟩
  rw [if_neg c2] at hr ⊢
  -- a word with a number behind it
  have htwo : ∀ (hi2 w0 : Nat), ((tc i = 15 ∧ hi2 = 23 ∧ w0 = 100) ∨ (tc i = 20 ∧ hi2 = 7 ∧ w0 = 200)) → tc (i + 1) = 50 ∧ tv (i + 1) ≤ hi2 → EvL V0 VL G ext B (envO K ran lat) (d + 12) mi221 0 (entL [.ref 74, .int (nI l)] 4) V l b (1, i + 2, p + 1, dWord (w0 + tv (i + 1))) := by
    intro hi2 w0 hq h50
    have hin2 : i + 1 < n := Nat.lt_of_not_le (fun z => by have := hE.2.2.2.2.2.1 _ z; omega)
    have hk : K (2905 + (B + i + 1)) = tv (i + 1) := (hv (i + 1) hin2).symm
    have hval : ∀ q : Int32, up V 74 22 q 76 (2905 + (B + i + 1)) = nI (tv (i + 1)) := fun q => by
      rw [up_ne (by omega), ← hk]
      exact hE1.1.at (2905 + (B + i + 1))
    have hwd : (if tc i = 15 then 100 + tv (i + 1) else if tc i = 20 then 200 + tv (i + 1) else tc i) = w0 + tv (i + 1) := by
      rcases hq with ⟨q1, q2, q3⟩ | ⟨q1, q2, q3⟩
      · rw [if_pos q1, q3]
      · rw [if_neg (by omega), if_pos q1, q3]
    have hb2 := hbd (w0 + tv (i + 1)) (by omega)
    intro P hP
    have hFg : FrE V0 (up (up V 74 22 (nI (B + i + 1))) 74 22 (nI (B + i + 1 + 1))) := hF.go.go
    have hAt : At B (i + 2) b (up (up V 74 22 (nI (B + i + 1))) 74 22 (nI (B + i + 1 + 1))) := ⟨up_at, (up_at' (by omega)).trans hgo, hA.2.2⟩
    have h94 : Ex (d + 12) mi221 94 [.ref 74, .int (nI l), .int (nI (tc i)), .int (nI (tv (i + 1)))] [] (LY ++ ext) (up (up V 74 22 (nI (B + i + 1))) 74 22 (nI (B + i + 1 + 1))) VL (vr G) 0 0 P := by
      rcases (show l = 0 ∨ l = 1 by omega) with rfl | rfl
      · refine x_iload_n rfl rfl ?_
        refine x_ifN_eq rfl (fun c95 => ?_) (fun c95 => ?_)
        rotate_left
        · exact absurd c95 (by first | decide | omega)
        refine x_lconst rfl ?_
        refine x_lret rfl rfl ?_
        exact hP 0 _ b hFg hAt ⟨fun z => absurd z (by omega), fun _ => rfl⟩
      · rcases (show b = 0 ∨ b = 1 by have := hA.2.2; omega) with rfl | rfl
        · refine x_iload_n rfl rfl ?_
          refine x_ifN_eq rfl (fun c95 => ?_) (fun c95 => ?_)
          · exact absurd c95 (by first | decide | omega)
          refine x_aload_n rfl rfl ?_
          refine x_getE (y := 24) rfl rfl rfl (hAt.2.1) ?_
          refine x_ifN_eq rfl (fun c102 => ?_) (fun c102 => ?_)
          rotate_left
          · exact absurd c102 (by first | decide | omega)
          refine x_iload_n rfl rfl ?_
          refine x_bipushN (q := 50) rfl ?_
          refine x_icmpN_ne rfl (fun c110 => ?_) (fun c110 => ?_)
          rotate_left
          · exact absurd c110 (by first | decide | omega)
          refine x_aload_n rfl rfl ?_
          refine x_getE (y := 25) rfl rfl rfl ((up_at' (by omega)).trans hgo2) ?_
          refine x_ifN_eq rfl (fun c134 => ?_) (fun c134 => ?_)
          · exact absurd c134 (by first | decide | omega)
          refine x_aload_n rfl rfl ?_
          refine x_iload_n rfl rfl ?_
          refine x_iload_n rfl rfl ?_
          refine x_callV (M' := mi222) (As := [_, _]) (bc1 := 0) (bs1 := 0) (bc2 := 0) (bs2 := 0) rfl rfl rfl rfl ok222 rfl rfl (by decide) rfl rfl rfl rfl rfl rfl ?_
          refine m_orderValue (d := d) (K := K) (ran := ran) (lat := lat) ?_ hW ?_ ?_ (by omega) (by omega) (by omega) ?_
          skip
          · rw [up_ne (by omega), up_ne (by omega)]; exact hE1.1
          · rw [up_at' (by omega), up_at' (by omega)]; exact hr1
          · rw [up_at' (by omega), up_at' (by omega)]; exact hl1'
          · rw [hwd]
            refine x_i2l rfl ?_
            refine x_goto rfl ?_
            refine x_lret rfl rfl ?_
            exact hP _ _ 0 hFg hAt (rel_w (b := 0) rfl hb2.1 hb2.2)
        · refine x_iload_n rfl rfl ?_
          refine x_ifN_eq rfl (fun c95 => ?_) (fun c95 => ?_)
          · exact absurd c95 (by first | decide | omega)
          refine x_aload_n rfl rfl ?_
          refine x_getE (y := 24) rfl rfl rfl (hAt.2.1) ?_
          refine x_ifN_eq rfl (fun c102 => ?_) (fun c102 => ?_)
          · exact absurd c102 (by first | decide | omega)
          refine x_lconst rfl ?_
          refine x_lret rfl rfl ?_
          exact hP 0 _ 1 hFg hAt ⟨fun _ z => absurd z (by omega), fun _ => rfl⟩
    rcases hq with ⟨q1, q2, q3⟩ | ⟨q1, q2, q3⟩
    · refine x_aload_n rfl rfl ?_
      refine x_bipushN (q := 91) rfl ?_
      refine x_callS (M' := mi199) (As := [_]) (bc1 := 0) (bs1 := 0) (bc2 := 0) (bs2 := 0) rfl rfl rfl rfl ok199 rfl rfl rfl rfl rfl rfl ?_
      refine m_sign (by omega) ?_
      refine x_callV (M' := mi217) (As := [_]) (bc1 := 0) (bs1 := 0) (bc2 := 0) (bs2 := 0) rfl rfl rfl rfl ok217 rfl rfl (by decide) rfl rfl rfl rfl rfl rfl ?_
      refine m_passes_no hE1 hA.1 (by omega) (by omega) c ?_
      refine x_ifN_eq rfl (fun c9 => ?_) (fun c9 => ?_)
      rotate_left
      · exact absurd c9 (by first | decide | omega)
      refine x_aload_n rfl rfl ?_
      refine x_aload_n rfl rfl ?_
      refine x_getE (y := 22) rfl rfl rfl hA.1 ?_
      refine x_callV (M' := mi216) (As := [_]) (bc1 := 0) (bs1 := 0) (bc2 := 0) (bs2 := 0) rfl rfl rfl rfl ok216 rfl rfl (by decide) rfl rfl rfl rfl rfl rfl ?_
      refine m_codeAt hE1 (by omega) ?_
      refine x_istore_n (ls' := [_, _, _, _]) rfl rfl rfl ?_
      refine x_iconstN (q := 0) rfl ?_
      refine x_istore_n (ls' := [_, _, _, _]) rfl rfl rfl ?_
      refine x_aload_n rfl rfl ?_
      refine x_dup rfl rfl ?_
      refine x_getE (y := 22) rfl rfl rfl hA.1 ?_
      refine x_iconstN (q := 1) rfl ?_
      refine x_iaddN rfl ?_
      refine x_putI rfl rfl rfl rfl ?_
      refine x_aload_n rfl rfl ?_
      refine x_getE (y := 25) rfl rfl rfl hgo2 ?_
      refine x_ifN_eq rfl (fun c55 => ?_) (fun c55 => ?_)
      · exact absurd c55 (by first | decide | omega)
      refine x_iload_n rfl rfl ?_
      refine x_bipushN (q := 15) rfl ?_
      refine x_icmpN_eq rfl (fun c61 => ?_) (fun c61 => ?_)
      rotate_left
      · exact absurd c61 (by first | decide | omega)
      refine x_aload_n rfl rfl ?_
      refine x_getR (u := .ref _) rfl rfl rfl rfl ?_
      refine x_sipushN (q := 2905) rfl ?_
      refine x_aload_n rfl rfl ?_
      refine x_getE (y := 22) rfl rfl rfl up_at ?_
      refine x_iaddN rfl ?_
      refine x_ialE (j := 2905 + (B + i + 1)) rfl rfl (rfl) (by omega) (hval _) ?_
      refine x_istore_n (ls' := [_, _, _, _]) rfl rfl rfl ?_
      refine x_aload_n rfl rfl ?_
      refine x_dup rfl rfl ?_
      refine x_getE (y := 22) rfl rfl rfl up_at ?_
      refine x_iconstN (q := 1) rfl ?_
      refine x_iaddN rfl ?_
      refine x_putI rfl rfl rfl rfl ?_
      exact h94
    · refine x_aload_n rfl rfl ?_
      refine x_bipushN (q := 91) rfl ?_
      refine x_callS (M' := mi199) (As := [_]) (bc1 := 0) (bs1 := 0) (bc2 := 0) (bs2 := 0) rfl rfl rfl rfl ok199 rfl rfl rfl rfl rfl rfl ?_
      refine m_sign (by omega) ?_
      refine x_callV (M' := mi217) (As := [_]) (bc1 := 0) (bs1 := 0) (bc2 := 0) (bs2 := 0) rfl rfl rfl rfl ok217 rfl rfl (by decide) rfl rfl rfl rfl rfl rfl ?_
      refine m_passes_no hE1 hA.1 (by omega) (by omega) c ?_
      refine x_ifN_eq rfl (fun c9 => ?_) (fun c9 => ?_)
      rotate_left
      · exact absurd c9 (by first | decide | omega)
      refine x_aload_n rfl rfl ?_
      refine x_aload_n rfl rfl ?_
      refine x_getE (y := 22) rfl rfl rfl hA.1 ?_
      refine x_callV (M' := mi216) (As := [_]) (bc1 := 0) (bs1 := 0) (bc2 := 0) (bs2 := 0) rfl rfl rfl rfl ok216 rfl rfl (by decide) rfl rfl rfl rfl rfl rfl ?_
      refine m_codeAt hE1 (by omega) ?_
      refine x_istore_n (ls' := [_, _, _, _]) rfl rfl rfl ?_
      refine x_iconstN (q := 0) rfl ?_
      refine x_istore_n (ls' := [_, _, _, _]) rfl rfl rfl ?_
      refine x_aload_n rfl rfl ?_
      refine x_dup rfl rfl ?_
      refine x_getE (y := 22) rfl rfl rfl hA.1 ?_
      refine x_iconstN (q := 1) rfl ?_
      refine x_iaddN rfl ?_
      refine x_putI rfl rfl rfl rfl ?_
      refine x_aload_n rfl rfl ?_
      refine x_getE (y := 25) rfl rfl rfl hgo2 ?_
      refine x_ifN_eq rfl (fun c55 => ?_) (fun c55 => ?_)
      · exact absurd c55 (by first | decide | omega)
      refine x_iload_n rfl rfl ?_
      refine x_bipushN (q := 15) rfl ?_
      refine x_icmpN_eq rfl (fun c61 => ?_) (fun c61 => ?_)
      · exact absurd c61 (by first | decide | omega)
      refine x_iload_n rfl rfl ?_
      refine x_bipushN (q := 20) rfl ?_
      refine x_icmpN_ne rfl (fun c67 => ?_) (fun c67 => ?_)
      · exact absurd c67 (by first | decide | omega)
      refine x_aload_n rfl rfl ?_
      refine x_getR (u := .ref _) rfl rfl rfl rfl ?_
      refine x_sipushN (q := 2905) rfl ?_
      refine x_aload_n rfl rfl ?_
      refine x_getE (y := 22) rfl rfl rfl up_at ?_
      refine x_iaddN rfl ?_
      refine x_ialE (j := 2905 + (B + i + 1)) rfl rfl (rfl) (by omega) (hval _) ?_
      refine x_istore_n (ls' := [_, _, _, _]) rfl rfl rfl ?_
      refine x_aload_n rfl rfl ?_
      refine x_dup rfl rfl ?_
      refine x_getE (y := 22) rfl rfl rfl up_at ?_
      refine x_iconstN (q := 1) rfl ?_
      refine x_iaddN rfl ?_
      refine x_putI rfl rfl rfl rfl ?_
      exact h94
  by_cases c15 : tc i = 15
  · rw [if_pos c15] at hr ⊢
    by_cases h50 : tc (i + 1) = 50 ∧ tv (i + 1) ≤ 23
    · rw [if_pos h50]
      exact htwo 23 100 (Or.inl ⟨c15, rfl, rfl⟩) h50
    · rw [if_neg h50] at hr; exact absurd hr (by show ¬ 0 = 1; omega)
  rw [if_neg c15] at hr ⊢
  by_cases c20 : tc i = 20
  · rw [if_pos c20] at hr ⊢
    by_cases h50 : tc (i + 1) = 50 ∧ tv (i + 1) ≤ 7
    · rw [if_pos h50]
      exact htwo 7 200 (Or.inr ⟨c20, rfl, rfl⟩) h50
    · rw [if_neg h50] at hr; exact absurd hr (by show ¬ 0 = 1; omega)
  rw [if_neg c20] at hr ⊢
  by_cases c3 : 16 ≤ tc i ∧ tc i ≤ 19
  · rw [if_pos c3] at hr ⊢
    intro P hP
    have hb2 := hbd (tc i) (Or.inl c3)
    rcases (show l = 0 ∨ l = 1 by omega) with rfl | rfl
    · refine x_aload_n rfl rfl ?_
      refine x_bipushN (q := 91) rfl ?_
      refine x_callS (M' := mi199) (As := [_]) (bc1 := 0) (bs1 := 0) (bc2 := 0) (bs2 := 0) rfl rfl rfl rfl ok199 rfl rfl rfl rfl rfl rfl ?_
      refine m_sign (by omega) ?_
      refine x_callV (M' := mi217) (As := [_]) (bc1 := 0) (bs1 := 0) (bc2 := 0) (bs2 := 0) rfl rfl rfl rfl ok217 rfl rfl (by decide) rfl rfl rfl rfl rfl rfl ?_
      refine m_passes_no hE1 hA.1 (by omega) (by omega) c ?_
      refine x_ifN_eq rfl (fun c9 => ?_) (fun c9 => ?_)
      rotate_left
      · exact absurd c9 (by first | decide | omega)
      refine x_aload_n rfl rfl ?_
      refine x_aload_n rfl rfl ?_
      refine x_getE (y := 22) rfl rfl rfl (hA.1) ?_
      refine x_callV (M' := mi216) (As := [_]) (bc1 := 0) (bs1 := 0) (bc2 := 0) (bs2 := 0) rfl rfl rfl rfl ok216 rfl rfl (by decide) rfl rfl rfl rfl rfl rfl ?_
      refine m_codeAt hE1 (by omega) ?_
      refine x_istore_n (ls' := [_, _, _, _]) rfl rfl rfl ?_
      refine x_iconstN (q := 0) rfl ?_
      refine x_istore_n (ls' := [_, _, _, _]) rfl rfl rfl ?_
      refine x_aload_n rfl rfl ?_
      refine x_dup rfl rfl ?_
      refine x_getE (y := 22) rfl rfl rfl (hA.1) ?_
      refine x_iconstN (q := 1) rfl ?_
      refine x_iaddN rfl ?_
      refine x_putI rfl rfl rfl rfl ?_
      refine x_aload_n rfl rfl ?_
      refine x_getE (y := 25) rfl rfl rfl (hO1) ?_
      refine x_ifN_eq rfl (fun c55 => ?_) (fun c55 => ?_)
      · exact absurd c55 (by first | decide | omega)
      refine x_iload_n rfl rfl ?_
      refine x_bipushN (q := 15) rfl ?_
      refine x_icmpN_eq rfl (fun c61 => ?_) (fun c61 => ?_)
      · exact absurd c61 (by first | decide | omega)
      refine x_iload_n rfl rfl ?_
      refine x_bipushN (q := 20) rfl ?_
      refine x_icmpN_ne rfl (fun c67 => ?_) (fun c67 => ?_)
      rotate_left
      · exact absurd c67 (by first | decide | omega)
      refine x_iload_n rfl rfl ?_
      refine x_ifN_eq rfl (fun c95 => ?_) (fun c95 => ?_)
      rotate_left
      · exact absurd c95 (by first | decide | omega)
      refine x_lconst rfl ?_
      refine x_lret rfl rfl ?_
      exact hP 0 _ b hF.go ⟨up_at, hgo, hA.2.2⟩ ⟨fun z => absurd z (by omega), fun _ => rfl⟩
    · rcases (show b = 0 ∨ b = 1 by have := hA.2.2; omega) with rfl | rfl
      · refine x_aload_n rfl rfl ?_
        refine x_bipushN (q := 91) rfl ?_
        refine x_callS (M' := mi199) (As := [_]) (bc1 := 0) (bs1 := 0) (bc2 := 0) (bs2 := 0) rfl rfl rfl rfl ok199 rfl rfl rfl rfl rfl rfl ?_
        refine m_sign (by omega) ?_
        refine x_callV (M' := mi217) (As := [_]) (bc1 := 0) (bs1 := 0) (bc2 := 0) (bs2 := 0) rfl rfl rfl rfl ok217 rfl rfl (by decide) rfl rfl rfl rfl rfl rfl ?_
        refine m_passes_no hE1 hA.1 (by omega) (by omega) c ?_
        refine x_ifN_eq rfl (fun c9 => ?_) (fun c9 => ?_)
        rotate_left
        · exact absurd c9 (by first | decide | omega)
        refine x_aload_n rfl rfl ?_
        refine x_aload_n rfl rfl ?_
        refine x_getE (y := 22) rfl rfl rfl (hA.1) ?_
        refine x_callV (M' := mi216) (As := [_]) (bc1 := 0) (bs1 := 0) (bc2 := 0) (bs2 := 0) rfl rfl rfl rfl ok216 rfl rfl (by decide) rfl rfl rfl rfl rfl rfl ?_
        refine m_codeAt hE1 (by omega) ?_
        refine x_istore_n (ls' := [_, _, _, _]) rfl rfl rfl ?_
        refine x_iconstN (q := 0) rfl ?_
        refine x_istore_n (ls' := [_, _, _, _]) rfl rfl rfl ?_
        refine x_aload_n rfl rfl ?_
        refine x_dup rfl rfl ?_
        refine x_getE (y := 22) rfl rfl rfl (hA.1) ?_
        refine x_iconstN (q := 1) rfl ?_
        refine x_iaddN rfl ?_
        refine x_putI rfl rfl rfl rfl ?_
        refine x_aload_n rfl rfl ?_
        refine x_getE (y := 25) rfl rfl rfl hgo2 ?_
        refine x_ifN_eq rfl (fun c55 => ?_) (fun c55 => ?_)
        · exact absurd c55 (by first | decide | omega)
        refine x_iload_n rfl rfl ?_
        refine x_bipushN (q := 15) rfl ?_
        refine x_icmpN_eq rfl (fun c61 => ?_) (fun c61 => ?_)
        · exact absurd c61 (by first | decide | omega)
        refine x_iload_n rfl rfl ?_
        refine x_bipushN (q := 20) rfl ?_
        refine x_icmpN_ne rfl (fun c67 => ?_) (fun c67 => ?_)
        rotate_left
        · exact absurd c67 (by first | decide | omega)
        refine x_iload_n rfl rfl ?_
        refine x_ifN_eq rfl (fun c95 => ?_) (fun c95 => ?_)
        · exact absurd c95 (by first | decide | omega)
        refine x_aload_n rfl rfl ?_
        refine x_getE (y := 24) rfl rfl rfl (hgo) ?_
        refine x_ifN_eq rfl (fun c102 => ?_) (fun c102 => ?_)
        rotate_left
        · exact absurd c102 (by first | decide | omega)
        refine x_iload_n rfl rfl ?_
        refine x_bipushN (q := 50) rfl ?_
        refine x_icmpN_ne rfl (fun c110 => ?_) (fun c110 => ?_)
        rotate_left
        · exact absurd c110 (by first | decide | omega)
        refine x_aload_n rfl rfl ?_
        refine x_getE (y := 25) rfl rfl rfl hgo2 ?_
        refine x_ifN_eq rfl (fun c134 => ?_) (fun c134 => ?_)
        · exact absurd c134 (by first | decide | omega)
        refine x_aload_n rfl rfl ?_
        refine x_iload_n rfl rfl ?_
        refine x_iload_n rfl rfl ?_
        refine x_callV (M' := mi222) (As := [_, _]) (bc1 := 0) (bs1 := 0) (bc2 := 0) (bs2 := 0) rfl rfl rfl rfl ok222 rfl rfl (by decide) rfl rfl rfl rfl rfl rfl ?_
        refine m_orderValue (k := 0) (d := d) (K := K) (ran := ran) (lat := lat) ?_ hW ?_ ?_ (by omega) (by omega) (by omega) ?_
        skip
        · rw [up_ne (by omega)]; exact hE1.1
        · rw [up_at' (by omega)]; exact hr1
        · rw [up_at' (by omega)]; exact hl1'
        · rw [if_neg c15, if_neg c20]
          refine x_i2l rfl ?_
          refine x_goto rfl ?_
          refine x_lret rfl rfl ?_
          exact hP _ _ 0 hF.go ⟨up_at, hgo, by omega⟩ (rel_w (b := 0) rfl hb2.1 hb2.2)
      · refine x_aload_n rfl rfl ?_
        refine x_bipushN (q := 91) rfl ?_
        refine x_callS (M' := mi199) (As := [_]) (bc1 := 0) (bs1 := 0) (bc2 := 0) (bs2 := 0) rfl rfl rfl rfl ok199 rfl rfl rfl rfl rfl rfl ?_
        refine m_sign (by omega) ?_
        refine x_callV (M' := mi217) (As := [_]) (bc1 := 0) (bs1 := 0) (bc2 := 0) (bs2 := 0) rfl rfl rfl rfl ok217 rfl rfl (by decide) rfl rfl rfl rfl rfl rfl ?_
        refine m_passes_no hE1 hA.1 (by omega) (by omega) c ?_
        refine x_ifN_eq rfl (fun c9 => ?_) (fun c9 => ?_)
        rotate_left
        · exact absurd c9 (by first | decide | omega)
        refine x_aload_n rfl rfl ?_
        refine x_aload_n rfl rfl ?_
        refine x_getE (y := 22) rfl rfl rfl (hA.1) ?_
        refine x_callV (M' := mi216) (As := [_]) (bc1 := 0) (bs1 := 0) (bc2 := 0) (bs2 := 0) rfl rfl rfl rfl ok216 rfl rfl (by decide) rfl rfl rfl rfl rfl rfl ?_
        refine m_codeAt hE1 (by omega) ?_
        refine x_istore_n (ls' := [_, _, _, _]) rfl rfl rfl ?_
        refine x_iconstN (q := 0) rfl ?_
        refine x_istore_n (ls' := [_, _, _, _]) rfl rfl rfl ?_
        refine x_aload_n rfl rfl ?_
        refine x_dup rfl rfl ?_
        refine x_getE (y := 22) rfl rfl rfl (hA.1) ?_
        refine x_iconstN (q := 1) rfl ?_
        refine x_iaddN rfl ?_
        refine x_putI rfl rfl rfl rfl ?_
        refine x_aload_n rfl rfl ?_
        refine x_getE (y := 25) rfl rfl rfl (hO1) ?_
        refine x_ifN_eq rfl (fun c55 => ?_) (fun c55 => ?_)
        · exact absurd c55 (by first | decide | omega)
        refine x_iload_n rfl rfl ?_
        refine x_bipushN (q := 15) rfl ?_
        refine x_icmpN_eq rfl (fun c61 => ?_) (fun c61 => ?_)
        · exact absurd c61 (by first | decide | omega)
        refine x_iload_n rfl rfl ?_
        refine x_bipushN (q := 20) rfl ?_
        refine x_icmpN_ne rfl (fun c67 => ?_) (fun c67 => ?_)
        rotate_left
        · exact absurd c67 (by first | decide | omega)
        refine x_iload_n rfl rfl ?_
        refine x_ifN_eq rfl (fun c95 => ?_) (fun c95 => ?_)
        · exact absurd c95 (by first | decide | omega)
        refine x_aload_n rfl rfl ?_
        refine x_getE (y := 24) rfl rfl rfl (hgo) ?_
        refine x_ifN_eq rfl (fun c102 => ?_) (fun c102 => ?_)
        · exact absurd c102 (by first | decide | omega)
        refine x_lconst rfl ?_
        refine x_lret rfl rfl ?_
        exact hP 0 _ 1 hF.go ⟨up_at, hgo, by omega⟩ ⟨fun _ z => absurd z (by omega), fun _ => rfl⟩
  · rw [if_neg c3] at hr; exact absurd hr (by show ¬ 0 = 1; omega)
end MWords
