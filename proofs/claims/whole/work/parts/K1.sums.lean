/-! ===== the model tells sums and tests, with ten frames to spare ===== -/
section Ev2n
variable {d : Nat} {V0 : VIT} {VL : VLT} {G : VRT} {P : Post} {ext : HL} {K : KT} {B n f : Nat} {tc tv : Nat → Nat} {o : Bool} {e : Env}
def Sn5 (V0 : VIT) (VL : VLT) (G : VRT) (ext : HL) (B n : Nat) (e : Env) (o : Bool) (tc tv : Nat → Nat) (f : Nat) : Prop := ∀ dp i p x l b V D, dp ≤ 8 → 3 * (8 - dp) + 14 ≤ D → i ≤ n → l ≤ 1 → FrE V0 V → At B i b V → (prs o tc tv f 5 dp i p x).1 = 1 → EvL V0 VL G ext B e D mi219 0 (entL [.ref 74, .int (nI l)] 7) V l b (prs o tc tv f 5 dp i p x)
def Sn6 (V0 : VIT) (VL : VLT) (G : VRT) (ext : HL) (B n : Nat) (e : Env) (o : Bool) (tc tv : Nat → Nat) (f : Nat) : Prop := ∀ dp i p x l b0 b v V D z4 z5 z6, dp ≤ 8 → 3 * (8 - dp) + 14 ≤ D → i ≤ n → l ≤ 1 → FrE V0 V → At B i b V → Rel l b0 (x e) v b → (prs o tc tv f 6 dp i p x).1 = 1 → EvL V0 VL G ext B e D mi219 6 [.ref 74, .int (nI l), .long v, .retAddr 8, z4, z5, z6] V l b0 (prs o tc tv f 6 dp i p x)
def Sn7 (V0 : VIT) (VL : VLT) (G : VRT) (ext : HL) (B n : Nat) (e : Env) (o : Bool) (tc tv : Nat → Nat) (f : Nat) : Prop := ∀ dp i p x l b V D, dp ≤ 8 → 3 * (8 - dp) + 13 ≤ D → i ≤ n → l ≤ 1 → FrE V0 V → At B i b V → (prs o tc tv f 7 dp i p x).1 = 1 → EvL V0 VL G ext B e D mi220 0 (entL [.ref 74, .int (nI l)] 7) V l b (prs o tc tv f 7 dp i p x)
def Sn8 (V0 : VIT) (VL : VLT) (G : VRT) (ext : HL) (B n : Nat) (e : Env) (o : Bool) (tc tv : Nat → Nat) (f : Nat) : Prop := ∀ dp i p x l b0 b v V D z4 z5 z6, dp ≤ 8 → 3 * (8 - dp) + 13 ≤ D → i ≤ n → l ≤ 1 → FrE V0 V → At B i b V → Rel l b0 (x e) v b → (prs o tc tv f 8 dp i p x).1 = 1 → EvL V0 VL G ext B e D mi220 6 [.ref 74, .int (nI l), .long v, .retAddr 8, z4, z5, z6] V l b0 (prs o tc tv f 8 dp i p x)
def Sn9 (V0 : VIT) (VL : VLT) (G : VRT) (ext : HL) (B n : Nat) (e : Env) (o : Bool) (tc tv : Nat → Nat) (f : Nat) : Prop := ∀ dp i p x l b V D, dp ≤ 8 → 3 * (8 - dp) + 12 ≤ D → i ≤ n → l ≤ 1 → FrE V0 V → At B i b V → (prs o tc tv f 9 dp i p x).1 = 1 → EvL V0 VL G ext B e D mi221 0 (entL [.ref 74, .int (nI l)] 4) V l b (prs o tc tv f 9 dp i p x)
set_option maxRecDepth 20000 in
theorem sn5 (hE : EvS K B n tc V0) (h7 : Sn7 V0 VL G ext B n e o tc tv f) (h6 : Sn6 V0 VL G ext B n e o tc tv f) : Sn5 V0 VL G ext B n e o tc tv (f + 1) := by
  intro dp i p x l b V D hd hD hi hl hF hA hr
  have e5 : prs o tc tv (f + 1) 5 dp i p x = pbd (prs o tc tv f 7 dp i p x) (fun i' p' y => prs o tc tv f 6 dp i' p' y) := rfl
  rw [e5] at hr ⊢
  obtain ⟨g1, g2⟩ := pbd_1 hr
  rw [g2] at hr ⊢
  obtain ⟨o1, o2, o3⟩ := prs_ok (o := o) (tv := tv) hE.2.2.2.2.2.1 f 7 dp i p x hi g1
  obtain ⟨d, rfl⟩ : ∃ d, D = d + 4 := ⟨D - 4, by omega⟩
  intro P hP
  refine x_aload_n rfl rfl ?_
  refine x_iload_n rfl rfl ?_
  refine x_callV (M' := mi220) (As := [_]) (bc1 := 0) (bs1 := 0) (bc2 := 0) (bs2 := 0) rfl rfl rfl rfl ok220 rfl rfl (by decide) rfl rfl rfl rfl rfl rfl ?_
  refine h7 dp i p x l b V (d + 3) hd (by omega) hi hl hF hA g1 _ (fun v V' b' hF' hA' hR => ?_)
  refine x_lstore_n (ls' := [_, _, _, _, _, _, _]) rfl rfl rfl ?_
  exact h6 dp _ _ _ l b b' v V' (d + 4) _ _ _ hd hD o2 hl hF' hA' hR hr P hP
set_option maxRecDepth 20000 in
theorem sn7 (hE : EvS K B n tc V0) (h7 : Sn9 V0 VL G ext B n e o tc tv f) (h6 : Sn8 V0 VL G ext B n e o tc tv f) : Sn7 V0 VL G ext B n e o tc tv (f + 1) := by
  intro dp i p x l b V D hd hD hi hl hF hA hr
  have e5 : prs o tc tv (f + 1) 7 dp i p x = pbd (prs o tc tv f 9 dp i p x) (fun i' p' y => prs o tc tv f 8 dp i' p' y) := rfl
  rw [e5] at hr ⊢
  obtain ⟨g1, g2⟩ := pbd_1 hr
  rw [g2] at hr ⊢
  obtain ⟨o1, o2, o3⟩ := prs_ok (o := o) (tv := tv) hE.2.2.2.2.2.1 f 9 dp i p x hi g1
  obtain ⟨d, rfl⟩ : ∃ d, D = d + 3 := ⟨D - 3, by omega⟩
  intro P hP
  refine x_aload_n rfl rfl ?_
  refine x_iload_n rfl rfl ?_
  refine x_callV (M' := mi221) (As := [_]) (bc1 := 0) (bs1 := 0) (bc2 := 0) (bs2 := 0) rfl rfl rfl rfl ok221 rfl rfl (by decide) rfl rfl rfl rfl rfl rfl ?_
  refine h7 dp i p x l b V (d + 2) hd (by omega) hi hl hF hA g1 _ (fun v V' b' hF' hA' hR => ?_)
  refine x_lstore_n (ls' := [_, _, _, _, _, _, _]) rfl rfl rfl ?_
  exact h6 dp _ _ _ l b b' v V' (d + 3) _ _ _ hd hD o2 hl hF' hA' hR hr P hP
set_option maxRecDepth 20000 in
theorem sn6 (hE : EvS K B n tc V0) (h7 : Sn7 V0 VL G ext B n e o tc tv f) (h6 : Sn6 V0 VL G ext B n e o tc tv f) : Sn6 V0 VL G ext B n e o tc tv (f + 1) := by
  intro dp i p x l b0 b v V D z4 z5 z6 hd hD hi hl hF hA hR hr
  have hE1 := hE.fr hF
  have h7c := hE.2.2.2.2.2.2 i
  have hn4 := hE.2.2.2.1
  have hB4 := hE.2.2.1
  obtain ⟨d, rfl⟩ : ∃ d, D = d + 4 := ⟨D - 4, by omega⟩
  by_cases c : tc i = 143
  · have e6 : prs o tc tv (f + 1) 6 dp i p x = pbd (prs o tc tv f 7 dp (i + 1) p x) (fun i' p' y => prs o tc tv f 6 dp i' p' (dBin 43 x y)) := by
      show (if tc i = 143 ∨ tc i = 145 then pbd (prs o tc tv f 7 dp (i + 1) p x) (fun i' p' y => prs o tc tv f 6 dp i' p' (dBin (tc i - 100) x y)) else (1, i, p, x)) = _
      rw [if_pos (by omega), c]
    rw [e6] at hr ⊢
    obtain ⟨g1, g2⟩ := pbd_1 hr
    rw [g2] at hr ⊢
    have hin : i < n := Nat.lt_of_not_le (fun z => by have := hE.2.2.2.2.2.1 i z; omega)
    obtain ⟨o1, o2, o3⟩ := prs_ok (o := o) (tv := tv) hE.2.2.2.2.2.1 f 7 dp (i + 1) p x hin g1
    intro P hP
    refine x_aload_n rfl rfl ?_
    refine x_aload_n rfl rfl ?_
    refine x_getE (y := 22) rfl rfl rfl (hA.1) ?_
    refine x_callV (M' := mi216) (As := [_]) (bc1 := 0) (bs1 := 0) (bc2 := 0) (bs2 := 0) rfl rfl rfl rfl ok216 rfl rfl (by decide) rfl rfl rfl rfl rfl rfl ?_
    refine m_codeAt hE1 (by omega) ?_
    rw [c]
    refine x_bipushN (q := 43) rfl ?_
    refine x_callS (M' := mi199) (As := [_]) (bc1 := 0) (bs1 := 0) (bc2 := 0) (bs2 := 0) rfl rfl rfl rfl ok199 rfl rfl rfl rfl rfl rfl ?_
    refine m_sign (by omega) ?_
    refine x_icmpN_eq rfl (fun c19 => ?_) (fun c19 => ?_)
    rotate_left
    · exact absurd c19 (by first | decide | omega)
    refine x_aload_n rfl rfl ?_
    refine x_aload_n rfl rfl ?_
    refine x_getE (y := 22) rfl rfl rfl (hA.1) ?_
    refine x_callV (M' := mi216) (As := [_]) (bc1 := 0) (bs1 := 0) (bc2 := 0) (bs2 := 0) rfl rfl rfl rfl ok216 rfl rfl (by decide) rfl rfl rfl rfl rfl rfl ?_
    refine m_codeAt hE1 (by omega) ?_
    rw [c]
    refine x_bipushN (q := 43) rfl ?_
    refine x_callS (M' := mi199) (As := [_]) (bc1 := 0) (bs1 := 0) (bc2 := 0) (bs2 := 0) rfl rfl rfl rfl ok199 rfl rfl rfl rfl rfl rfl ?_
    refine m_sign (by omega) ?_
    refine x_icmpN_ne rfl (fun c51 => ?_) (fun c51 => ?_)
    · exact absurd c51 (by first | decide | omega)
    refine x_iconstN (q := 1) rfl ?_
    refine x_goto rfl ?_
    refine x_istore (ls' := [_, _, _, _, _, _, _]) rfl rfl rfl ?_
    refine x_aload_n rfl rfl ?_
    refine x_dup rfl rfl ?_
    refine x_getE (y := 22) rfl rfl rfl (hA.1) ?_
    refine x_iconstN (q := 1) rfl ?_
    refine x_iaddN rfl ?_
    refine x_putI rfl rfl rfl rfl ?_
    refine x_aload_n rfl rfl ?_
    refine x_iload_n rfl rfl ?_
    refine x_callV (M' := mi220) (As := [_]) (bc1 := 0) (bs1 := 0) (bc2 := 0) (bs2 := 0) rfl rfl rfl rfl ok220 rfl rfl (by decide) rfl rfl rfl rfl rfl rfl ?_
    refine h7 dp (i + 1) p x l b _ (d + 3) hd (by omega) hin hl hF.go ⟨up_at, (up_at' (by omega)).trans hA.2.1, hA.2.2⟩ g1 _ (fun w V2 b2 hF2 hA2 hR2 => ?_)
    refine x_lstore (ls' := [_, _, _, _, _, _, _]) rfl rfl rfl ?_
    refine x_aload_n rfl rfl ?_
    refine x_iload rfl rfl ?_
    refine x_ifN_eq rfl (fun c81 => ?_) (fun c81 => ?_)
    · exact absurd c81 (by first | decide | omega)
    refine x_lload_n rfl rfl ?_
    refine x_lload rfl rfl ?_
    refine x_ladd rfl ?_
    refine x_goto rfl ?_
    refine x_iload_n rfl rfl ?_
    refine x_callV (M' := mi218) (As := [_, _]) (bc1 := 0) (bs1 := 0) (bc2 := 0) (bs2 := 0) rfl rfl rfl rfl ok218 rfl rfl (by decide) rfl rfl rfl rfl rfl rfl ?_
    refine m_bounded hl hA2.2.1 hA2.2.2 (fun u V3 b3 hF3 hg3 hb3 hb3l hR3 => ?_)
    refine x_lstore_n (ls' := [_, _, _, _, _, _, _]) rfl rfl rfl ?_
    refine x_goto rfl ?_
    exact h6 dp _ _ _ l b0 b3 u V3 (d + 4) _ _ _ hd hD o2 hl (hF2.trans hF3) ⟨hg3.trans hA2.1, hb3, hb3l⟩ (rel_bin (op := 43) hR hR2 hR3 jn_add) hr P hP
  · by_cases c' : tc i = 145
    · have c := c'
      have e6 : prs o tc tv (f + 1) 6 dp i p x = pbd (prs o tc tv f 7 dp (i + 1) p x) (fun i' p' y => prs o tc tv f 6 dp i' p' (dBin 45 x y)) := by
        show (if tc i = 143 ∨ tc i = 145 then pbd (prs o tc tv f 7 dp (i + 1) p x) (fun i' p' y => prs o tc tv f 6 dp i' p' (dBin (tc i - 100) x y)) else (1, i, p, x)) = _
        rw [if_pos (by omega), c]
      rw [e6] at hr ⊢
      obtain ⟨g1, g2⟩ := pbd_1 hr
      rw [g2] at hr ⊢
      have hin : i < n := Nat.lt_of_not_le (fun z => by have := hE.2.2.2.2.2.1 i z; omega)
      obtain ⟨o1, o2, o3⟩ := prs_ok (o := o) (tv := tv) hE.2.2.2.2.2.1 f 7 dp (i + 1) p x hin g1
      intro P hP
      refine x_aload_n rfl rfl ?_
      refine x_aload_n rfl rfl ?_
      refine x_getE (y := 22) rfl rfl rfl (hA.1) ?_
      refine x_callV (M' := mi216) (As := [_]) (bc1 := 0) (bs1 := 0) (bc2 := 0) (bs2 := 0) rfl rfl rfl rfl ok216 rfl rfl (by decide) rfl rfl rfl rfl rfl rfl ?_
      refine m_codeAt hE1 (by omega) ?_
      rw [c]
      refine x_bipushN (q := 43) rfl ?_
      refine x_callS (M' := mi199) (As := [_]) (bc1 := 0) (bs1 := 0) (bc2 := 0) (bs2 := 0) rfl rfl rfl rfl ok199 rfl rfl rfl rfl rfl rfl ?_
      refine m_sign (by omega) ?_
      refine x_icmpN_eq rfl (fun c19 => ?_) (fun c19 => ?_)
      · exact absurd c19 (by first | decide | omega)
      refine x_aload_n rfl rfl ?_
      refine x_aload_n rfl rfl ?_
      refine x_getE (y := 22) rfl rfl rfl (hA.1) ?_
      refine x_callV (M' := mi216) (As := [_]) (bc1 := 0) (bs1 := 0) (bc2 := 0) (bs2 := 0) rfl rfl rfl rfl ok216 rfl rfl (by decide) rfl rfl rfl rfl rfl rfl ?_
      refine m_codeAt hE1 (by omega) ?_
      rw [c]
      refine x_bipushN (q := 45) rfl ?_
      refine x_callS (M' := mi199) (As := [_]) (bc1 := 0) (bs1 := 0) (bc2 := 0) (bs2 := 0) rfl rfl rfl rfl ok199 rfl rfl rfl rfl rfl rfl ?_
      refine m_sign (by omega) ?_
      refine x_icmpN_ne rfl (fun c35 => ?_) (fun c35 => ?_)
      · exact absurd c35 (by first | decide | omega)
      refine x_aload_n rfl rfl ?_
      refine x_aload_n rfl rfl ?_
      refine x_getE (y := 22) rfl rfl rfl (hA.1) ?_
      refine x_callV (M' := mi216) (As := [_]) (bc1 := 0) (bs1 := 0) (bc2 := 0) (bs2 := 0) rfl rfl rfl rfl ok216 rfl rfl (by decide) rfl rfl rfl rfl rfl rfl ?_
      refine m_codeAt hE1 (by omega) ?_
      rw [c]
      refine x_bipushN (q := 43) rfl ?_
      refine x_callS (M' := mi199) (As := [_]) (bc1 := 0) (bs1 := 0) (bc2 := 0) (bs2 := 0) rfl rfl rfl rfl ok199 rfl rfl rfl rfl rfl rfl ?_
      refine m_sign (by omega) ?_
      refine x_icmpN_ne rfl (fun c51 => ?_) (fun c51 => ?_)
      rotate_left
      · exact absurd c51 (by first | decide | omega)
      refine x_iconstN (q := 0) rfl ?_
      refine x_istore (ls' := [_, _, _, _, _, _, _]) rfl rfl rfl ?_
      refine x_aload_n rfl rfl ?_
      refine x_dup rfl rfl ?_
      refine x_getE (y := 22) rfl rfl rfl (hA.1) ?_
      refine x_iconstN (q := 1) rfl ?_
      refine x_iaddN rfl ?_
      refine x_putI rfl rfl rfl rfl ?_
      refine x_aload_n rfl rfl ?_
      refine x_iload_n rfl rfl ?_
      refine x_callV (M' := mi220) (As := [_]) (bc1 := 0) (bs1 := 0) (bc2 := 0) (bs2 := 0) rfl rfl rfl rfl ok220 rfl rfl (by decide) rfl rfl rfl rfl rfl rfl ?_
      refine h7 dp (i + 1) p x l b _ (d + 3) hd (by omega) hin hl hF.go ⟨up_at, (up_at' (by omega)).trans hA.2.1, hA.2.2⟩ g1 _ (fun w V2 b2 hF2 hA2 hR2 => ?_)
      refine x_lstore (ls' := [_, _, _, _, _, _, _]) rfl rfl rfl ?_
      refine x_aload_n rfl rfl ?_
      refine x_iload rfl rfl ?_
      refine x_ifN_eq rfl (fun c81 => ?_) (fun c81 => ?_)
      rotate_left
      · exact absurd c81 (by first | decide | omega)
      refine x_lload_n rfl rfl ?_
      refine x_lload rfl rfl ?_
      refine x_lsub rfl ?_
      refine x_iload_n rfl rfl ?_
      refine x_callV (M' := mi218) (As := [_, _]) (bc1 := 0) (bs1 := 0) (bc2 := 0) (bs2 := 0) rfl rfl rfl rfl ok218 rfl rfl (by decide) rfl rfl rfl rfl rfl rfl ?_
      refine m_bounded hl hA2.2.1 hA2.2.2 (fun u V3 b3 hF3 hg3 hb3 hb3l hR3 => ?_)
      refine x_lstore_n (ls' := [_, _, _, _, _, _, _]) rfl rfl rfl ?_
      refine x_goto rfl ?_
      exact h6 dp _ _ _ l b0 b3 u V3 (d + 4) _ _ _ hd hD o2 hl (hF2.trans hF3) ⟨hg3.trans hA2.1, hb3, hb3l⟩ (rel_bin (op := 45) hR hR2 hR3 jn_sub) hr P hP
    · have e6 : prs o tc tv (f + 1) 6 dp i p x = (1, i, p, x) := by
        show (if tc i = 143 ∨ tc i = 145 then pbd (prs o tc tv f 7 dp (i + 1) p x) (fun i' p' y => prs o tc tv f 6 dp i' p' (dBin (tc i - 100) x y)) else (1, i, p, x)) = _
        rw [if_neg (by omega)]
      rw [e6] at hr ⊢
      intro P hP
      refine x_aload_n rfl rfl ?_
      refine x_aload_n rfl rfl ?_
      refine x_getE (y := 22) rfl rfl rfl (hA.1) ?_
      refine x_callV (M' := mi216) (As := [_]) (bc1 := 0) (bs1 := 0) (bc2 := 0) (bs2 := 0) rfl rfl rfl rfl ok216 rfl rfl (by decide) rfl rfl rfl rfl rfl rfl ?_
      refine m_codeAt hE1 (by omega) ?_
      refine x_bipushN (q := 43) rfl ?_
      refine x_callS (M' := mi199) (As := [_]) (bc1 := 0) (bs1 := 0) (bc2 := 0) (bs2 := 0) rfl rfl rfl rfl ok199 rfl rfl rfl rfl rfl rfl ?_
      refine m_sign (by omega) ?_
      refine x_icmpN_eq rfl (fun c19 => ?_) (fun c19 => ?_)
      · exact absurd c19 (by first | decide | omega)
      refine x_aload_n rfl rfl ?_
      refine x_aload_n rfl rfl ?_
      refine x_getE (y := 22) rfl rfl rfl (hA.1) ?_
      refine x_callV (M' := mi216) (As := [_]) (bc1 := 0) (bs1 := 0) (bc2 := 0) (bs2 := 0) rfl rfl rfl rfl ok216 rfl rfl (by decide) rfl rfl rfl rfl rfl rfl ?_
      refine m_codeAt hE1 (by omega) ?_
      refine x_bipushN (q := 45) rfl ?_
      refine x_callS (M' := mi199) (As := [_]) (bc1 := 0) (bs1 := 0) (bc2 := 0) (bs2 := 0) rfl rfl rfl rfl ok199 rfl rfl rfl rfl rfl rfl ?_
      refine m_sign (by omega) ?_
      refine x_icmpN_ne rfl (fun c35 => ?_) (fun c35 => ?_)
      rotate_left
      · exact absurd c35 (by first | decide | omega)
      refine x_lload_n rfl rfl ?_
      refine x_lret rfl rfl ?_
      exact hP v V b hF hA hR
set_option maxRecDepth 20000 in
theorem sn8 (hE : EvS K B n tc V0) (h7 : Sn9 V0 VL G ext B n e o tc tv f) (h6 : Sn8 V0 VL G ext B n e o tc tv f) : Sn8 V0 VL G ext B n e o tc tv (f + 1) := by
  intro dp i p x l b0 b v V D z4 z5 z6 hd hD hi hl hF hA hR hr
  have hE1 := hE.fr hF
  have h7c := hE.2.2.2.2.2.2 i
  have hn4 := hE.2.2.2.1
  have hB4 := hE.2.2.1
  obtain ⟨d, rfl⟩ : ∃ d, D = d + 3 := ⟨D - 3, by omega⟩
  by_cases c1 : tc i = 142
  · have c := c1
    have e6 : prs o tc tv (f + 1) 8 dp i p x = pbd (prs o tc tv f 9 dp (i + 1) p x) (fun i' p' y => prs o tc tv f 8 dp i' p' (dBin 42 x y)) := by
      show (if tc i = 142 ∨ tc i = 147 ∨ tc i = 137 then pbd (prs o tc tv f 9 dp (i + 1) p x) (fun i' p' y => prs o tc tv f 8 dp i' p' (dBin (tc i - 100) x y)) else (1, i, p, x)) = _
      rw [if_pos (by omega), c]
    rw [e6] at hr ⊢
    obtain ⟨g1, g2⟩ := pbd_1 hr
    rw [g2] at hr ⊢
    have hin : i < n := Nat.lt_of_not_le (fun z => by have := hE.2.2.2.2.2.1 i z; omega)
    obtain ⟨o1, o2, o3⟩ := prs_ok (o := o) (tv := tv) hE.2.2.2.2.2.1 f 9 dp (i + 1) p x hin g1
    intro P hP
    refine x_aload_n rfl rfl ?_
    refine x_aload_n rfl rfl ?_
    refine x_getE (y := 22) rfl rfl rfl (hA.1) ?_
    refine x_callV (M' := mi216) (As := [_]) (bc1 := 0) (bs1 := 0) (bc2 := 0) (bs2 := 0) rfl rfl rfl rfl ok216 rfl rfl (by decide) rfl rfl rfl rfl rfl rfl ?_
    refine m_codeAt hE1 (by omega) ?_
    rw [c]
    refine x_bipushN (q := 42) rfl ?_
    refine x_callS (M' := mi199) (As := [_]) (bc1 := 0) (bs1 := 0) (bc2 := 0) (bs2 := 0) rfl rfl rfl rfl ok199 rfl rfl rfl rfl rfl rfl ?_
    refine m_sign (by omega) ?_
    refine x_icmpN_eq rfl (fun c19 => ?_) (fun c19 => ?_)
    rotate_left
    · exact absurd c19 (by first | decide | omega)
    refine x_aload_n rfl rfl ?_
    refine x_aload_n rfl rfl ?_
    refine x_getE (y := 22) rfl rfl rfl (hA.1) ?_
    refine x_callV (M' := mi216) (As := [_]) (bc1 := 0) (bs1 := 0) (bc2 := 0) (bs2 := 0) rfl rfl rfl rfl ok216 rfl rfl (by decide) rfl rfl rfl rfl rfl rfl ?_
    refine m_codeAt hE1 (by omega) ?_
    rw [c]
    refine x_istore (ls' := [_, _, _, _, _, _, _]) rfl rfl rfl ?_
    refine x_aload_n rfl rfl ?_
    refine x_dup rfl rfl ?_
    refine x_getE (y := 22) rfl rfl rfl (hA.1) ?_
    refine x_iconstN (q := 1) rfl ?_
    refine x_iaddN rfl ?_
    refine x_putI rfl rfl rfl rfl ?_
    refine x_aload_n rfl rfl ?_
    refine x_iload_n rfl rfl ?_
    refine x_callV (M' := mi221) (As := [_]) (bc1 := 0) (bs1 := 0) (bc2 := 0) (bs2 := 0) rfl rfl rfl rfl ok221 rfl rfl (by decide) rfl rfl rfl rfl rfl rfl ?_
    refine h7 dp (i + 1) p x l b _ (d + 2) hd (by omega) hin hl hF.go ⟨up_at, (up_at' (by omega)).trans hA.2.1, hA.2.2⟩ g1 _ (fun w V2 b2 hF2 hA2 hR2 => ?_)
    refine x_lstore (ls' := [_, _, _, _, _, _, _]) rfl rfl rfl ?_
    refine x_iload rfl rfl ?_
    refine x_bipushN (q := 42) rfl ?_
    refine x_callS (M' := mi199) (As := [_]) (bc1 := 0) (bs1 := 0) (bc2 := 0) (bs2 := 0) rfl rfl rfl rfl ok199 rfl rfl rfl rfl rfl rfl ?_
    refine m_sign (by omega) ?_
    refine x_icmpN_eq rfl (fun c88 => ?_) (fun c88 => ?_)
    rotate_left
    · exact absurd c88 (by first | decide | omega)
    skip
    exact t_mul (d := d + 2) hl hA2.2.1 hA2.2.2 (fun u V3 b3 hF3 hg3 hb3 hb3l hR3 => by exact h6 dp _ _ _ l b0 b3 u V3 (d + 3) _ _ _ hd hD o2 hl (hF2.trans hF3) ⟨hg3.trans hA2.1, hb3, hb3l⟩ (rel_bin (op := 42) hR hR2 hR3 jn_mul) hr P hP)
  · by_cases c2 : tc i = 147
    · have c := c2
      have e6 : prs o tc tv (f + 1) 8 dp i p x = pbd (prs o tc tv f 9 dp (i + 1) p x) (fun i' p' y => prs o tc tv f 8 dp i' p' (dBin 47 x y)) := by
        show (if tc i = 142 ∨ tc i = 147 ∨ tc i = 137 then pbd (prs o tc tv f 9 dp (i + 1) p x) (fun i' p' y => prs o tc tv f 8 dp i' p' (dBin (tc i - 100) x y)) else (1, i, p, x)) = _
        rw [if_pos (by omega), c]
      rw [e6] at hr ⊢
      obtain ⟨g1, g2⟩ := pbd_1 hr
      rw [g2] at hr ⊢
      have hin : i < n := Nat.lt_of_not_le (fun z => by have := hE.2.2.2.2.2.1 i z; omega)
      obtain ⟨o1, o2, o3⟩ := prs_ok (o := o) (tv := tv) hE.2.2.2.2.2.1 f 9 dp (i + 1) p x hin g1
      intro P hP
      refine x_aload_n rfl rfl ?_
      refine x_aload_n rfl rfl ?_
      refine x_getE (y := 22) rfl rfl rfl (hA.1) ?_
      refine x_callV (M' := mi216) (As := [_]) (bc1 := 0) (bs1 := 0) (bc2 := 0) (bs2 := 0) rfl rfl rfl rfl ok216 rfl rfl (by decide) rfl rfl rfl rfl rfl rfl ?_
      refine m_codeAt hE1 (by omega) ?_
      rw [c]
      refine x_bipushN (q := 42) rfl ?_
      refine x_callS (M' := mi199) (As := [_]) (bc1 := 0) (bs1 := 0) (bc2 := 0) (bs2 := 0) rfl rfl rfl rfl ok199 rfl rfl rfl rfl rfl rfl ?_
      refine m_sign (by omega) ?_
      refine x_icmpN_eq rfl (fun c19 => ?_) (fun c19 => ?_)
      · exact absurd c19 (by first | decide | omega)
      refine x_aload_n rfl rfl ?_
      refine x_aload_n rfl rfl ?_
      refine x_getE (y := 22) rfl rfl rfl (hA.1) ?_
      refine x_callV (M' := mi216) (As := [_]) (bc1 := 0) (bs1 := 0) (bc2 := 0) (bs2 := 0) rfl rfl rfl rfl ok216 rfl rfl (by decide) rfl rfl rfl rfl rfl rfl ?_
      refine m_codeAt hE1 (by omega) ?_
      rw [c]
      refine x_bipushN (q := 47) rfl ?_
      refine x_callS (M' := mi199) (As := [_]) (bc1 := 0) (bs1 := 0) (bc2 := 0) (bs2 := 0) rfl rfl rfl rfl ok199 rfl rfl rfl rfl rfl rfl ?_
      refine m_sign (by omega) ?_
      refine x_icmpN_eq rfl (fun c35 => ?_) (fun c35 => ?_)
      rotate_left
      · exact absurd c35 (by first | decide | omega)
      refine x_aload_n rfl rfl ?_
      refine x_aload_n rfl rfl ?_
      refine x_getE (y := 22) rfl rfl rfl (hA.1) ?_
      refine x_callV (M' := mi216) (As := [_]) (bc1 := 0) (bs1 := 0) (bc2 := 0) (bs2 := 0) rfl rfl rfl rfl ok216 rfl rfl (by decide) rfl rfl rfl rfl rfl rfl ?_
      refine m_codeAt hE1 (by omega) ?_
      rw [c]
      refine x_istore (ls' := [_, _, _, _, _, _, _]) rfl rfl rfl ?_
      refine x_aload_n rfl rfl ?_
      refine x_dup rfl rfl ?_
      refine x_getE (y := 22) rfl rfl rfl (hA.1) ?_
      refine x_iconstN (q := 1) rfl ?_
      refine x_iaddN rfl ?_
      refine x_putI rfl rfl rfl rfl ?_
      refine x_aload_n rfl rfl ?_
      refine x_iload_n rfl rfl ?_
      refine x_callV (M' := mi221) (As := [_]) (bc1 := 0) (bs1 := 0) (bc2 := 0) (bs2 := 0) rfl rfl rfl rfl ok221 rfl rfl (by decide) rfl rfl rfl rfl rfl rfl ?_
      refine h7 dp (i + 1) p x l b _ (d + 2) hd (by omega) hin hl hF.go ⟨up_at, (up_at' (by omega)).trans hA.2.1, hA.2.2⟩ g1 _ (fun w V2 b2 hF2 hA2 hR2 => ?_)
      refine x_lstore (ls' := [_, _, _, _, _, _, _]) rfl rfl rfl ?_
      refine x_iload rfl rfl ?_
      refine x_bipushN (q := 42) rfl ?_
      refine x_callS (M' := mi199) (As := [_]) (bc1 := 0) (bs1 := 0) (bc2 := 0) (bs2 := 0) rfl rfl rfl rfl ok199 rfl rfl rfl rfl rfl rfl ?_
      refine m_sign (by omega) ?_
      refine x_icmpN_eq rfl (fun c88 => ?_) (fun c88 => ?_)
      · exact absurd c88 (by first | decide | omega)
      skip
      by_cases hw : w = 0
      · have hz : w.toInt = 0 := by rw [hw]; rfl
        refine x_lload rfl rfl ?_
        refine x_lconst rfl ?_
        refine x_lcmp rfl ?_
        refine x_if_ne rfl (fun c95 => ?_) (fun c95 => ?_)
        · exact absurd (lgE.mpr hz) c95
        skip
        refine t_fix (D := d + 2) hl hA2.2.1 hA2.2.2 (fun b4 hb4 h4 => ?_)
        refine t_div (d := d + 2) (by decide) hl up_at hb4 (fun u V3 b3 hF3 hg3 hb3 hb3l hR3 => ?_)
        exact h6 dp _ _ _ l b0 b3 u V3 (d + 3) _ _ _ hd hD o2 hl ((hF2.br).trans hF3) ⟨hg3.trans ((up_at' (by omega)).trans hA2.1), hb3, hb3l⟩ (rel_zero (op := 47) hl hR hR2 hz h4 hR3 (fun a => rfl)) hr P hP
      · refine x_lload rfl rfl ?_
        refine x_lconst rfl ?_
        refine x_lcmp rfl ?_
        refine x_if_ne rfl (fun c95 => ?_) (fun c95 => ?_)
        rotate_left
        · exact absurd (Int64.toInt_inj.mp (lgE.mp c95)) hw
        skip
        exact t_div (d := d + 2) hw hl hA2.2.1 hA2.2.2 (fun u V3 b3 hF3 hg3 hb3 hb3l hR3 => by exact h6 dp _ _ _ l b0 b3 u V3 (d + 3) _ _ _ hd hD o2 hl (hF2.trans hF3) ⟨hg3.trans hA2.1, hb3, hb3l⟩ (rel_bin (op := 47) hR hR2 hR3 (jn_div hw)) hr P hP)
    · by_cases c3 : tc i = 137
      · have c := c3
        have e6 : prs o tc tv (f + 1) 8 dp i p x = pbd (prs o tc tv f 9 dp (i + 1) p x) (fun i' p' y => prs o tc tv f 8 dp i' p' (dBin 37 x y)) := by
          show (if tc i = 142 ∨ tc i = 147 ∨ tc i = 137 then pbd (prs o tc tv f 9 dp (i + 1) p x) (fun i' p' y => prs o tc tv f 8 dp i' p' (dBin (tc i - 100) x y)) else (1, i, p, x)) = _
          rw [if_pos (by omega), c]
        rw [e6] at hr ⊢
        obtain ⟨g1, g2⟩ := pbd_1 hr
        rw [g2] at hr ⊢
        have hin : i < n := Nat.lt_of_not_le (fun z => by have := hE.2.2.2.2.2.1 i z; omega)
        obtain ⟨o1, o2, o3⟩ := prs_ok (o := o) (tv := tv) hE.2.2.2.2.2.1 f 9 dp (i + 1) p x hin g1
        intro P hP
        refine x_aload_n rfl rfl ?_
        refine x_aload_n rfl rfl ?_
        refine x_getE (y := 22) rfl rfl rfl (hA.1) ?_
        refine x_callV (M' := mi216) (As := [_]) (bc1 := 0) (bs1 := 0) (bc2 := 0) (bs2 := 0) rfl rfl rfl rfl ok216 rfl rfl (by decide) rfl rfl rfl rfl rfl rfl ?_
        refine m_codeAt hE1 (by omega) ?_
        rw [c]
        refine x_bipushN (q := 42) rfl ?_
        refine x_callS (M' := mi199) (As := [_]) (bc1 := 0) (bs1 := 0) (bc2 := 0) (bs2 := 0) rfl rfl rfl rfl ok199 rfl rfl rfl rfl rfl rfl ?_
        refine m_sign (by omega) ?_
        refine x_icmpN_eq rfl (fun c19 => ?_) (fun c19 => ?_)
        · exact absurd c19 (by first | decide | omega)
        refine x_aload_n rfl rfl ?_
        refine x_aload_n rfl rfl ?_
        refine x_getE (y := 22) rfl rfl rfl (hA.1) ?_
        refine x_callV (M' := mi216) (As := [_]) (bc1 := 0) (bs1 := 0) (bc2 := 0) (bs2 := 0) rfl rfl rfl rfl ok216 rfl rfl (by decide) rfl rfl rfl rfl rfl rfl ?_
        refine m_codeAt hE1 (by omega) ?_
        rw [c]
        refine x_bipushN (q := 47) rfl ?_
        refine x_callS (M' := mi199) (As := [_]) (bc1 := 0) (bs1 := 0) (bc2 := 0) (bs2 := 0) rfl rfl rfl rfl ok199 rfl rfl rfl rfl rfl rfl ?_
        refine m_sign (by omega) ?_
        refine x_icmpN_eq rfl (fun c35 => ?_) (fun c35 => ?_)
        · exact absurd c35 (by first | decide | omega)
        refine x_aload_n rfl rfl ?_
        refine x_aload_n rfl rfl ?_
        refine x_getE (y := 22) rfl rfl rfl (hA.1) ?_
        refine x_callV (M' := mi216) (As := [_]) (bc1 := 0) (bs1 := 0) (bc2 := 0) (bs2 := 0) rfl rfl rfl rfl ok216 rfl rfl (by decide) rfl rfl rfl rfl rfl rfl ?_
        refine m_codeAt hE1 (by omega) ?_
        rw [c]
        refine x_bipushN (q := 37) rfl ?_
        refine x_callS (M' := mi199) (As := [_]) (bc1 := 0) (bs1 := 0) (bc2 := 0) (bs2 := 0) rfl rfl rfl rfl ok199 rfl rfl rfl rfl rfl rfl ?_
        refine m_sign (by omega) ?_
        refine x_icmpN_ne rfl (fun c51 => ?_) (fun c51 => ?_)
        · exact absurd c51 (by first | decide | omega)
        refine x_aload_n rfl rfl ?_
        refine x_aload_n rfl rfl ?_
        refine x_getE (y := 22) rfl rfl rfl (hA.1) ?_
        refine x_callV (M' := mi216) (As := [_]) (bc1 := 0) (bs1 := 0) (bc2 := 0) (bs2 := 0) rfl rfl rfl rfl ok216 rfl rfl (by decide) rfl rfl rfl rfl rfl rfl ?_
        refine m_codeAt hE1 (by omega) ?_
        rw [c]
        refine x_istore (ls' := [_, _, _, _, _, _, _]) rfl rfl rfl ?_
        refine x_aload_n rfl rfl ?_
        refine x_dup rfl rfl ?_
        refine x_getE (y := 22) rfl rfl rfl (hA.1) ?_
        refine x_iconstN (q := 1) rfl ?_
        refine x_iaddN rfl ?_
        refine x_putI rfl rfl rfl rfl ?_
        refine x_aload_n rfl rfl ?_
        refine x_iload_n rfl rfl ?_
        refine x_callV (M' := mi221) (As := [_]) (bc1 := 0) (bs1 := 0) (bc2 := 0) (bs2 := 0) rfl rfl rfl rfl ok221 rfl rfl (by decide) rfl rfl rfl rfl rfl rfl ?_
        refine h7 dp (i + 1) p x l b _ (d + 2) hd (by omega) hin hl hF.go ⟨up_at, (up_at' (by omega)).trans hA.2.1, hA.2.2⟩ g1 _ (fun w V2 b2 hF2 hA2 hR2 => ?_)
        refine x_lstore (ls' := [_, _, _, _, _, _, _]) rfl rfl rfl ?_
        refine x_iload rfl rfl ?_
        refine x_bipushN (q := 42) rfl ?_
        refine x_callS (M' := mi199) (As := [_]) (bc1 := 0) (bs1 := 0) (bc2 := 0) (bs2 := 0) rfl rfl rfl rfl ok199 rfl rfl rfl rfl rfl rfl ?_
        refine m_sign (by omega) ?_
        refine x_icmpN_eq rfl (fun c88 => ?_) (fun c88 => ?_)
        · exact absurd c88 (by first | decide | omega)
        skip
        by_cases hw : w = 0
        · have hz : w.toInt = 0 := by rw [hw]; rfl
          refine x_lload rfl rfl ?_
          refine x_lconst rfl ?_
          refine x_lcmp rfl ?_
          refine x_if_ne rfl (fun c95 => ?_) (fun c95 => ?_)
          · exact absurd (lgE.mpr hz) c95
          skip
          refine t_fix (D := d + 2) hl hA2.2.1 hA2.2.2 (fun b4 hb4 h4 => ?_)
          refine t_mod (d := d + 2) (by decide) hl up_at hb4 (fun u V3 b3 hF3 hg3 hb3 hb3l hR3 => ?_)
          exact h6 dp _ _ _ l b0 b3 u V3 (d + 3) _ _ _ hd hD o2 hl ((hF2.br).trans hF3) ⟨hg3.trans ((up_at' (by omega)).trans hA2.1), hb3, hb3l⟩ (rel_zero (op := 37) hl hR hR2 hz h4 hR3 (fun a => rfl)) hr P hP
        · refine x_lload rfl rfl ?_
          refine x_lconst rfl ?_
          refine x_lcmp rfl ?_
          refine x_if_ne rfl (fun c95 => ?_) (fun c95 => ?_)
          rotate_left
          · exact absurd (Int64.toInt_inj.mp (lgE.mp c95)) hw
          skip
          exact t_mod (d := d + 2) hw hl hA2.2.1 hA2.2.2 (fun u V3 b3 hF3 hg3 hb3 hb3l hR3 => by exact h6 dp _ _ _ l b0 b3 u V3 (d + 3) _ _ _ hd hD o2 hl (hF2.trans hF3) ⟨hg3.trans hA2.1, hb3, hb3l⟩ (rel_bin (op := 37) hR hR2 hR3 (jn_mod hw)) hr P hP)
      · have e6 : prs o tc tv (f + 1) 8 dp i p x = (1, i, p, x) := by
          show (if tc i = 142 ∨ tc i = 147 ∨ tc i = 137 then pbd (prs o tc tv f 9 dp (i + 1) p x) (fun i' p' y => prs o tc tv f 8 dp i' p' (dBin (tc i - 100) x y)) else (1, i, p, x)) = _
          rw [if_neg (by omega)]
        rw [e6] at hr ⊢
        intro P hP
        refine x_aload_n rfl rfl ?_
        refine x_aload_n rfl rfl ?_
        refine x_getE (y := 22) rfl rfl rfl (hA.1) ?_
        refine x_callV (M' := mi216) (As := [_]) (bc1 := 0) (bs1 := 0) (bc2 := 0) (bs2 := 0) rfl rfl rfl rfl ok216 rfl rfl (by decide) rfl rfl rfl rfl rfl rfl ?_
        refine m_codeAt hE1 (by omega) ?_
        refine x_bipushN (q := 42) rfl ?_
        refine x_callS (M' := mi199) (As := [_]) (bc1 := 0) (bs1 := 0) (bc2 := 0) (bs2 := 0) rfl rfl rfl rfl ok199 rfl rfl rfl rfl rfl rfl ?_
        refine m_sign (by omega) ?_
        refine x_icmpN_eq rfl (fun c19 => ?_) (fun c19 => ?_)
        · exact absurd c19 (by first | decide | omega)
        refine x_aload_n rfl rfl ?_
        refine x_aload_n rfl rfl ?_
        refine x_getE (y := 22) rfl rfl rfl (hA.1) ?_
        refine x_callV (M' := mi216) (As := [_]) (bc1 := 0) (bs1 := 0) (bc2 := 0) (bs2 := 0) rfl rfl rfl rfl ok216 rfl rfl (by decide) rfl rfl rfl rfl rfl rfl ?_
        refine m_codeAt hE1 (by omega) ?_
        refine x_bipushN (q := 47) rfl ?_
        refine x_callS (M' := mi199) (As := [_]) (bc1 := 0) (bs1 := 0) (bc2 := 0) (bs2 := 0) rfl rfl rfl rfl ok199 rfl rfl rfl rfl rfl rfl ?_
        refine m_sign (by omega) ?_
        refine x_icmpN_eq rfl (fun c35 => ?_) (fun c35 => ?_)
        · exact absurd c35 (by first | decide | omega)
        refine x_aload_n rfl rfl ?_
        refine x_aload_n rfl rfl ?_
        refine x_getE (y := 22) rfl rfl rfl (hA.1) ?_
        refine x_callV (M' := mi216) (As := [_]) (bc1 := 0) (bs1 := 0) (bc2 := 0) (bs2 := 0) rfl rfl rfl rfl ok216 rfl rfl (by decide) rfl rfl rfl rfl rfl rfl ?_
        refine m_codeAt hE1 (by omega) ?_
        refine x_bipushN (q := 37) rfl ?_
        refine x_callS (M' := mi199) (As := [_]) (bc1 := 0) (bs1 := 0) (bc2 := 0) (bs2 := 0) rfl rfl rfl rfl ok199 rfl rfl rfl rfl rfl rfl ?_
        refine m_sign (by omega) ?_
        refine x_icmpN_ne rfl (fun c51 => ?_) (fun c51 => ?_)
        rotate_left
        · exact absurd c51 (by first | decide | omega)
        refine x_lload_n rfl rfl ?_
        refine x_lret rfl rfl ?_
        exact hP v V b hF hA hR
def LfOn (V0 : VIT) (VL : VLT) (G : VRT) (ext : HL) (B n : Nat) (e : Env) (o : Bool) (tc tv : Nat → Nat) : Prop := ∀ f dp i p x l b V D, 12 ≤ D → i ≤ n → l ≤ 1 → FrE V0 V → At B i b V → tc i ≠ 191 → (prs o tc tv (f + 1) 9 dp i p x).1 = 1 → EvL V0 VL G ext B e D mi221 0 (entL [.ref 74, .int (nI l)] 4) V l b (prs o tc tv (f + 1) 9 dp i p x)
set_option maxRecDepth 20000 in
theorem sn9 (hE : EvS K B n tc V0) (hL : LfOn V0 VL G ext B n e o tc tv) (h5 : Sn5 V0 VL G ext B n e o tc tv f) : Sn9 V0 VL G ext B n e o tc tv (f + 1) := by
  intro dp i p x l b V D hd hD hi hl hF hA hr
  by_cases c : tc i = 191
  · have hE1 := hE.fr hF
    have hn4 := hE.2.2.2.1
    have hB4 := hE.2.2.1
    by_cases hd8 : 8 ≤ dp
    · have e9 : prs o tc tv (f + 1) 9 dp i p x = (0, i, p, x) := by
        rw [prs, if_neg (by omega), if_neg (by omega), if_neg (by omega), if_neg (by omega), if_neg (by omega), if_neg (by omega), if_neg (by omega), if_neg (by omega), if_neg (by omega), if_pos rfl, if_pos c, if_pos hd8]
      rw [e9] at hr; exact absurd hr (by show ¬ 0 = 1; omega)
    · have e9 : prs o tc tv (f + 1) 9 dp i p x = pbd (prs o tc tv f 5 (dp + 1) (i + 1) p x) (fun i' p' y => if tc i' = 193 then (1, i' + 1, p', y) else (0, i', p', y)) := by
        rw [prs, if_neg (by omega), if_neg (by omega), if_neg (by omega), if_neg (by omega), if_neg (by omega), if_neg (by omega), if_neg (by omega), if_neg (by omega), if_neg (by omega), if_pos rfl, if_pos c, if_neg hd8]
      rw [e9] at hr ⊢
      obtain ⟨g1, g2⟩ := pbd_1 hr
      rw [g2] at hr ⊢
      by_cases c2 : tc (prs o tc tv f 5 (dp + 1) (i + 1) p x).2.1 = 193
      · rw [if_pos c2] at hr ⊢
        obtain ⟨d, rfl⟩ : ∃ d, D = d + 2 := ⟨D - 2, by omega⟩
        intro P hP
        have hin : i < n := Nat.lt_of_not_le (fun z => by have := hE.2.2.2.2.2.1 i z; omega)
        obtain ⟨o1, o2, o3⟩ := prs_ok (o := o) (tv := tv) hE.2.2.2.2.2.1 f 5 (dp + 1) (i + 1) p x hin g1
        refine x_aload_n rfl rfl ?_
        refine x_bipushN (q := 91) rfl ?_
        refine x_callS (M' := mi199) (As := [_]) (bc1 := 0) (bs1 := 0) (bc2 := 0) (bs2 := 0) rfl rfl rfl rfl ok199 rfl rfl rfl rfl rfl rfl ?_
        refine m_sign (by omega) ?_
        refine x_callV (M' := mi217) (As := [_]) (bc1 := 0) (bs1 := 0) (bc2 := 0) (bs2 := 0) rfl rfl rfl rfl ok217 rfl rfl (by decide) rfl rfl rfl rfl rfl rfl ?_
        refine m_passes_yes hE1 hA.1 (by omega) c (fun _ => ?_)
        refine x_ifN_eq rfl (fun c9 => ?_) (fun c9 => ?_)
        · exact absurd c9 (by first | decide | omega)
        refine x_aload_n rfl rfl ?_
        refine x_iload_n rfl rfl ?_
        refine x_callV (M' := mi219) (As := [_]) (bc1 := 0) (bs1 := 0) (bc2 := 0) (bs2 := 0) rfl rfl rfl rfl ok219 rfl rfl (by decide) rfl rfl rfl rfl rfl rfl ?_
        refine h5 (dp + 1) (i + 1) p x l b _ (d + 1) (by omega) (by omega) hin hl hF.go ⟨up_at, (up_at' (by omega)).trans hA.2.1, hA.2.2⟩ g1 _ (fun v V2 b2 hF2 hA2 hR2 => ?_)
        refine x_lstore_n (ls' := [_, _, _, _]) rfl rfl rfl ?_
        refine x_aload_n rfl rfl ?_
        refine x_dup rfl rfl ?_
        refine x_getE (y := 22) rfl rfl rfl (hA2.1) ?_
        refine x_iconstN (q := 1) rfl ?_
        refine x_iaddN rfl ?_
        refine x_putI rfl rfl rfl rfl ?_
        refine x_lload_n rfl rfl ?_
        refine x_lret rfl rfl ?_
        exact hP v _ b2 hF2.go ⟨up_at, (up_at' (by omega)).trans hA2.2.1, hA2.2.2⟩ hR2
      · rw [if_neg c2] at hr; exact absurd hr (by show ¬ 0 = 1; omega)
  · exact hL f dp i p x l b V D (by omega) hi hl hF hA c hr
set_option maxRecDepth 20000 in
theorem sn_all (hE : EvS K B n tc V0) (hL : LfOn V0 VL G ext B n e o tc tv) : ∀ f, Sn5 V0 VL G ext B n e o tc tv f ∧ Sn6 V0 VL G ext B n e o tc tv f ∧ Sn7 V0 VL G ext B n e o tc tv f ∧ Sn8 V0 VL G ext B n e o tc tv f ∧ Sn9 V0 VL G ext B n e o tc tv f
  | 0 => ⟨fun _ _ _ _ _ _ _ _ _ _ _ _ _ _ hr => absurd hr (by show ¬ 2 = 1; omega), fun _ _ _ _ _ _ _ _ _ _ _ _ _ _ _ _ _ _ _ _ hr => absurd hr (by show ¬ 2 = 1; omega), fun _ _ _ _ _ _ _ _ _ _ _ _ _ _ hr => absurd hr (by show ¬ 2 = 1; omega), fun _ _ _ _ _ _ _ _ _ _ _ _ _ _ _ _ _ _ _ _ hr => absurd hr (by show ¬ 2 = 1; omega), fun _ _ _ _ _ _ _ _ _ _ _ _ _ _ hr => absurd hr (by show ¬ 2 = 1; omega)⟩
  | f + 1 => by
    obtain ⟨h5, h6, h7, h8, h9⟩ := sn_all hE hL f
    exact ⟨sn5 hE h7 h6, sn6 hE h7 h6, sn7 hE h9 h8, sn8 hE h9 h8, sn9 hE hL h5⟩
end Ev2n
section Ev3n
variable {d : Nat} {V0 : VIT} {VL : VLT} {G : VRT} {P : Post} {ext : HL} {K : KT} {B n f : Nat} {tc tv : Nat → Nat} {o : Bool} {e : Env}
def Tn0 (V0 : VIT) (VL : VLT) (G : VRT) (ext : HL) (B n : Nat) (e : Env) (o : Bool) (tc tv : Nat → Nat) (f : Nat) : Prop := ∀ dp i p x l b V D, dp ≤ 8 → 4 * (8 - dp) + 18 ≤ D → i ≤ n → l ≤ 1 → FrE V0 V → At B i b V → (prs o tc tv f 0 dp i p x).1 = 1 → EvB V0 VL G ext B e D mi223 0 (entL [.ref 74, .int (nI l)] 4) V l b (prs o tc tv f 0 dp i p x)
def Tn1 (V0 : VIT) (VL : VLT) (G : VRT) (ext : HL) (B n : Nat) (e : Env) (o : Bool) (tc tv : Nat → Nat) (f : Nat) : Prop := ∀ dp i p x l b0 b v V D z3, dp ≤ 8 → 4 * (8 - dp) + 18 ≤ D → i ≤ n → l ≤ 1 → FrE V0 V → At B i b V → RelB l b0 (x e) v b → (prs o tc tv f 1 dp i p x).1 = 1 → EvB V0 VL G ext B e D mi223 6 [.ref 74, .int (nI l), .int (nI v), z3] V l b0 (prs o tc tv f 1 dp i p x)
def Tn2 (V0 : VIT) (VL : VLT) (G : VRT) (ext : HL) (B n : Nat) (e : Env) (o : Bool) (tc tv : Nat → Nat) (f : Nat) : Prop := ∀ dp i p x l b V D, dp ≤ 8 → 4 * (8 - dp) + 17 ≤ D → i ≤ n → l ≤ 1 → FrE V0 V → At B i b V → (prs o tc tv f 2 dp i p x).1 = 1 → EvB V0 VL G ext B e D mi224 0 (entL [.ref 74, .int (nI l)] 4) V l b (prs o tc tv f 2 dp i p x)
def Tn3 (V0 : VIT) (VL : VLT) (G : VRT) (ext : HL) (B n : Nat) (e : Env) (o : Bool) (tc tv : Nat → Nat) (f : Nat) : Prop := ∀ dp i p x l b0 b v V D z3, dp ≤ 8 → 4 * (8 - dp) + 17 ≤ D → i ≤ n → l ≤ 1 → FrE V0 V → At B i b V → RelB l b0 (x e) v b → (prs o tc tv f 3 dp i p x).1 = 1 → EvB V0 VL G ext B e D mi224 6 [.ref 74, .int (nI l), .int (nI v), z3] V l b0 (prs o tc tv f 3 dp i p x)
def Tn4 (V0 : VIT) (VL : VLT) (G : VRT) (ext : HL) (B n : Nat) (e : Env) (o : Bool) (tc tv : Nat → Nat) (f : Nat) : Prop := ∀ dp i p x l b V D, dp ≤ 8 → 4 * (8 - dp) + 16 ≤ D → i ≤ n → l ≤ 1 → FrE V0 V → At B i b V → (prs o tc tv f 4 dp i p x).1 = 1 → EvB V0 VL G ext B e D mi225 0 (entL [.ref 74, .int (nI l)] 3) V l b (prs o tc tv f 4 dp i p x)
def Tn10 (V0 : VIT) (VL : VLT) (G : VRT) (ext : HL) (B n : Nat) (e : Env) (o : Bool) (tc tv : Nat → Nat) (f : Nat) : Prop := ∀ dp i p x l b V D, dp ≤ 8 → 4 * (8 - dp) + 15 ≤ D → i ≤ n → l ≤ 1 → FrE V0 V → At B i b V → (prs o tc tv f 10 dp i p x).1 = 1 → EvB V0 VL G ext B e D mi226 0 (entL [.ref 74, .int (nI l)] 7) V l b (prs o tc tv f 10 dp i p x)
set_option maxRecDepth 20000 in
theorem tn0 (hE : EvS K B n tc V0) (h2 : Tn2 V0 VL G ext B n e o tc tv f) (h1 : Tn1 V0 VL G ext B n e o tc tv f) : Tn0 V0 VL G ext B n e o tc tv (f + 1) := by
  intro dp i p x l b V D hd hD hi hl hF hA hr
  have e5 : prs o tc tv (f + 1) 0 dp i p x = pbd (prs o tc tv f 2 dp i p x) (fun i' p' y => prs o tc tv f 1 dp i' p' y) := rfl
  rw [e5] at hr ⊢
  obtain ⟨g1, g2⟩ := pbd_1 hr
  rw [g2] at hr ⊢
  obtain ⟨o1, o2, o3⟩ := prs_ok (o := o) (tv := tv) hE.2.2.2.2.2.1 f 2 dp i p x hi g1
  obtain ⟨d, rfl⟩ : ∃ d, D = d + 8 := ⟨D - 8, by omega⟩
  intro P hP
  refine x_aload_n rfl rfl ?_
  refine x_iload_n rfl rfl ?_
  refine x_callV (M' := mi224) (As := [_]) (bc1 := 0) (bs1 := 0) (bc2 := 0) (bs2 := 0) rfl rfl rfl rfl ok224 rfl rfl (by decide) rfl rfl rfl rfl rfl rfl ?_
  refine h2 dp i p x l b V (d + 7) hd (by omega) hi hl hF hA g1 _ (fun v V' b' hF' hA' hR => ?_)
  refine x_istore_n (ls' := [_, _, _, _]) rfl rfl rfl ?_
  exact h1 dp _ _ _ l b b' v V' (d + 8) _ hd hD o2 hl hF' hA' hR hr P hP
set_option maxRecDepth 20000 in
theorem tn2 (hE : EvS K B n tc V0) (h2 : Tn4 V0 VL G ext B n e o tc tv f) (h1 : Tn3 V0 VL G ext B n e o tc tv f) : Tn2 V0 VL G ext B n e o tc tv (f + 1) := by
  intro dp i p x l b V D hd hD hi hl hF hA hr
  have e5 : prs o tc tv (f + 1) 2 dp i p x = pbd (prs o tc tv f 4 dp i p x) (fun i' p' y => prs o tc tv f 3 dp i' p' y) := rfl
  rw [e5] at hr ⊢
  obtain ⟨g1, g2⟩ := pbd_1 hr
  rw [g2] at hr ⊢
  obtain ⟨o1, o2, o3⟩ := prs_ok (o := o) (tv := tv) hE.2.2.2.2.2.1 f 4 dp i p x hi g1
  obtain ⟨d, rfl⟩ : ∃ d, D = d + 7 := ⟨D - 7, by omega⟩
  intro P hP
  refine x_aload_n rfl rfl ?_
  refine x_iload_n rfl rfl ?_
  refine x_callV (M' := mi225) (As := [_]) (bc1 := 0) (bs1 := 0) (bc2 := 0) (bs2 := 0) rfl rfl rfl rfl ok225 rfl rfl (by decide) rfl rfl rfl rfl rfl rfl ?_
  refine h2 dp i p x l b V (d + 6) hd (by omega) hi hl hF hA g1 _ (fun v V' b' hF' hA' hR => ?_)
  refine x_istore_n (ls' := [_, _, _, _]) rfl rfl rfl ?_
  exact h1 dp _ _ _ l b b' v V' (d + 7) _ hd hD o2 hl hF' hA' hR hr P hP
set_option maxRecDepth 20000 in
theorem tn1 (hE : EvS K B n tc V0) (h2 : Tn2 V0 VL G ext B n e o tc tv f) (h1 : Tn1 V0 VL G ext B n e o tc tv f) : Tn1 V0 VL G ext B n e o tc tv (f + 1) := by
  intro dp i p x l b0 b v V D z3 hd hD hi hl hF hA hR hr
  have hE1 := hE.fr hF
  have hn4 := hE.2.2.2.1
  have hB4 := hE.2.2.1
  have hv := hR.1
  obtain ⟨d, rfl⟩ : ∃ d, D = d + 8 := ⟨D - 8, by omega⟩
  have e6 : prs o tc tv (f + 1) 1 dp i p x = if tc i = 5 then pbd (prs o tc tv f 2 dp (i + 1) p x) (fun i' p' y => prs o tc tv f 1 dp i' p' (dOr x y)) else (1, i, p, x) := rfl
  rw [e6] at hr ⊢
  by_cases c : tc i = 5
  · rw [if_pos c] at hr ⊢
    obtain ⟨g1, g2⟩ := pbd_1 hr
    rw [g2] at hr ⊢
    have hin : i < n := Nat.lt_of_not_le (fun z => by have := hE.2.2.2.2.2.1 i z; omega)
    obtain ⟨o1, o2, o3⟩ := prs_ok (o := o) (tv := tv) hE.2.2.2.2.2.1 f 2 dp (i + 1) p x hin g1
    intro P hP
    rcases (show l = 0 ∨ l = 1 by omega) with rfl | rfl
    · rcases (show v = 0 ∨ v = 1 by omega) with rfl | rfl
      · refine x_aload_n rfl rfl ?_
        refine x_iconstN (q := 5) rfl ?_
        refine x_callV (M' := mi217) (As := [_]) (bc1 := 0) (bs1 := 0) (bc2 := 0) (bs2 := 0) rfl rfl rfl rfl ok217 rfl rfl (by decide) rfl rfl rfl rfl rfl rfl ?_
        refine m_passes_yes hE1 hA.1 (by omega) c (fun hin => ?_)
        refine x_ifN_eq rfl (fun c11 => ?_) (fun c11 => ?_)
        · exact absurd c11 (by first | decide | omega)
        refine x_aload_n rfl rfl ?_
        refine x_iload_n rfl rfl ?_
        refine x_ifN_eq rfl (fun c16 => ?_) (fun c16 => ?_)
        rotate_left
        · exact absurd c16 (by first | decide | omega)
        refine x_iconstN (q := 0) rfl ?_
        refine x_callV (M' := mi224) (As := [_]) (bc1 := 0) (bs1 := 0) (bc2 := 0) (bs2 := 0) rfl rfl rfl rfl ok224 rfl rfl (by decide) rfl rfl rfl rfl rfl rfl ?_
        refine h2 dp (i + 1) p x 0 b _ (d + 7) hd (by omega) hin (by omega) hF.go ⟨up_at, (up_at' (by omega)).trans hA.2.1, hA.2.2⟩ g1 _ (fun w V2 b2 hF2 hA2 hR2 => ?_)
        have hw1 := hR2.1
        refine x_istore_n (ls' := [_, _, _, _]) rfl rfl rfl ?_
        refine x_iload_n rfl rfl ?_
        refine x_ifN_ne rfl (fun c33 => ?_) (fun c33 => ?_)
        · exact absurd c33 (by first | decide | omega)
        refine x_iload_n rfl rfl ?_
        refine x_ifN_eq rfl (fun c37 => ?_) (fun c37 => ?_)
        · refine x_iconstN (q := 0) rfl ?_
          refine x_istore_n (ls' := [_, _, _, _]) rfl rfl rfl ?_
          refine x_goto rfl ?_
          first | (have ew : w = 0 := c37; subst ew; exact h1 dp _ _ _ 0 b0 b2 0 V2 (d + 8) _ hd hD o2 hl hF2 hA2 (rel_or hR hR2 (by omega) (by omega) (by omega) (by omega)) hr P hP) | (have ew : w = 1 := (by have := hR2.1; omega); subst ew; exact h1 dp _ _ _ 0 b0 b2 1 V2 (d + 8) _ hd hD o2 hl hF2 hA2 (rel_or hR hR2 (by omega) (by omega) (by omega) (by omega)) hr P hP)
        · refine x_iconstN (q := 1) rfl ?_
          refine x_goto rfl ?_
          refine x_istore_n (ls' := [_, _, _, _]) rfl rfl rfl ?_
          refine x_goto rfl ?_
          first | (have ew : w = 0 := c37; subst ew; exact h1 dp _ _ _ 0 b0 b2 0 V2 (d + 8) _ hd hD o2 hl hF2 hA2 (rel_or hR hR2 (by omega) (by omega) (by omega) (by omega)) hr P hP) | (have ew : w = 1 := (by have := hR2.1; omega); subst ew; exact h1 dp _ _ _ 0 b0 b2 1 V2 (d + 8) _ hd hD o2 hl hF2 hA2 (rel_or hR hR2 (by omega) (by omega) (by omega) (by omega)) hr P hP)
      · refine x_aload_n rfl rfl ?_
        refine x_iconstN (q := 5) rfl ?_
        refine x_callV (M' := mi217) (As := [_]) (bc1 := 0) (bs1 := 0) (bc2 := 0) (bs2 := 0) rfl rfl rfl rfl ok217 rfl rfl (by decide) rfl rfl rfl rfl rfl rfl ?_
        refine m_passes_yes hE1 hA.1 (by omega) c (fun hin => ?_)
        refine x_ifN_eq rfl (fun c11 => ?_) (fun c11 => ?_)
        · exact absurd c11 (by first | decide | omega)
        refine x_aload_n rfl rfl ?_
        refine x_iload_n rfl rfl ?_
        refine x_ifN_eq rfl (fun c16 => ?_) (fun c16 => ?_)
        rotate_left
        · exact absurd c16 (by first | decide | omega)
        refine x_iconstN (q := 0) rfl ?_
        refine x_callV (M' := mi224) (As := [_]) (bc1 := 0) (bs1 := 0) (bc2 := 0) (bs2 := 0) rfl rfl rfl rfl ok224 rfl rfl (by decide) rfl rfl rfl rfl rfl rfl ?_
        refine h2 dp (i + 1) p x 0 b _ (d + 7) hd (by omega) hin (by omega) hF.go ⟨up_at, (up_at' (by omega)).trans hA.2.1, hA.2.2⟩ g1 _ (fun w V2 b2 hF2 hA2 hR2 => ?_)
        have hw1 := hR2.1
        refine x_istore_n (ls' := [_, _, _, _]) rfl rfl rfl ?_
        refine x_iload_n rfl rfl ?_
        refine x_ifN_ne rfl (fun c33 => ?_) (fun c33 => ?_)
        rotate_left
        · exact absurd c33 (by first | decide | omega)
        refine x_iconstN (q := 1) rfl ?_
        refine x_goto rfl ?_
        refine x_istore_n (ls' := [_, _, _, _]) rfl rfl rfl ?_
        refine x_goto rfl ?_
        exact h1 dp _ _ _ 0 b0 b2 1 V2 (d + 8) _ hd hD o2 hl hF2 hA2 (rel_or hR hR2 (by omega) (by omega) (by omega) (by omega)) hr P hP
    · rcases (show v = 0 ∨ v = 1 by omega) with rfl | rfl
      · refine x_aload_n rfl rfl ?_
        refine x_iconstN (q := 5) rfl ?_
        refine x_callV (M' := mi217) (As := [_]) (bc1 := 0) (bs1 := 0) (bc2 := 0) (bs2 := 0) rfl rfl rfl rfl ok217 rfl rfl (by decide) rfl rfl rfl rfl rfl rfl ?_
        refine m_passes_yes hE1 hA.1 (by omega) c (fun hin => ?_)
        refine x_ifN_eq rfl (fun c11 => ?_) (fun c11 => ?_)
        · exact absurd c11 (by first | decide | omega)
        refine x_aload_n rfl rfl ?_
        refine x_iload_n rfl rfl ?_
        refine x_ifN_eq rfl (fun c16 => ?_) (fun c16 => ?_)
        · exact absurd c16 (by first | decide | omega)
        refine x_iload_n rfl rfl ?_
        refine x_ifN_ne rfl (fun c20 => ?_) (fun c20 => ?_)
        · exact absurd c20 (by first | decide | omega)
        refine x_iconstN (q := 1) rfl ?_
        refine x_goto rfl ?_
        refine x_callV (M' := mi224) (As := [_]) (bc1 := 0) (bs1 := 0) (bc2 := 0) (bs2 := 0) rfl rfl rfl rfl ok224 rfl rfl (by decide) rfl rfl rfl rfl rfl rfl ?_
        refine h2 dp (i + 1) p x 1 b _ (d + 7) hd (by omega) hin (by omega) hF.go ⟨up_at, (up_at' (by omega)).trans hA.2.1, hA.2.2⟩ g1 _ (fun w V2 b2 hF2 hA2 hR2 => ?_)
        have hw1 := hR2.1
        refine x_istore_n (ls' := [_, _, _, _]) rfl rfl rfl ?_
        refine x_iload_n rfl rfl ?_
        refine x_ifN_ne rfl (fun c33 => ?_) (fun c33 => ?_)
        · exact absurd c33 (by first | decide | omega)
        refine x_iload_n rfl rfl ?_
        refine x_ifN_eq rfl (fun c37 => ?_) (fun c37 => ?_)
        · refine x_iconstN (q := 0) rfl ?_
          refine x_istore_n (ls' := [_, _, _, _]) rfl rfl rfl ?_
          refine x_goto rfl ?_
          first | (have ew : w = 0 := c37; subst ew; exact h1 dp _ _ _ 1 b0 b2 0 V2 (d + 8) _ hd hD o2 hl hF2 hA2 (rel_or hR hR2 (by omega) (by omega) (by omega) (by omega)) hr P hP) | (have ew : w = 1 := (by have := hR2.1; omega); subst ew; exact h1 dp _ _ _ 1 b0 b2 1 V2 (d + 8) _ hd hD o2 hl hF2 hA2 (rel_or hR hR2 (by omega) (by omega) (by omega) (by omega)) hr P hP)
        · refine x_iconstN (q := 1) rfl ?_
          refine x_goto rfl ?_
          refine x_istore_n (ls' := [_, _, _, _]) rfl rfl rfl ?_
          refine x_goto rfl ?_
          first | (have ew : w = 0 := c37; subst ew; exact h1 dp _ _ _ 1 b0 b2 0 V2 (d + 8) _ hd hD o2 hl hF2 hA2 (rel_or hR hR2 (by omega) (by omega) (by omega) (by omega)) hr P hP) | (have ew : w = 1 := (by have := hR2.1; omega); subst ew; exact h1 dp _ _ _ 1 b0 b2 1 V2 (d + 8) _ hd hD o2 hl hF2 hA2 (rel_or hR hR2 (by omega) (by omega) (by omega) (by omega)) hr P hP)
      · refine x_aload_n rfl rfl ?_
        refine x_iconstN (q := 5) rfl ?_
        refine x_callV (M' := mi217) (As := [_]) (bc1 := 0) (bs1 := 0) (bc2 := 0) (bs2 := 0) rfl rfl rfl rfl ok217 rfl rfl (by decide) rfl rfl rfl rfl rfl rfl ?_
        refine m_passes_yes hE1 hA.1 (by omega) c (fun hin => ?_)
        refine x_ifN_eq rfl (fun c11 => ?_) (fun c11 => ?_)
        · exact absurd c11 (by first | decide | omega)
        refine x_aload_n rfl rfl ?_
        refine x_iload_n rfl rfl ?_
        refine x_ifN_eq rfl (fun c16 => ?_) (fun c16 => ?_)
        · exact absurd c16 (by first | decide | omega)
        refine x_iload_n rfl rfl ?_
        refine x_ifN_ne rfl (fun c20 => ?_) (fun c20 => ?_)
        rotate_left
        · exact absurd c20 (by first | decide | omega)
        refine x_iconstN (q := 0) rfl ?_
        refine x_callV (M' := mi224) (As := [_]) (bc1 := 0) (bs1 := 0) (bc2 := 0) (bs2 := 0) rfl rfl rfl rfl ok224 rfl rfl (by decide) rfl rfl rfl rfl rfl rfl ?_
        refine h2 dp (i + 1) p x 0 b _ (d + 7) hd (by omega) hin (by omega) hF.go ⟨up_at, (up_at' (by omega)).trans hA.2.1, hA.2.2⟩ g1 _ (fun w V2 b2 hF2 hA2 hR2 => ?_)
        have hw1 := hR2.1
        refine x_istore_n (ls' := [_, _, _, _]) rfl rfl rfl ?_
        refine x_iload_n rfl rfl ?_
        refine x_ifN_ne rfl (fun c33 => ?_) (fun c33 => ?_)
        rotate_left
        · exact absurd c33 (by first | decide | omega)
        refine x_iconstN (q := 1) rfl ?_
        refine x_goto rfl ?_
        refine x_istore_n (ls' := [_, _, _, _]) rfl rfl rfl ?_
        refine x_goto rfl ?_
        exact h1 dp _ _ _ 1 b0 b2 1 V2 (d + 8) _ hd hD o2 hl hF2 hA2 (rel_or hR hR2 (by omega) (by omega) (by omega) (by omega)) hr P hP
  · rw [if_neg c] at hr ⊢
    intro P hP
    refine x_aload_n rfl rfl ?_
    refine x_iconstN (q := 5) rfl ?_
    refine x_callV (M' := mi217) (As := [_]) (bc1 := 0) (bs1 := 0) (bc2 := 0) (bs2 := 0) rfl rfl rfl rfl ok217 rfl rfl (by decide) rfl rfl rfl rfl rfl rfl ?_
    refine m_passes_no hE1 hA.1 (by omega) (by omega) c ?_
    refine x_ifN_eq rfl (fun c11 => ?_) (fun c11 => ?_)
    rotate_left
    · exact absurd c11 (by first | decide | omega)
    refine x_iload_n rfl rfl ?_
    refine x_zret rfl rfl (nI01 hv) ?_
    exact hP v V b hF hA hR
set_option maxRecDepth 20000 in
theorem tn3 (hE : EvS K B n tc V0) (h2 : Tn4 V0 VL G ext B n e o tc tv f) (h1 : Tn3 V0 VL G ext B n e o tc tv f) : Tn3 V0 VL G ext B n e o tc tv (f + 1) := by
  intro dp i p x l b0 b v V D z3 hd hD hi hl hF hA hR hr
  have hE1 := hE.fr hF
  have hn4 := hE.2.2.2.1
  have hB4 := hE.2.2.1
  have hv := hR.1
  obtain ⟨d, rfl⟩ : ∃ d, D = d + 7 := ⟨D - 7, by omega⟩
  have e6 : prs o tc tv (f + 1) 3 dp i p x = if tc i = 6 then pbd (prs o tc tv f 4 dp (i + 1) p x) (fun i' p' y => prs o tc tv f 3 dp i' p' (dAnd x y)) else (1, i, p, x) := rfl
  rw [e6] at hr ⊢
  by_cases c : tc i = 6
  · rw [if_pos c] at hr ⊢
    obtain ⟨g1, g2⟩ := pbd_1 hr
    rw [g2] at hr ⊢
    have hin : i < n := Nat.lt_of_not_le (fun z => by have := hE.2.2.2.2.2.1 i z; omega)
    obtain ⟨o1, o2, o3⟩ := prs_ok (o := o) (tv := tv) hE.2.2.2.2.2.1 f 4 dp (i + 1) p x hin g1
    intro P hP
    rcases (show l = 0 ∨ l = 1 by omega) with rfl | rfl
    · rcases (show v = 0 ∨ v = 1 by omega) with rfl | rfl
      · refine x_aload_n rfl rfl ?_
        refine x_bipushN (q := 6) rfl ?_
        refine x_callV (M' := mi217) (As := [_]) (bc1 := 0) (bs1 := 0) (bc2 := 0) (bs2 := 0) rfl rfl rfl rfl ok217 rfl rfl (by decide) rfl rfl rfl rfl rfl rfl ?_
        refine m_passes_yes hE1 hA.1 (by omega) c (fun hin => ?_)
        refine x_ifN_eq rfl (fun c12 => ?_) (fun c12 => ?_)
        · exact absurd c12 (by first | decide | omega)
        refine x_aload_n rfl rfl ?_
        refine x_iload_n rfl rfl ?_
        refine x_ifN_eq rfl (fun c17 => ?_) (fun c17 => ?_)
        rotate_left
        · exact absurd c17 (by first | decide | omega)
        refine x_iconstN (q := 0) rfl ?_
        refine x_callV (M' := mi225) (As := [_]) (bc1 := 0) (bs1 := 0) (bc2 := 0) (bs2 := 0) rfl rfl rfl rfl ok225 rfl rfl (by decide) rfl rfl rfl rfl rfl rfl ?_
        refine h2 dp (i + 1) p x 0 b _ (d + 6) hd (by omega) hin (by omega) hF.go ⟨up_at, (up_at' (by omega)).trans hA.2.1, hA.2.2⟩ g1 _ (fun w V2 b2 hF2 hA2 hR2 => ?_)
        have hw1 := hR2.1
        refine x_istore_n (ls' := [_, _, _, _]) rfl rfl rfl ?_
        refine x_iload_n rfl rfl ?_
        refine x_ifN_eq rfl (fun c34 => ?_) (fun c34 => ?_)
        rotate_left
        · exact absurd c34 (by first | decide | omega)
        refine x_iconstN (q := 0) rfl ?_
        refine x_istore_n (ls' := [_, _, _, _]) rfl rfl rfl ?_
        refine x_goto rfl ?_
        exact h1 dp _ _ _ 0 b0 b2 0 V2 (d + 7) _ hd hD o2 hl hF2 hA2 (rel_and hR hR2 (by omega) (by omega) (by omega) (by omega)) hr P hP
      · refine x_aload_n rfl rfl ?_
        refine x_bipushN (q := 6) rfl ?_
        refine x_callV (M' := mi217) (As := [_]) (bc1 := 0) (bs1 := 0) (bc2 := 0) (bs2 := 0) rfl rfl rfl rfl ok217 rfl rfl (by decide) rfl rfl rfl rfl rfl rfl ?_
        refine m_passes_yes hE1 hA.1 (by omega) c (fun hin => ?_)
        refine x_ifN_eq rfl (fun c12 => ?_) (fun c12 => ?_)
        · exact absurd c12 (by first | decide | omega)
        refine x_aload_n rfl rfl ?_
        refine x_iload_n rfl rfl ?_
        refine x_ifN_eq rfl (fun c17 => ?_) (fun c17 => ?_)
        rotate_left
        · exact absurd c17 (by first | decide | omega)
        refine x_iconstN (q := 0) rfl ?_
        refine x_callV (M' := mi225) (As := [_]) (bc1 := 0) (bs1 := 0) (bc2 := 0) (bs2 := 0) rfl rfl rfl rfl ok225 rfl rfl (by decide) rfl rfl rfl rfl rfl rfl ?_
        refine h2 dp (i + 1) p x 0 b _ (d + 6) hd (by omega) hin (by omega) hF.go ⟨up_at, (up_at' (by omega)).trans hA.2.1, hA.2.2⟩ g1 _ (fun w V2 b2 hF2 hA2 hR2 => ?_)
        have hw1 := hR2.1
        refine x_istore_n (ls' := [_, _, _, _]) rfl rfl rfl ?_
        refine x_iload_n rfl rfl ?_
        refine x_ifN_eq rfl (fun c34 => ?_) (fun c34 => ?_)
        · exact absurd c34 (by first | decide | omega)
        refine x_iload_n rfl rfl ?_
        refine x_ifN_eq rfl (fun c38 => ?_) (fun c38 => ?_)
        · refine x_iconstN (q := 0) rfl ?_
          refine x_istore_n (ls' := [_, _, _, _]) rfl rfl rfl ?_
          refine x_goto rfl ?_
          first | (have ew : w = 0 := c38; subst ew; exact h1 dp _ _ _ 0 b0 b2 0 V2 (d + 7) _ hd hD o2 hl hF2 hA2 (rel_and hR hR2 (by omega) (by omega) (by omega) (by omega)) hr P hP) | (have ew : w = 1 := (by have := hR2.1; omega); subst ew; exact h1 dp _ _ _ 0 b0 b2 1 V2 (d + 7) _ hd hD o2 hl hF2 hA2 (rel_and hR hR2 (by omega) (by omega) (by omega) (by omega)) hr P hP)
        · refine x_iconstN (q := 1) rfl ?_
          refine x_goto rfl ?_
          refine x_istore_n (ls' := [_, _, _, _]) rfl rfl rfl ?_
          refine x_goto rfl ?_
          first | (have ew : w = 0 := c38; subst ew; exact h1 dp _ _ _ 0 b0 b2 0 V2 (d + 7) _ hd hD o2 hl hF2 hA2 (rel_and hR hR2 (by omega) (by omega) (by omega) (by omega)) hr P hP) | (have ew : w = 1 := (by have := hR2.1; omega); subst ew; exact h1 dp _ _ _ 0 b0 b2 1 V2 (d + 7) _ hd hD o2 hl hF2 hA2 (rel_and hR hR2 (by omega) (by omega) (by omega) (by omega)) hr P hP)
    · rcases (show v = 0 ∨ v = 1 by omega) with rfl | rfl
      · refine x_aload_n rfl rfl ?_
        refine x_bipushN (q := 6) rfl ?_
        refine x_callV (M' := mi217) (As := [_]) (bc1 := 0) (bs1 := 0) (bc2 := 0) (bs2 := 0) rfl rfl rfl rfl ok217 rfl rfl (by decide) rfl rfl rfl rfl rfl rfl ?_
        refine m_passes_yes hE1 hA.1 (by omega) c (fun hin => ?_)
        refine x_ifN_eq rfl (fun c12 => ?_) (fun c12 => ?_)
        · exact absurd c12 (by first | decide | omega)
        refine x_aload_n rfl rfl ?_
        refine x_iload_n rfl rfl ?_
        refine x_ifN_eq rfl (fun c17 => ?_) (fun c17 => ?_)
        · exact absurd c17 (by first | decide | omega)
        refine x_iload_n rfl rfl ?_
        refine x_ifN_eq rfl (fun c21 => ?_) (fun c21 => ?_)
        rotate_left
        · exact absurd c21 (by first | decide | omega)
        refine x_iconstN (q := 0) rfl ?_
        refine x_callV (M' := mi225) (As := [_]) (bc1 := 0) (bs1 := 0) (bc2 := 0) (bs2 := 0) rfl rfl rfl rfl ok225 rfl rfl (by decide) rfl rfl rfl rfl rfl rfl ?_
        refine h2 dp (i + 1) p x 0 b _ (d + 6) hd (by omega) hin (by omega) hF.go ⟨up_at, (up_at' (by omega)).trans hA.2.1, hA.2.2⟩ g1 _ (fun w V2 b2 hF2 hA2 hR2 => ?_)
        have hw1 := hR2.1
        refine x_istore_n (ls' := [_, _, _, _]) rfl rfl rfl ?_
        refine x_iload_n rfl rfl ?_
        refine x_ifN_eq rfl (fun c34 => ?_) (fun c34 => ?_)
        rotate_left
        · exact absurd c34 (by first | decide | omega)
        refine x_iconstN (q := 0) rfl ?_
        refine x_istore_n (ls' := [_, _, _, _]) rfl rfl rfl ?_
        refine x_goto rfl ?_
        exact h1 dp _ _ _ 1 b0 b2 0 V2 (d + 7) _ hd hD o2 hl hF2 hA2 (rel_and hR hR2 (by omega) (by omega) (by omega) (by omega)) hr P hP
      · refine x_aload_n rfl rfl ?_
        refine x_bipushN (q := 6) rfl ?_
        refine x_callV (M' := mi217) (As := [_]) (bc1 := 0) (bs1 := 0) (bc2 := 0) (bs2 := 0) rfl rfl rfl rfl ok217 rfl rfl (by decide) rfl rfl rfl rfl rfl rfl ?_
        refine m_passes_yes hE1 hA.1 (by omega) c (fun hin => ?_)
        refine x_ifN_eq rfl (fun c12 => ?_) (fun c12 => ?_)
        · exact absurd c12 (by first | decide | omega)
        refine x_aload_n rfl rfl ?_
        refine x_iload_n rfl rfl ?_
        refine x_ifN_eq rfl (fun c17 => ?_) (fun c17 => ?_)
        · exact absurd c17 (by first | decide | omega)
        refine x_iload_n rfl rfl ?_
        refine x_ifN_eq rfl (fun c21 => ?_) (fun c21 => ?_)
        · exact absurd c21 (by first | decide | omega)
        refine x_iconstN (q := 1) rfl ?_
        refine x_goto rfl ?_
        refine x_callV (M' := mi225) (As := [_]) (bc1 := 0) (bs1 := 0) (bc2 := 0) (bs2 := 0) rfl rfl rfl rfl ok225 rfl rfl (by decide) rfl rfl rfl rfl rfl rfl ?_
        refine h2 dp (i + 1) p x 1 b _ (d + 6) hd (by omega) hin (by omega) hF.go ⟨up_at, (up_at' (by omega)).trans hA.2.1, hA.2.2⟩ g1 _ (fun w V2 b2 hF2 hA2 hR2 => ?_)
        have hw1 := hR2.1
        refine x_istore_n (ls' := [_, _, _, _]) rfl rfl rfl ?_
        refine x_iload_n rfl rfl ?_
        refine x_ifN_eq rfl (fun c34 => ?_) (fun c34 => ?_)
        · exact absurd c34 (by first | decide | omega)
        refine x_iload_n rfl rfl ?_
        refine x_ifN_eq rfl (fun c38 => ?_) (fun c38 => ?_)
        · refine x_iconstN (q := 0) rfl ?_
          refine x_istore_n (ls' := [_, _, _, _]) rfl rfl rfl ?_
          refine x_goto rfl ?_
          first | (have ew : w = 0 := c38; subst ew; exact h1 dp _ _ _ 1 b0 b2 0 V2 (d + 7) _ hd hD o2 hl hF2 hA2 (rel_and hR hR2 (by omega) (by omega) (by omega) (by omega)) hr P hP) | (have ew : w = 1 := (by have := hR2.1; omega); subst ew; exact h1 dp _ _ _ 1 b0 b2 1 V2 (d + 7) _ hd hD o2 hl hF2 hA2 (rel_and hR hR2 (by omega) (by omega) (by omega) (by omega)) hr P hP)
        · refine x_iconstN (q := 1) rfl ?_
          refine x_goto rfl ?_
          refine x_istore_n (ls' := [_, _, _, _]) rfl rfl rfl ?_
          refine x_goto rfl ?_
          first | (have ew : w = 0 := c38; subst ew; exact h1 dp _ _ _ 1 b0 b2 0 V2 (d + 7) _ hd hD o2 hl hF2 hA2 (rel_and hR hR2 (by omega) (by omega) (by omega) (by omega)) hr P hP) | (have ew : w = 1 := (by have := hR2.1; omega); subst ew; exact h1 dp _ _ _ 1 b0 b2 1 V2 (d + 7) _ hd hD o2 hl hF2 hA2 (rel_and hR hR2 (by omega) (by omega) (by omega) (by omega)) hr P hP)
  · rw [if_neg c] at hr ⊢
    intro P hP
    refine x_aload_n rfl rfl ?_
    refine x_bipushN (q := 6) rfl ?_
    refine x_callV (M' := mi217) (As := [_]) (bc1 := 0) (bs1 := 0) (bc2 := 0) (bs2 := 0) rfl rfl rfl rfl ok217 rfl rfl (by decide) rfl rfl rfl rfl rfl rfl ?_
    refine m_passes_no hE1 hA.1 (by omega) (by omega) c ?_
    refine x_ifN_eq rfl (fun c12 => ?_) (fun c12 => ?_)
    rotate_left
    · exact absurd c12 (by first | decide | omega)
    refine x_iload_n rfl rfl ?_
    refine x_zret rfl rfl (nI01 hv) ?_
    exact hP v V b hF hA hR
set_option maxRecDepth 20000 in
theorem tn4 (hE : EvS K B n tc V0) (h10 : Tn10 V0 VL G ext B n e o tc tv f) : Tn4 V0 VL G ext B n e o tc tv (f + 1) := by
  intro dp i p x l b V D hd hD hi hl hF hA hr
  have hn4 := hE.2.2.2.1
  have e5 : prs o tc tv (f + 1) 4 dp i p x = pbd (prs o tc tv f 10 dp (i + nrun tc 7 i 401) p x) (fun i' p' y => (1, i', p', if nrun tc 7 i 401 % 2 = 1 then dNot y else y)) := rfl
  rw [e5] at hr ⊢
  obtain ⟨g1, g2⟩ := pbd_1 hr
  rw [g2]
  obtain ⟨k1, k2⟩ := nrun_ok (c := 7) hE.2.2.2.2.2.1 (by omega) (by omega) 401 i hi
  obtain ⟨d, rfl⟩ : ∃ d, D = d + 6 := ⟨D - 6, by omega⟩
  intro P hP
  refine x_iconstN (q := 0) rfl ?_
  refine x_istore_n (ls' := [_, _, _]) rfl rfl rfl ?_
  skip
  refine pl_loop (d := d + 4) hE hl 401 i 0 V (by omega) hi (by omega) hF hA (fun V1 hF1 hA1 => ?_)
  rw [Nat.zero_add]
  generalize hk : nrun tc 7 i 401 = k at *
  rcases (show k % 2 = 0 ∨ k % 2 = 1 by omega) with z | z
  · rw [z] at hP ⊢
    refine x_aload_n rfl rfl ?_
    refine x_iload_n rfl rfl ?_
    refine x_callV (M' := mi226) (As := [_]) (bc1 := 0) (bs1 := 0) (bc2 := 0) (bs2 := 0) rfl rfl rfl rfl ok226 rfl rfl (by decide) rfl rfl rfl rfl rfl rfl ?_
    refine h10 dp (i + k) p x l b V1 (d + 5) hd (by omega) k1 hl hF1 hA1 g1 _ (fun v V2 b2 hF2 hA2 hR2 => ?_)
    skip
    rcases (show v = 0 ∨ v = 1 by have := hR2.1; omega) with rfl | rfl
    · refine x_iload_n rfl rfl ?_
      refine x_icmpN_eq rfl (fun c30 => ?_) (fun c30 => ?_)
      rotate_left
      · exact absurd c30 (by first | decide | omega)
      refine x_iconstN (q := 0) rfl ?_
      refine x_zret rfl rfl (by first | exact Or.inl rfl | exact Or.inr rfl) ?_
      exact hP 0 V2 b2 hF2 hA2 hR2
    · refine x_iload_n rfl rfl ?_
      refine x_icmpN_eq rfl (fun c30 => ?_) (fun c30 => ?_)
      · exact absurd c30 (by first | decide | omega)
      refine x_iconstN (q := 1) rfl ?_
      refine x_goto rfl ?_
      refine x_zret rfl rfl (by first | exact Or.inl rfl | exact Or.inr rfl) ?_
      exact hP 1 V2 b2 hF2 hA2 hR2
  · rw [z] at hP ⊢
    refine x_aload_n rfl rfl ?_
    refine x_iload_n rfl rfl ?_
    refine x_callV (M' := mi226) (As := [_]) (bc1 := 0) (bs1 := 0) (bc2 := 0) (bs2 := 0) rfl rfl rfl rfl ok226 rfl rfl (by decide) rfl rfl rfl rfl rfl rfl ?_
    refine h10 dp (i + k) p x l b V1 (d + 5) hd (by omega) k1 hl hF1 hA1 g1 _ (fun v V2 b2 hF2 hA2 hR2 => ?_)
    skip
    rcases (show v = 0 ∨ v = 1 by have := hR2.1; omega) with rfl | rfl
    · refine x_iload_n rfl rfl ?_
      refine x_icmpN_eq rfl (fun c30 => ?_) (fun c30 => ?_)
      · exact absurd c30 (by first | decide | omega)
      refine x_iconstN (q := 1) rfl ?_
      refine x_goto rfl ?_
      refine x_zret rfl rfl (by first | exact Or.inl rfl | exact Or.inr rfl) ?_
      exact hP 1 V2 b2 hF2 hA2 (rel_not hR2)
    · refine x_iload_n rfl rfl ?_
      refine x_icmpN_eq rfl (fun c30 => ?_) (fun c30 => ?_)
      rotate_left
      · exact absurd c30 (by first | decide | omega)
      refine x_iconstN (q := 0) rfl ?_
      refine x_zret rfl rfl (by first | exact Or.inl rfl | exact Or.inr rfl) ?_
      exact hP 0 V2 b2 hF2 hA2 (rel_not hR2)
set_option maxRecDepth 20000 in
theorem tn10 (hE : EvS K B n tc V0) (h5 : ∀ g, Sn5 V0 VL G ext B n e o tc tv g) (h0 : Tn0 V0 VL G ext B n e o tc tv f) : Tn10 V0 VL G ext B n e o tc tv (f + 1) := by
  intro dp i p x l b V D hd hD hi hl hF hA hr
  have hE1 := hE.fr hF
  have hn4 := hE.2.2.2.1
  have hB4 := hE.2.2.1
  obtain ⟨d, rfl⟩ : ∃ d, D = d + 5 := ⟨D - 5, by omega⟩
  have e9 : prs o tc tv (f + 1) 10 dp i p x = (if tc i = 140 then (if 8 ≤ dp then (0, i, p, x) else pbd (prs o tc tv f 0 (dp + 1) (i + 1) p x) (fun i' p' y => if tc i' = 141 then (1, i' + 1, p', y) else (0, i', p', y)))
      else pbd (prs o tc tv f 5 dp i p x) (fun i' p' y => if tc i' = 160 ∨ tc i' = 162 ∨ tc i' = 161 then pbd (prs o tc tv f 5 dp (i' + 1) p' x) (fun i2 p2 z => (1, i2, p2, dBin (tc i' - 100) y z)) else (0, i', p', y))) := rfl
  rw [e9] at hr ⊢
  by_cases c : tc i = 140
  · rw [if_pos c] at hr ⊢
    by_cases hd8 : 8 ≤ dp
    · rw [if_pos hd8] at hr; exact absurd hr (by show ¬ 0 = 1; omega)
    · rw [if_neg hd8] at hr ⊢
      obtain ⟨g1, g2⟩ := pbd_1 hr
      rw [g2] at hr ⊢
      by_cases c2 : tc (prs o tc tv f 0 (dp + 1) (i + 1) p x).2.1 = 141
      · rw [if_pos c2] at hr ⊢
        intro P hP
        have hin : i < n := Nat.lt_of_not_le (fun z => by have := hE.2.2.2.2.2.1 i z; omega)
        obtain ⟨o1, o2, o3⟩ := prs_ok (o := o) (tv := tv) hE.2.2.2.2.2.1 f 0 (dp + 1) (i + 1) p x hin g1
        refine x_aload_n rfl rfl ?_
        refine x_bipushN (q := 40) rfl ?_
        refine x_callS (M' := mi199) (As := [_]) (bc1 := 0) (bs1 := 0) (bc2 := 0) (bs2 := 0) rfl rfl rfl rfl ok199 rfl rfl rfl rfl rfl rfl ?_
        refine m_sign (by omega) ?_
        refine x_callV (M' := mi217) (As := [_]) (bc1 := 0) (bs1 := 0) (bc2 := 0) (bs2 := 0) rfl rfl rfl rfl ok217 rfl rfl (by decide) rfl rfl rfl rfl rfl rfl ?_
        refine m_passes_yes hE1 hA.1 (by omega) c (fun _ => ?_)
        refine x_ifN_eq rfl (fun c9 => ?_) (fun c9 => ?_)
        · exact absurd c9 (by first | decide | omega)
        refine x_aload_n rfl rfl ?_
        refine x_iload_n rfl rfl ?_
        refine x_callV (M' := mi223) (As := [_]) (bc1 := 0) (bs1 := 0) (bc2 := 0) (bs2 := 0) rfl rfl rfl rfl ok223 rfl rfl (by decide) rfl rfl rfl rfl rfl rfl ?_
        refine h0 (dp + 1) (i + 1) p x l b _ (d + 4) (by omega) (by omega) hin hl hF.go ⟨up_at, (up_at' (by omega)).trans hA.2.1, hA.2.2⟩ g1 _ (fun v V2 b2 hF2 hA2 hR2 => ?_)
        refine x_istore_n (ls' := [_, _, _, _, _, _, _]) rfl rfl rfl ?_
        refine x_aload_n rfl rfl ?_
        refine x_dup rfl rfl ?_
        refine x_getE (y := 22) rfl rfl rfl (hA2.1) ?_
        refine x_iconstN (q := 1) rfl ?_
        refine x_iaddN rfl ?_
        refine x_putI rfl rfl rfl rfl ?_
        refine x_iload_n rfl rfl ?_
        refine x_zret rfl rfl (nI01 hR2.1) ?_
        exact hP v _ b2 hF2.go ⟨up_at, (up_at' (by omega)).trans hA2.2.1, hA2.2.2⟩ hR2
      · rw [if_neg c2] at hr; exact absurd hr (by show ¬ 0 = 1; omega)
  · rw [if_neg c] at hr ⊢
    obtain ⟨g1, g2⟩ := pbd_1 hr
    rw [g2] at hr ⊢
    obtain ⟨o1, o2, o3⟩ := prs_ok (o := o) (tv := tv) hE.2.2.2.2.2.1 f 5 dp i p x hi g1
    generalize hrr : prs o tc tv f 5 dp i p x = r1 at *
    by_cases c2 : tc r1.2.1 = 160 ∨ tc r1.2.1 = 162 ∨ tc r1.2.1 = 161
    · rw [if_pos c2] at hr ⊢
      obtain ⟨g3, g4⟩ := pbd_1 hr
      rw [g4]
      have hin : r1.2.1 < n := Nat.lt_of_not_le (fun z => by have := hE.2.2.2.2.2.1 _ z; omega)
      intro P hP
      have hs1 := h5 f dp i p x l b V (d + 4) hd (by omega) hi hl hF hA (by rw [hrr]; exact g1)
      rw [hrr] at hs1
      refine x_aload_n rfl rfl ?_
      refine x_bipushN (q := 40) rfl ?_
      refine x_callS (M' := mi199) (As := [_]) (bc1 := 0) (bs1 := 0) (bc2 := 0) (bs2 := 0) rfl rfl rfl rfl ok199 rfl rfl rfl rfl rfl rfl ?_
      refine m_sign (by omega) ?_
      refine x_callV (M' := mi217) (As := [_]) (bc1 := 0) (bs1 := 0) (bc2 := 0) (bs2 := 0) rfl rfl rfl rfl ok217 rfl rfl (by decide) rfl rfl rfl rfl rfl rfl ?_
      refine m_passes_no hE1 hA.1 (by omega) (by omega) c ?_
      refine x_ifN_eq rfl (fun c9 => ?_) (fun c9 => ?_)
      rotate_left
      · exact absurd c9 (by first | decide | omega)
      refine x_aload_n rfl rfl ?_
      refine x_iload_n rfl rfl ?_
      refine x_callV (M' := mi219) (As := [_]) (bc1 := 0) (bs1 := 0) (bc2 := 0) (bs2 := 0) rfl rfl rfl rfl ok219 rfl rfl (by decide) rfl rfl rfl rfl rfl rfl ?_
      refine hs1 _ (fun v V1 b1_ hF1 hA1 hR1 => ?_)
      refine x_lstore_n (ls' := [_, _, _, _, _, _, _]) rfl rfl rfl ?_
      refine x_aload_n rfl rfl ?_
      refine x_aload_n rfl rfl ?_
      refine x_getE (y := 22) rfl rfl rfl (hA1.1) ?_
      refine x_callV (M' := mi216) (As := [_]) (bc1 := 0) (bs1 := 0) (bc2 := 0) (bs2 := 0) rfl rfl rfl rfl ok216 rfl rfl (by decide) rfl rfl rfl rfl rfl rfl ?_
      refine m_codeAt (hE.fr hF1) (by omega) ?_
      refine x_istore (ls' := [_, _, _, _, _, _, _]) rfl rfl rfl ?_
      refine x_aload_n rfl rfl ?_
      refine x_dup rfl rfl ?_
      refine x_getE (y := 22) rfl rfl rfl (hA1.1) ?_
      refine x_iconstN (q := 1) rfl ?_
      refine x_iaddN rfl ?_
      refine x_putI rfl rfl rfl rfl ?_
      refine x_aload_n rfl rfl ?_
      refine x_iload_n rfl rfl ?_
      refine x_callV (M' := mi219) (As := [_]) (bc1 := 0) (bs1 := 0) (bc2 := 0) (bs2 := 0) rfl rfl rfl rfl ok219 rfl rfl (by decide) rfl rfl rfl rfl rfl rfl ?_
      refine h5 f dp (r1.2.1 + 1) r1.2.2.1 x l b1_ _ (d + 4) hd (by omega) hin hl hF1.go ⟨up_at, (up_at' (by omega)).trans hA1.2.1, hA1.2.2⟩ g3 _ (fun w V2 b2 hF2 hA2 hR2 => ?_)
      refine x_lstore (ls' := [_, _, _, _, _, _, _]) rfl rfl rfl ?_
      skip
      have hu := cmp_u (v := v.toInt) (w := w.toInt) c2 hl hA2.2.2
      exact p_tail (d := d + 4) c2 hl hA2.2.1 hA2.2.2 hu.2 (hP _ V2 b2 hF2 hA2 (rel_cmp (op := tc r1.2.1 - 100) hR1 hR2 hu.1 hu.2.2))
    · rw [if_neg c2] at hr; exact absurd hr (by show ¬ 0 = 1; omega)
set_option maxRecDepth 20000 in
theorem tn_all (hE : EvS K B n tc V0) (h5 : ∀ g, Sn5 V0 VL G ext B n e o tc tv g) : ∀ f, Tn0 V0 VL G ext B n e o tc tv f ∧ Tn1 V0 VL G ext B n e o tc tv f ∧ Tn2 V0 VL G ext B n e o tc tv f ∧ Tn3 V0 VL G ext B n e o tc tv f ∧ Tn4 V0 VL G ext B n e o tc tv f ∧ Tn10 V0 VL G ext B n e o tc tv f
  | 0 => ⟨fun _ _ _ _ _ _ _ _ _ _ _ _ _ _ hr => absurd hr (by show ¬ 2 = 1; omega), fun _ _ _ _ _ _ _ _ _ _ _ _ _ _ _ _ _ _ hr => absurd hr (by show ¬ 2 = 1; omega), fun _ _ _ _ _ _ _ _ _ _ _ _ _ _ hr => absurd hr (by show ¬ 2 = 1; omega), fun _ _ _ _ _ _ _ _ _ _ _ _ _ _ _ _ _ _ hr => absurd hr (by show ¬ 2 = 1; omega), fun _ _ _ _ _ _ _ _ _ _ _ _ _ _ hr => absurd hr (by show ¬ 2 = 1; omega), fun _ _ _ _ _ _ _ _ _ _ _ _ _ _ hr => absurd hr (by show ¬ 2 = 1; omega)⟩
  | f + 1 => by
    obtain ⟨t0, t1, t2, t3, t4, t10⟩ := tn_all hE h5 f
    exact ⟨tn0 hE t2 t1, tn1 hE t2 t1, tn2 hE t4 t3, tn3 hE t4 t3, tn4 hE t10, tn10 hE h5 t0⟩
end Ev3n
