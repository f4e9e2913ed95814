/-! ===== years: the model ===== -/
def FrZ (V0 V : VIT) : Prop := ∀ a k, a ≠ 76 → a ≠ 86 → ¬ (a = 74 ∧ (k = 22 ∨ k = 23 ∨ k = 24 ∨ k = 25 ∨ k = 51)) → V a k = V0 a k
section Years2
variable {d : Nat} {V0 V : VIT} {VL : VLT} {G : VRT} {P : Post} {ext : HL} {K Y : KT} {p q dy sd : Nat}
set_option maxRecDepth 20000 in
theorem m_la {k : Nat} (hk : k ≤ 1) (hP : P none (LY ++ ext) (uw V 79 (cp (V 79) (39 * k) (V 76) 39)) VL (vr G)) : ∀ (m i : Nat), i + m = 39 → Ex (d + 0) mi160 2 [.ref 74, .int (nI k), .int (nI i)] [] (LY ++ ext) (uw V 79 (cp (V 79) (39 * k) (V 76) i)) VL (vr G) 0 0 P := by
  intro m
  induction m with
  | zero =>
    intro i hi
    have e : i = 39 := by omega
    subst e
    refine x_iload_n rfl rfl ?_
    refine x_bipushN (q := 39) rfl ?_
    refine x_icmpN_ge rfl (fun c5 => ?_) (fun c5 => ?_)
    rotate_left
    · exact absurd c5 (by first | decide | omega)
    refine x_vret rfl rfl ?_
    exact hP | succ m ih =>
    intro i hi
    refine x_iload_n rfl rfl ?_
    refine x_bipushN (q := 39) rfl ?_
    refine x_icmpN_ge rfl (fun c5 => ?_) (fun c5 => ?_)
    · exact absurd c5 (by first | decide | omega)
    refine x_aload_n rfl rfl ?_
    refine x_getR (u := .ref _) rfl rfl rfl rfl ?_
    refine x_bipushN (q := 39) rfl ?_
    refine x_iload_n rfl rfl ?_
    refine x_imulN rfl ?_
    refine x_iload_n rfl rfl ?_
    refine x_iaddN rfl ?_
    refine x_aload_n rfl rfl ?_
    refine x_getR (u := .ref _) rfl rfl rfl rfl ?_
    refine x_iload_n rfl rfl ?_
    refine x_ialE (j := i) rfl rfl (rfl) (by omega) (show _ = V 76 i by rw [uw_ne (by omega)]) ?_
    refine x_iasN (j := 39 * k + i) rfl rfl (rfl) (by omega) ?_
    refine x_iincN (q := 1) (ls' := [_, _, _]) rfl rfl rfl rfl ?_
    refine x_goto rfl ?_
    skip
    rw [cp_step rfl]
    exact ih (i + 1) (by omega)
set_option maxRecDepth 20000 in
theorem m_laysAside {k : Nat} (hk : k ≤ 1) (hP : P none (LY ++ ext) (uw V 79 (cp (V 79) (39 * k) (V 76) 39)) VL (vr G)) : Ex d mi160 0 (entL [.ref 74, .int (nI k)] 3) [] (LY ++ ext) V VL (vr G) 0 0 P := by
  refine x_iconstN (q := 0) rfl ?_
  refine x_istore_n (ls' := [_, _, _]) rfl rfl rfl ?_
  skip
  have h := m_la (d := d) hk hP 39 0 (by omega)
  rw [cp_0] at h
  exact h
set_option maxRecDepth 20000 in
theorem m_tb {k : Nat} (hk : k ≤ 1) (hP : P none (LY ++ ext) (uw V 76 (cp (V 76) 0 (fun i => V 79 (39 * k + i)) 39)) VL (vr G)) : ∀ (m i : Nat), i + m = 39 → Ex (d + 0) mi161 2 [.ref 74, .int (nI k), .int (nI i)] [] (LY ++ ext) (uw V 76 (cp (V 76) 0 (fun i => V 79 (39 * k + i)) i)) VL (vr G) 0 0 P := by
  intro m
  induction m with
  | zero =>
    intro i hi
    have e : i = 39 := by omega
    subst e
    refine x_iload_n rfl rfl ?_
    refine x_bipushN (q := 39) rfl ?_
    refine x_icmpN_ge rfl (fun c5 => ?_) (fun c5 => ?_)
    rotate_left
    · exact absurd c5 (by first | decide | omega)
    refine x_vret rfl rfl ?_
    exact hP | succ m ih =>
    intro i hi
    refine x_iload_n rfl rfl ?_
    refine x_bipushN (q := 39) rfl ?_
    refine x_icmpN_ge rfl (fun c5 => ?_) (fun c5 => ?_)
    · exact absurd c5 (by first | decide | omega)
    refine x_aload_n rfl rfl ?_
    refine x_getR (u := .ref _) rfl rfl rfl rfl ?_
    refine x_iload_n rfl rfl ?_
    refine x_aload_n rfl rfl ?_
    refine x_getR (u := .ref _) rfl rfl rfl rfl ?_
    refine x_bipushN (q := 39) rfl ?_
    refine x_iload_n rfl rfl ?_
    refine x_imulN rfl ?_
    refine x_iload_n rfl rfl ?_
    refine x_iaddN rfl ?_
    refine x_ialE (j := 39 * k + i) rfl rfl (rfl) (by omega) (show _ = V 79 (39 * k + i) by rw [uw_ne (by omega)]) ?_
    refine x_iasN (j := i) rfl rfl (rfl) (by omega) ?_
    refine x_iincN (q := 1) (ls' := [_, _, _]) rfl rfl rfl rfl ?_
    refine x_goto rfl ?_
    skip
    rw [cp0_step rfl]
    exact ih (i + 1) (by omega)
set_option maxRecDepth 20000 in
theorem m_takesBack {k : Nat} (hk : k ≤ 1) (hP : P none (LY ++ ext) (uw V 76 (cp (V 76) 0 (fun i => V 79 (39 * k + i)) 39)) VL (vr G)) : Ex d mi161 0 (entL [.ref 74, .int (nI k)] 3) [] (LY ++ ext) V VL (vr G) 0 0 P := by
  refine x_iconstN (q := 0) rfl ?_
  refine x_istore_n (ls' := [_, _, _]) rfl rfl rfl ?_
  skip
  have h := m_tb (d := d) hk hP 39 0 (by omega)
  rw [cp_0] at h
  exact h
set_option maxRecDepth 20000 in
theorem my_loop {n sd0 : Nat} (hW : WF K) (hL : LwK K) (h0 : 0 < K 93) (hn : n ≤ 100) : ∀ (m i : Nat) (V : VIT) (s : YrS) (z5 z6 z7 : Value), i + m = n → FrZ V0 V → RK (V 76) s.2.1 → YOK K s.2.1 → V 74 51 = nI s.1 → V 74 50 = nI (K 93) → s.1 ≤ 1000003 → s.2.2 ≤ 2 * i → (∀ (V' : VIT) (z4 z5 z6 z7 : Value), FrZ V0 V' → RK (V' 76) (yrL (K 93) m s).2.1 → Ex (d + 46) mi275 160 [.ref 74, .int (nI sd0), .int (nI n), .int (nI (yrL (K 93) m s).2.2), z4, z5, z6, z7] [] (LY ++ ext) V' VL (vr G) 0 0 P) → Ex (d + 46) mi275 69 [.ref 74, .int (nI sd0), .int (nI n), .int (nI s.2.2), .int (nI i), z5, z6, z7] [] (LY ++ ext) V VL (vr G) 0 0 P := by
  have h6 := hW.n
  intro m
  induction m with
  | zero =>
    intro i V s z5 z6 z7 hi hF hM hY hs h50 hs1 hc hP
    refine x_iload rfl rfl ?_
    refine x_iload_n rfl rfl ?_
    refine x_icmpN_ge rfl (fun c72 => ?_) (fun c72 => ?_)
    rotate_left
    · exact absurd c72 (by first | decide | omega)
    exact hP V _ _ _ _ hF hM | succ m ih =>
    intro i V s z5 z6 z7 hi hF hM hY hs h50 hs1 hc hP
    have e93 := hY.n
    have h38 : s.2.1 38 ≤ 999 := hY.1.2.2.2.2.2.1
    have hLY : LwK s.2.1 := fun t ht => by
      rw [hY.2 96 (by omega) (by omega)] at ht
      rw [hY.2 (98 + t) (by omega) (by omega), kcl_congr (K := K) (fun i hi => hY.2 i (by omega) (by omega))]
      exact hL t ht
    by_cases c : s.2.1 38 < 999
    · have eL : yrL (K 93) (m + 1) s = yrL (K 93) m (yrN (K 93) s) := if_pos c
      rw [eL] at hP
      obtain ⟨y1, y2, y3⟩ := yrN_ok hY h0 c
      have l1 := dr_lt (sd := s.1)
      have l2 := dr_lt (sd := dr s.1)
      have l3 := dr_lt (sd := dr (dr s.1))
      have ea : up V 74 51 (nI (dr s.1)) 74 50 = nI (K 93) := (up_at' (by omega)).trans h50
      have eb : up (up V 74 51 (nI (dr s.1))) 74 51 (nI (dr (dr s.1))) 74 50 = nI (K 93) := (up_at' (by omega)).trans ea
      have ec : up (up (up V 74 51 (nI (dr s.1))) 74 51 (nI (dr (dr s.1)))) 74 51 (nI (dr (dr (dr s.1)))) 74 50 = nI (K 93) := (up_at' (by omega)).trans eb
      have hp : dr (dr s.1) % K 93 < K 93 := Nat.mod_lt _ h0
      have hq : dr (dr (dr s.1)) % K 93 < K 93 := Nat.mod_lt _ h0
      have hd4 : dr s.1 % 4 < 4 := Nat.mod_lt _ (by omega)
      have hM3 : RK (up (up (up V 74 51 (nI (dr s.1))) 74 51 (nI (dr (dr s.1)))) 74 51 (nI (dr (dr (dr s.1)))) 76) s.2.1 := by rw [up_ne (by omega), up_ne (by omega), up_ne (by omega)]; exact hM
      have hF3 : FrZ V0 (up (up (up V 74 51 (nI (dr s.1))) 74 51 (nI (dr (dr s.1)))) 74 51 (nI (dr (dr (dr s.1))))) := fun a k q1 q2 q3 => by rw [up_ne2 (by omega), up_ne2 (by omega), up_ne2 (by omega)]; exact hF a k q1 q2 q3
      refine x_iload rfl rfl ?_
      refine x_iload_n rfl rfl ?_
      refine x_icmpN_ge rfl (fun c72 => ?_) (fun c72 => ?_)
      · exact absurd c72 (by first | decide | omega)
      refine x_aload_n rfl rfl ?_
      refine x_getR (u := .ref _) rfl rfl rfl rfl ?_
      refine x_bipushN (q := 38) rfl ?_
      refine x_ialE (j := 38) rfl rfl (rfl) (by omega) (hM.at 38) ?_
      refine x_sipushN (q := 999) rfl ?_
      refine x_icmpN_ge rfl (fun c85 => ?_) (fun c85 => ?_)
      · exact absurd c85 (by first | decide | omega)
      refine x_aload_n rfl rfl ?_
      refine x_iconstN (q := 4) rfl ?_
      refine x_callV (M' := mi274) (As := [_]) (bc1 := 0) (bs1 := 0) (bc2 := 0) (bs2 := 0) rfl rfl rfl rfl ok274 rfl rfl (by decide) rfl rfl rfl rfl rfl rfl ?_
      refine m_draws (many := 4) hs hs1 (by omega) (by omega) ?_
      refine x_istore (ls' := [_, _, _, _, _, _, _, _]) rfl rfl rfl ?_
      refine x_aload_n rfl rfl ?_
      refine x_aload_n rfl rfl ?_
      refine x_getE (y := 50) rfl rfl rfl ea ?_
      refine x_callV (M' := mi274) (As := [_]) (bc1 := 0) (bs1 := 0) (bc2 := 0) (bs2 := 0) rfl rfl rfl rfl ok274 rfl rfl (by decide) rfl rfl rfl rfl rfl rfl ?_
      refine m_draws up_at (by omega) h0 h6 ?_
      refine x_istore (ls' := [_, _, _, _, _, _, _, _]) rfl rfl rfl ?_
      refine x_aload_n rfl rfl ?_
      refine x_aload_n rfl rfl ?_
      refine x_getE (y := 50) rfl rfl rfl eb ?_
      refine x_callV (M' := mi274) (As := [_]) (bc1 := 0) (bs1 := 0) (bc2 := 0) (bs2 := 0) rfl rfl rfl rfl ok274 rfl rfl (by decide) rfl rfl rfl rfl rfl rfl ?_
      refine m_draws up_at (by omega) h0 h6 ?_
      refine x_istore (ls' := [_, _, _, _, _, _, _, _]) rfl rfl rfl ?_
      skip
      have hk : ∀ (V1 : VIT) (ch : Nat), FrZ V0 V1 → V1 74 51 = nI (dr (dr (dr s.1))) → V1 74 50 = nI (K 93) → RK (V1 76) (yrT s.2.1 (dr (dr s.1) % K 93) (dr (dr (dr s.1)) % K 93) (dr s.1 % 4)).1 → (yrT s.2.1 (dr (dr s.1) % K 93) (dr (dr (dr s.1)) % K 93) (dr s.1 % 4)).1 38 = s.2.1 38 → ch = s.2.2 + (yrT s.2.1 (dr (dr s.1) % K 93) (dr (dr (dr s.1)) % K 93) (dr s.1 % 4)).2 → Ex (d + 46) mi275 142 [.ref 74, .int (nI sd0), .int (nI n), .int (nI s.2.2), .int (nI i), .int (nI (dr s.1 % 4)), .int (nI (dr (dr s.1) % K 93)), .int (nI (dr (dr (dr s.1)) % K 93))] [.int (nI ch)] (LY ++ ext) V1 VL (vr G) 0 0 P := by
        intro V1 ch g1 g2 g3 g4 g5 g6
        rw [show ch = (yrN (K 93) s).2.2 from g6]
        have ev : V1 76 38 = nI (s.2.1 38) := by rw [g4.at 38, g5]
        have gM : RK (up V1 76 38 (nI (s.2.1 38 + 1)) 76) (yrN (K 93) s).2.1 := g4.ku (by omega) rfl
        refine x_istore_n (ls' := [_, _, _, _, _, _, _, _]) rfl rfl rfl ?_
        refine x_aload_n rfl rfl ?_
        refine x_getR (u := .ref _) rfl rfl rfl rfl ?_
        refine x_bipushN (q := 38) rfl ?_
        refine x_dup2 rfl rfl rfl ?_
        refine x_ialE (j := 38) rfl rfl (rfl) (by omega) (ev) ?_
        refine x_iconstN (q := 1) rfl ?_
        refine x_iaddN rfl ?_
        refine x_iasN (j := 38) rfl rfl (rfl) (by omega) ?_
        refine x_iincN (q := 1) (ls' := [_, _, _, _, _, _, _, _]) rfl rfl rfl rfl ?_
        refine x_goto rfl ?_
        exact ih (i + 1) _ (yrN (K 93) s) _ _ _ (by omega) (fun a k q1 q2 q3 => by rw [up_ne q1]; exact g1 a k q1 q2 q3) gM y1 (by rw [up_ne (by omega)]; exact g2) (by rw [up_ne (by omega)]; exact g3) (by show dr (dr (dr s.1)) ≤ _; omega) (by omega) hP
      have b1_ := hY.1.life (p := dr (dr s.1) % K 93) (by omega)
      have b2_ := hY.1.life (p := dr (dr (dr s.1)) % K 93) (by omega)
      have hfr : ∀ V1 : VIT, FrT (up (up (up V 74 51 (nI (dr s.1))) 74 51 (nI (dr (dr s.1)))) 74 51 (nI (dr (dr (dr s.1))))) V1 → FrZ V0 V1 := fun V1 h a k q1 q2 q3 => (h a k q2 (by omega)).trans (hF3 a k q1 q2 q3)
      by_cases cpq : dr (dr s.1) % K 93 = dr (dr (dr s.1)) % K 93
      · have eT : yrT s.2.1 (dr (dr s.1) % K 93) (dr (dr (dr s.1)) % K 93) (dr s.1 % 4) = (s.2.1, 0) := if_neg (fun z => z.1 cpq)
        have hk2 := hk _ (s.2.2 + 0) hF3 up_at ec (by rw [eT]; exact hM3) (by rw [eT]) (by rw [eT])
        refine x_iload_n rfl rfl ?_
        refine x_iload rfl rfl ?_
        refine x_iload rfl rfl ?_
        refine x_icmpN_ne rfl (fun c120 => ?_) (fun c120 => ?_)
        · exact absurd c120 (by first | decide | omega)
        refine x_iconstN (q := 0) rfl ?_
        refine x_goto rfl ?_
        refine x_iaddN rfl ?_
        exact hk2
      · by_cases cn : s.2.1 (24 + dr (dr s.1) % K 93) = 0 ∨ s.2.1 (24 + dr (dr (dr s.1)) % K 93) = 0 ∨ outK s.2.1 (dr (dr s.1) % K 93) (dr (dr (dr s.1)) % K 93) (dr s.1 % 4) (s.2.1 (4 * (dr (dr s.1) % K 93) + dr s.1 % 4)) (s.2.1 (4 * (dr (dr (dr s.1)) % K 93) + dr s.1 % 4)) (s.2.1 38) = none
        · have eT : yrT s.2.1 (dr (dr s.1) % K 93) (dr (dr (dr s.1)) % K 93) (dr s.1 % 4) = (s.2.1, 0) := by
            unfold yrT
            split
            · rename_i z
              rcases cn with z1 | z1 | z1
              · omega
              · omega
              · rw [z1]; rfl
            · rfl
          refine x_iload_n rfl rfl ?_
          refine x_iload rfl rfl ?_
          refine x_iload rfl rfl ?_
          refine x_icmpN_ne rfl (fun c120 => ?_) (fun c120 => ?_)
          rotate_left
          · exact absurd c120 (by first | decide | omega)
          refine x_iconstN (q := 0) rfl ?_
          refine x_aload_n rfl rfl ?_
          refine x_iload rfl rfl ?_
          refine x_iload rfl rfl ?_
          refine x_iload rfl rfl ?_
          refine x_callV (M' := mi238) (As := [_, _, _]) (bc1 := 0) (bs1 := 0) (bc2 := 0) (bs2 := 0) rfl rfl rfl rfl ok238 rfl rfl (by decide) rfl rfl rfl rfl rfl rfl ?_
          refine m_talksNow_no hM3 hY.1 hLY (by omega) (by omega) cpq hd4 cn (fun V1 hF1 => ?_)
          refine x_callS (M' := mi153) (As := [_, _]) (bc1 := 0) (bs1 := 0) (bc2 := 0) (bs2 := 0) rfl rfl rfl rfl ok153 rfl rfl rfl rfl rfl rfl ?_
          refine m_greater ?_
          rw [show (if nI 0 ≤ (-1 : Int32) then (-1 : Int32) else nI 0) = nI 0 from rfl]
          refine x_iaddN rfl ?_
          exact hk V1 (s.2.2 + 0) (hfr V1 hF1) ((hF1 74 51 (by omega) (by omega)).trans up_at) ((hF1 74 50 (by omega) (by omega)).trans ec) (by rw [eT]; exact hF1.RK hM3) (by rw [eT]) (by rw [eT])
        · cases ho : outK s.2.1 (dr (dr s.1) % K 93) (dr (dr (dr s.1)) % K 93) (dr s.1 % 4) (s.2.1 (4 * (dr (dr s.1) % K 93) + dr s.1 % 4)) (s.2.1 (4 * (dr (dr (dr s.1)) % K 93) + dr s.1 % 4)) (s.2.1 38) with
          | none => exact absurd (Or.inr (Or.inr ho)) cn
          | some c2 =>
            have z1 : s.2.1 (24 + dr (dr s.1) % K 93) = 1 := by
              have : ¬ s.2.1 (24 + dr (dr s.1) % K 93) = 0 := fun z => cn (Or.inl z)
              omega
            have z2 : s.2.1 (24 + dr (dr (dr s.1)) % K 93) = 1 := by
              have : ¬ s.2.1 (24 + dr (dr (dr s.1)) % K 93) = 0 := fun z => cn (Or.inr (Or.inl z))
              omega
            have eT : yrT s.2.1 (dr (dr s.1) % K 93) (dr (dr (dr s.1)) % K 93) (dr s.1 % 4) = (tkK s.2.1 (dr (dr s.1) % K 93) (dr (dr (dr s.1)) % K 93) (dr s.1 % 4) c2, chgN (s.2.1 (4 * (dr (dr s.1) % K 93) + dr s.1 % 4) * 4 + s.2.1 (4 * (dr (dr (dr s.1)) % K 93) + dr s.1 % 4)) c2) := by
              unfold yrT
              rw [if_pos ⟨cpq, z1, z2⟩, ho]
              rfl
            have hcl := chgN_le (mk := s.2.1 (4 * (dr (dr s.1) % K 93) + dr s.1 % 4) * 4 + s.2.1 (4 * (dr (dr (dr s.1)) % K 93) + dr s.1 % 4)) (c := c2)
            have egr : (if nI 0 ≤ nI (chgN (s.2.1 (4 * (dr (dr s.1) % K 93) + dr s.1 % 4) * 4 + s.2.1 (4 * (dr (dr (dr s.1)) % K 93) + dr s.1 % 4)) c2) then nI (chgN (s.2.1 (4 * (dr (dr s.1) % K 93) + dr s.1 % 4) * 4 + s.2.1 (4 * (dr (dr (dr s.1)) % K 93) + dr s.1 % 4)) c2) else nI 0) = nI (chgN (s.2.1 (4 * (dr (dr s.1) % K 93) + dr s.1 % 4) * 4 + s.2.1 (4 * (dr (dr (dr s.1)) % K 93) + dr s.1 % 4)) c2) := if_pos (nI_le (by omega) (by omega))
            refine x_iload_n rfl rfl ?_
            refine x_iload rfl rfl ?_
            refine x_iload rfl rfl ?_
            refine x_icmpN_ne rfl (fun c120 => ?_) (fun c120 => ?_)
            rotate_left
            · exact absurd c120 (by first | decide | omega)
            refine x_iconstN (q := 0) rfl ?_
            refine x_aload_n rfl rfl ?_
            refine x_iload rfl rfl ?_
            refine x_iload rfl rfl ?_
            refine x_iload rfl rfl ?_
            refine x_callV (M' := mi238) (As := [_, _, _]) (bc1 := 0) (bs1 := 0) (bc2 := 0) (bs2 := 0) rfl rfl rfl rfl ok238 rfl rfl (by decide) rfl rfl rfl rfl rfl rfl ?_
            refine m_talksNow_ok hM3 hY.1 hLY (by omega) (by omega) cpq hd4 z1 z2 ho (fun V1 hF1 => ?_)
            refine x_callS (M' := mi153) (As := [_, _]) (bc1 := 0) (bs1 := 0) (bc2 := 0) (bs2 := 0) rfl rfl rfl rfl ok153 rfl rfl rfl rfl rfl rfl ?_
            refine m_greater ?_
            rw [egr]
            refine x_iaddN rfl ?_
            skip
            have gM : RK (up (up V1 76 (4 * (dr (dr s.1) % K 93) + dr s.1 % 4) (nI (c2 / 4))) 76 (4 * (dr (dr (dr s.1)) % K 93) + dr s.1 % 4) (nI (c2 % 4)) 76) (tkK s.2.1 (dr (dr s.1) % K 93) (dr (dr (dr s.1)) % K 93) (dr s.1 % 4) c2) := by
              have a1 : RK (up V1 76 (4 * (dr (dr s.1) % K 93) + dr s.1 % 4) (nI (c2 / 4)) 76) (ku s.2.1 (4 * (dr (dr s.1) % K 93) + dr s.1 % 4) (c2 / 4)) := (hF1.RK hM3).ku (by omega) rfl
              exact a1.ku (by omega) rfl
            have f1 : (yrT s.2.1 (dr (dr s.1) % K 93) (dr (dr (dr s.1)) % K 93) (dr s.1 % 4)).1 = tkK s.2.1 (dr (dr s.1) % K 93) (dr (dr (dr s.1)) % K 93) (dr s.1 % 4) c2 := congrArg Prod.fst eT
            have f2 : (yrT s.2.1 (dr (dr s.1) % K 93) (dr (dr (dr s.1)) % K 93) (dr s.1 % 4)).2 = chgN (s.2.1 (4 * (dr (dr s.1) % K 93) + dr s.1 % 4) * 4 + s.2.1 (4 * (dr (dr (dr s.1)) % K 93) + dr s.1 % 4)) c2 := congrArg Prod.snd eT
            have f3 : tkK s.2.1 (dr (dr s.1) % K 93) (dr (dr (dr s.1)) % K 93) (dr s.1 % 4) c2 38 = s.2.1 38 := tkK_ge hY.1 (by omega) (by omega) hd4 38 (by omega)
            have e51 : V1 74 51 = nI (dr (dr (dr s.1))) := (hF1 74 51 (by omega) (by omega)).trans up_at
            have e50 : V1 74 50 = nI (K 93) := (hF1 74 50 (by omega) (by omega)).trans ec
            refine hk (up (up V1 76 (4 * (dr (dr s.1) % K 93) + dr s.1 % 4) (nI (c2 / 4))) 76 (4 * (dr (dr (dr s.1)) % K 93) + dr s.1 % 4) (nI (c2 % 4))) (s.2.2 + chgN (s.2.1 (4 * (dr (dr s.1) % K 93) + dr s.1 % 4) * 4 + s.2.1 (4 * (dr (dr (dr s.1)) % K 93) + dr s.1 % 4)) c2) (fun a k q1 q2 q3 => ?_) ?_ ?_ ?_ ?_ ?_
            · rw [up_ne q1, up_ne q1]; exact hfr V1 hF1 a k q1 q2 q3
            · rw [up_ne (by omega), up_ne (by omega)]; exact e51
            · rw [up_ne (by omega), up_ne (by omega)]; exact e50
            · rw [f1]; exact gM
            · rw [f1]; exact f3
            · rw [f2]
    · have eL : yrL (K 93) (m + 1) s = s := if_neg c
      rw [eL] at hP
      refine x_iload rfl rfl ?_
      refine x_iload_n rfl rfl ?_
      refine x_icmpN_ge rfl (fun c72 => ?_) (fun c72 => ?_)
      · exact absurd c72 (by first | decide | omega)
      refine x_aload_n rfl rfl ?_
      refine x_getR (u := .ref _) rfl rfl rfl rfl ?_
      refine x_bipushN (q := 38) rfl ?_
      refine x_ialE (j := 38) rfl rfl (rfl) (by omega) (hM.at 38) ?_
      refine x_sipushN (q := 999) rfl ?_
      refine x_icmpN_ge rfl (fun c85 => ?_) (fun c85 => ?_)
      rotate_left
      · exact absurd c85 (by first | decide | omega)
      exact hP V _ _ _ _ hF hM
set_option maxRecDepth 20000 in
theorem my_dm {n sd0 ch : Nat} {z5 z6 z7 : Value} (hP : ∀ z : Value, Ex (d + 46) mi275 192 [.ref 74, .int (nI sd0), .int (nI n), .int (nI ch), z, z5, z6, z7] [] (LY ++ ext) (uw V 99 (cp (V 99) 0 (V 76) 24)) VL (vr G) 0 0 P) : ∀ (m i : Nat), i + m = 24 → Ex (d + 46) mi275 163 [.ref 74, .int (nI sd0), .int (nI n), .int (nI ch), .int (nI i), z5, z6, z7] [] (LY ++ ext) (uw V 99 (cp (V 99) 0 (V 76) i)) VL (vr G) 0 0 P := by
  intro m
  induction m with
  | zero =>
    intro i hi
    have e : i = 24 := by omega
    subst e
    refine x_iload rfl rfl ?_
    refine x_bipushN (q := 24) rfl ?_
    refine x_icmpN_ge rfl (fun c167 => ?_) (fun c167 => ?_)
    rotate_left
    · exact absurd c167 (by first | decide | omega)
    exact hP _ | succ m ih =>
    intro i hi
    refine x_iload rfl rfl ?_
    refine x_bipushN (q := 24) rfl ?_
    refine x_icmpN_ge rfl (fun c167 => ?_) (fun c167 => ?_)
    · exact absurd c167 (by first | decide | omega)
    refine x_aload_n rfl rfl ?_
    refine x_getR (u := .ref _) rfl rfl rfl rfl ?_
    refine x_iload rfl rfl ?_
    refine x_aload_n rfl rfl ?_
    refine x_getR (u := .ref _) rfl rfl rfl rfl ?_
    refine x_iconstN (q := 0) rfl ?_
    refine x_iload rfl rfl ?_
    refine x_iaddN rfl ?_
    refine x_ialE (j := i) rfl rfl (by rw [Nat.zero_add]) (by omega) (show _ = V 76 i by rw [uw_ne (by omega)]) ?_
    refine x_iasN (j := i) rfl rfl (rfl) (by omega) ?_
    refine x_iincN (q := 1) (ls' := [_, _, _, _, _, _, _, _]) rfl rfl rfl rfl ?_
    refine x_goto rfl ?_
    skip
    rw [cp0_step rfl]
    exact ih (i + 1) (by omega)
end Years2
