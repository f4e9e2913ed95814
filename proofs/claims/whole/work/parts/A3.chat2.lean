/-! ===== chatter: the model ===== -/
section Chat2
variable {d : Nat} {V0 V : VIT} {VL : VLT} {G : VRT} {P : Post} {ext : HL} {K : KT} {dy : Nat}
set_option maxRecDepth 20000 in
theorem mul6_inj {a b n : Nat} (h : a * 4 ^ (6 - n) = b * 4 ^ (6 - n)) : a = b := Nat.eq_of_mul_eq_mul_right (Nat.pow_pos (by omega)) h
set_option maxRecDepth 20000 in
theorem mc_q {w : Int32} {rd : Nat} (hO : OutM K dy V) (hM : RK (V 76) K) (hW : WF K) {p : Nat} (hp : p < K 93) : ∀ (m q : Nat) (st : Nat × Nat) (z8 : Value), q + m = K 93 → p < q → Sok K st → (∀ z7 z8 : Value, Ex (d + 46) mi264 139 [.ref 74, .int (nI dy), .int w, .int (nI ((ctQ K dy p m q st).1 * 4 ^ (6 - K 93))), .int (nI rd), .int (nI (ctQ K dy p m q st).2), .int (nI p), z7, z8] [] (LY ++ ext) V VL (vr G) 0 0 P) → Ex (d + 46) mi264 67 [.ref 74, .int (nI dy), .int w, .int (nI (st.1 * 4 ^ (6 - K 93))), .int (nI rd), .int (nI st.2), .int (nI p), .int (nI q), z8] [] (LY ++ ext) V VL (vr G) 0 0 P := by
  have h6 := hW.n
  intro m
  induction m with
  | zero =>
    intro q st z8 hq hpq hs hP
    refine x_iload rfl rfl ?_
    refine x_aload_n rfl rfl ?_
    refine x_getR (u := .ref _) rfl rfl rfl rfl ?_
    refine x_bipushN (q := 93) rfl ?_
    refine x_ialE (j := 93) rfl rfl (rfl) (by omega) (hM.at 93) ?_
    refine x_icmpN_ge rfl (fun c76 => ?_) (fun c76 => ?_)
    rotate_left
    · exact absurd c76 (by first | decide | omega)
    exact hP _ _ | succ m ih =>
    intro q st z8 hq hpq hs hP
    have l1 := hW.life hp
    have l2 := hW.life (p := q) (by omega)
    have hsl := r6_lt h6 hs.1
    by_cases c1 : K (24 + p) = 1 ∧ K (24 + q) = 1
    · have d1 := c1.1
      have d2 := c1.2
      refine x_iload rfl rfl ?_
      refine x_aload_n rfl rfl ?_
      refine x_getR (u := .ref _) rfl rfl rfl rfl ?_
      refine x_bipushN (q := 93) rfl ?_
      refine x_ialE (j := 93) rfl rfl (rfl) (by omega) (hM.at 93) ?_
      refine x_icmpN_ge rfl (fun c76 => ?_) (fun c76 => ?_)
      · exact absurd c76 (by first | decide | omega)
      refine x_aload_n rfl rfl ?_
      refine x_iload rfl rfl ?_
      refine x_callV (M' := mi167) (As := [_]) (bc1 := 0) (bs1 := 0) (bc2 := 0) (bs2 := 0) rfl rfl rfl rfl ok167 rfl rfl (by decide) rfl rfl rfl rfl rfl rfl ?_
      refine m_lives (by omega) ?_
      rw [b1_life (hM.at (24 + p)) l1]
      refine x_ifN_eq rfl (fun c85 => ?_) (fun c85 => ?_)
      · exact absurd c85 (by first | decide | omega)
      refine x_aload_n rfl rfl ?_
      refine x_iload rfl rfl ?_
      refine x_callV (M' := mi167) (As := [_]) (bc1 := 0) (bs1 := 0) (bc2 := 0) (bs2 := 0) rfl rfl rfl rfl ok167 rfl rfl (by decide) rfl rfl rfl rfl rfl rfl ?_
      refine m_lives (by omega) ?_
      rw [b1_life (hM.at (24 + q)) l2]
      refine x_ifN_eq rfl (fun c94 => ?_) (fun c94 => ?_)
      · exact absurd c94 (by first | decide | omega)
      refine x_aload_n rfl rfl ?_
      refine x_iload_n rfl rfl ?_
      refine x_iload rfl rfl ?_
      refine x_iload rfl rfl ?_
      refine x_callV (M' := mi234) (As := [_, _, _]) (bc1 := 0) (bs1 := 0) (bc2 := 0) (bs2 := 0) rfl rfl rfl rfl ok234 rfl rfl (by decide) rfl rfl rfl rfl rfl rfl ?_
      refine m_rowBehind hO hW hpq (by omega) hs.1 ?_
      refine x_goto rfl ?_
      skip
      unfold sh6
      cases hr : raK K dy st.1 p q with
      | none =>
        have es : ctS K dy st p q = st := by
          unfold ctS
          rw [if_pos c1, hr]
          rfl
        rw [show ctQ K dy p (m + 1) q st = ctQ K dy p m (q + 1) st by show ctQ K dy p m (q + 1) (ctS K dy st p q) = _; rw [es]] at hP
        have hk := fun z8 => ih (q + 1) st z8 (by omega) (by omega) hs hP
        refine x_istore (ls' := [_, _, _, _, _, _, _, _, _]) rfl rfl rfl ?_
        refine x_iload rfl rfl ?_
        refine x_iconst rfl ?_
        refine x_icmp_eq rfl (fun c115 => ?_) (fun c115 => ?_)
        rotate_left
        · exact absurd rfl c115
        refine x_iincN (q := 1) (ls' := [_, _, _, _, _, _, _, _, _]) rfl rfl rfl rfl ?_
        refine x_goto rfl ?_
        exact hk _ | some t =>
        simp only [Option.map_some]
        have ht := raK_lt hW hp (by omega) hs.1 hr
        have htl := r6_lt h6 ht
        by_cases c2 : t = st.1
        · have es : ctS K dy st p q = st := by
            unfold ctS
            rw [if_pos c1, hr]
            exact if_pos c2
          rw [show ctQ K dy p (m + 1) q st = ctQ K dy p m (q + 1) st by show ctQ K dy p m (q + 1) (ctS K dy st p q) = _; rw [es]] at hP
          have hk := fun z8 => ih (q + 1) st z8 (by omega) (by omega) hs hP
          subst c2
          refine x_istore (ls' := [_, _, _, _, _, _, _, _, _]) rfl rfl rfl ?_
          refine x_iload rfl rfl ?_
          refine x_iconst rfl ?_
          refine x_icmp_eq rfl (fun c115 => ?_) (fun c115 => ?_)
          · exact absurd c115 (nI_m1 (by omega))
          refine x_iload rfl rfl ?_
          refine x_iload_n rfl rfl ?_
          refine x_icmpN_ne rfl (fun c121 => ?_) (fun c121 => ?_)
          · exact absurd rfl c121
          refine x_goto rfl ?_
          refine x_iincN (q := 1) (ls' := [_, _, _, _, _, _, _, _, _]) rfl rfl rfl rfl ?_
          refine x_goto rfl ?_
          exact hk _
        · have es : ctS K dy st p q = (t, 1) := by
            unfold ctS
            rw [if_pos c1, hr]
            exact if_neg c2
          rw [show ctQ K dy p (m + 1) q st = ctQ K dy p m (q + 1) (t, 1) by show ctQ K dy p m (q + 1) (ctS K dy st p q) = _; rw [es]] at hP
          have hk := fun z8 => ih (q + 1) (t, 1) z8 (by omega) (by omega) ⟨ht, Nat.le_refl _⟩ hP
          refine x_istore (ls' := [_, _, _, _, _, _, _, _, _]) rfl rfl rfl ?_
          refine x_iload rfl rfl ?_
          refine x_iconst rfl ?_
          refine x_icmp_eq rfl (fun c115 => ?_) (fun c115 => ?_)
          · exact absurd c115 (nI_m1 (by omega))
          refine x_iload rfl rfl ?_
          refine x_iload_n rfl rfl ?_
          refine x_icmpN_ne rfl (fun c121 => ?_) (fun c121 => ?_)
          rotate_left
          · exact absurd (mul6_inj c121) c2
          refine x_iload rfl rfl ?_
          refine x_istore_n (ls' := [_, _, _, _, _, _, _, _, _]) rfl rfl rfl ?_
          refine x_iconstN (q := 1) rfl ?_
          refine x_istore (ls' := [_, _, _, _, _, _, _, _, _]) rfl rfl rfl ?_
          refine x_iincN (q := 1) (ls' := [_, _, _, _, _, _, _, _, _]) rfl rfl rfl rfl ?_
          refine x_goto rfl ?_
          exact hk _
    · have es : ctS K dy st p q = st := if_neg c1
      rw [show ctQ K dy p (m + 1) q st = ctQ K dy p m (q + 1) st by show ctQ K dy p m (q + 1) (ctS K dy st p q) = _; rw [es]] at hP
      have hk := fun z8 => ih (q + 1) st z8 (by omega) (by omega) hs hP
      refine x_iload rfl rfl ?_
      refine x_aload_n rfl rfl ?_
      refine x_getR (u := .ref _) rfl rfl rfl rfl ?_
      refine x_bipushN (q := 93) rfl ?_
      refine x_ialE (j := 93) rfl rfl (rfl) (by omega) (hM.at 93) ?_
      refine x_icmpN_ge rfl (fun c76 => ?_) (fun c76 => ?_)
      · exact absurd c76 (by first | decide | omega)
      refine x_aload_n rfl rfl ?_
      refine x_iload rfl rfl ?_
      refine x_callV (M' := mi167) (As := [_]) (bc1 := 0) (bs1 := 0) (bc2 := 0) (bs2 := 0) rfl rfl rfl rfl ok167 rfl rfl (by decide) rfl rfl rfl rfl rfl rfl ?_
      refine m_lives (by omega) ?_
      rw [b1_life (hM.at (24 + p)) l1]
      refine x_ifN_eq rfl (fun c85 => ?_) (fun c85 => ?_)
      · refine x_iconst rfl ?_
        refine x_istore (ls' := [_, _, _, _, _, _, _, _, _]) rfl rfl rfl ?_
        refine x_iload rfl rfl ?_
        refine x_iconst rfl ?_
        refine x_icmp_eq rfl (fun c115 => ?_) (fun c115 => ?_)
        rotate_left
        · exact absurd rfl c115
        refine x_iincN (q := 1) (ls' := [_, _, _, _, _, _, _, _, _]) rfl rfl rfl rfl ?_
        refine x_goto rfl ?_
        exact hk _
      · refine x_aload_n rfl rfl ?_
        refine x_iload rfl rfl ?_
        refine x_callV (M' := mi167) (As := [_]) (bc1 := 0) (bs1 := 0) (bc2 := 0) (bs2 := 0) rfl rfl rfl rfl ok167 rfl rfl (by decide) rfl rfl rfl rfl rfl rfl ?_
        refine m_lives (by omega) ?_
        rw [b1_life (hM.at (24 + q)) l2]
        refine x_ifN_eq rfl (fun c94 => ?_) (fun c94 => ?_)
        · refine x_iconst rfl ?_
          refine x_istore (ls' := [_, _, _, _, _, _, _, _, _]) rfl rfl rfl ?_
          refine x_iload rfl rfl ?_
          refine x_iconst rfl ?_
          refine x_icmp_eq rfl (fun c115 => ?_) (fun c115 => ?_)
          rotate_left
          · exact absurd rfl c115
          refine x_iincN (q := 1) (ls' := [_, _, _, _, _, _, _, _, _]) rfl rfl rfl rfl ?_
          refine x_goto rfl ?_
          exact hk _
        · exact absurd c1 (by omega)
set_option maxRecDepth 20000 in
theorem mc_p {w : Int32} {rd : Nat} (hO : OutM K dy V) (hM : RK (V 76) K) (hW : WF K) : ∀ (m p : Nat) (st : Nat × Nat) (z7 z8 : Value), p + m = K 93 → Sok K st → (∀ z6 z7 z8 : Value, Ex (d + 46) mi264 145 [.ref 74, .int (nI dy), .int w, .int (nI ((ctP K dy m p st).1 * 4 ^ (6 - K 93))), .int (nI rd), .int (nI (ctP K dy m p st).2), z6, z7, z8] [] (LY ++ ext) V VL (vr G) 0 0 P) → Ex (d + 46) mi264 49 [.ref 74, .int (nI dy), .int w, .int (nI (st.1 * 4 ^ (6 - K 93))), .int (nI rd), .int (nI st.2), .int (nI p), z7, z8] [] (LY ++ ext) V VL (vr G) 0 0 P := by
  have h6 := hW.n
  intro m
  induction m with
  | zero =>
    intro p st z7 z8 hk hs hP
    refine x_iload rfl rfl ?_
    refine x_aload_n rfl rfl ?_
    refine x_getR (u := .ref _) rfl rfl rfl rfl ?_
    refine x_bipushN (q := 93) rfl ?_
    refine x_ialE (j := 93) rfl rfl (rfl) (by omega) (hM.at 93) ?_
    refine x_icmpN_ge rfl (fun c58 => ?_) (fun c58 => ?_)
    rotate_left
    · exact absurd c58 (by first | decide | omega)
    exact hP _ _ _ | succ m ih =>
    intro p st z7 z8 hk hs hP
    have hok := ctQ_ok hW (dy := dy) (p := p) (by omega) (K 93 - (p + 1)) (p + 1) st (by omega) hs
    refine x_iload rfl rfl ?_
    refine x_aload_n rfl rfl ?_
    refine x_getR (u := .ref _) rfl rfl rfl rfl ?_
    refine x_bipushN (q := 93) rfl ?_
    refine x_ialE (j := 93) rfl rfl (rfl) (by omega) (hM.at 93) ?_
    refine x_icmpN_ge rfl (fun c58 => ?_) (fun c58 => ?_)
    · exact absurd c58 (by first | decide | omega)
    refine x_iload rfl rfl ?_
    refine x_iconstN (q := 1) rfl ?_
    refine x_iaddN rfl ?_
    refine x_istore (ls' := [_, _, _, _, _, _, _, _, _]) rfl rfl rfl ?_
    skip
    refine mc_q hO hM hW (by omega) (K 93 - (p + 1)) (p + 1) st _ (by omega) (by omega) hs (fun z7 z8 => ?_)
    refine x_iincN (q := 1) (ls' := [_, _, _, _, _, _, _, _, _]) rfl rfl rfl rfl ?_
    refine x_goto rfl ?_
    exact ih (p + 1) _ _ _ (by omega) hok hP
/-- whom a number names -/
def whoW (K : KT) (w : Int32) (o : Option Nat) : Prop := (w = -1 ∧ o = none) ∨ ∃ p, p < K 93 ∧ w = nI p ∧ o = some p
set_option maxRecDepth 20000 in
theorem mc_r {w : Int32} {o : Option Nat} (hw : whoW K w o) (hO : OutM K dy V) (hM : RK (V 76) K) (hW : WF K) : ∀ (f rd r : Nat) (z5 z6 z7 z8 : Value), rd + f = 51 → r < 4 ^ K 93 → P (some (.int (agI ((ctR K dy f rd r).map (fun a => o.elim a.1 (fun p => dg (K 93) a.2 p)))))) (LY ++ ext) V VL (vr G) → Ex (d + 46) mi264 36 [.ref 74, .int (nI dy), .int w, .int (nI (r * 4 ^ (6 - K 93))), .int (nI rd), z5, z6, z7, z8] [] (LY ++ ext) V VL (vr G) 0 0 P := by
  have h6 := hW.n
  intro f
  induction f with
  | zero =>
    intro rd r z5 z6 z7 z8 hf hr hP
    refine x_iload rfl rfl ?_
    refine x_bipushN (q := 50) rfl ?_
    refine x_icmpN_gt rfl (fun c40 => ?_) (fun c40 => ?_)
    rotate_left
    · exact absurd c40 (by first | decide | omega)
    refine x_iconst rfl ?_
    refine x_iret rfl rfl ?_
    exact hP | succ f ih =>
    intro rd r z5 z6 z7 z8 hf hr hP
    have hok := ctP_ok hW (dy := dy) (K 93) 0 (r, 0) (by omega) ⟨hr, Nat.zero_le _⟩
    have hs2 := hok.2
    refine x_iload rfl rfl ?_
    refine x_bipushN (q := 50) rfl ?_
    refine x_icmpN_gt rfl (fun c40 => ?_) (fun c40 => ?_)
    · exact absurd c40 (by first | decide | omega)
    refine x_iconstN (q := 0) rfl ?_
    refine x_istore (ls' := [_, _, _, _, _, _, _, _, _]) rfl rfl rfl ?_
    refine x_iconstN (q := 0) rfl ?_
    refine x_istore (ls' := [_, _, _, _, _, _, _, _, _]) rfl rfl rfl ?_
    skip
    refine mc_p hO hM hW (K 93) 0 (r, 0) _ _ (by omega) ⟨hr, Nat.zero_le _⟩ (fun z6 z7 z8 => ?_)
    by_cases c : (ctP K dy (K 93) 0 (r, 0)).2 = 0
    · have e : ctR K dy (f + 1) rd r = some (rd, (ctP K dy (K 93) 0 (r, 0)).1) := if_pos c
      rw [e] at hP
      rcases hw with ⟨rfl, rfl⟩ | ⟨p, hp, rfl, rfl⟩
      · refine x_iload rfl rfl ?_
        refine x_ifN_ne rfl (fun c147 => ?_) (fun c147 => ?_)
        · exact absurd c147 (by first | decide | omega)
        refine x_iload_n rfl rfl ?_
        refine x_iconst rfl ?_
        refine x_icmp_ne rfl (fun c152 => ?_) (fun c152 => ?_)
        · exact absurd rfl c152
        refine x_iload rfl rfl ?_
        refine x_goto rfl ?_
        refine x_iret rfl rfl ?_
        exact hP
      · have e2 : dg 6 ((ctP K dy (K 93) 0 (r, 0)).1 * 4 ^ (6 - K 93)) p = dg (K 93) (ctP K dy (K 93) 0 (r, 0)).1 p := dg6 h6 hp
        refine x_iload rfl rfl ?_
        refine x_ifN_ne rfl (fun c147 => ?_) (fun c147 => ?_)
        · exact absurd c147 (by first | decide | omega)
        refine x_iload_n rfl rfl ?_
        refine x_iconst rfl ?_
        refine x_icmp_ne rfl (fun c152 => ?_) (fun c152 => ?_)
        rotate_left
        · exact absurd c152 (nI_m1 (by omega))
        refine x_iload_n rfl rfl ?_
        refine x_iload_n rfl rfl ?_
        refine x_callS (M' := mi179) (As := [_, _]) (bc1 := 0) (bs1 := 0) (bc2 := 0) (bs2 := 0) rfl rfl rfl rfl ok179 rfl rfl rfl rfl rfl rfl ?_
        refine m_markIn (r6_lt h6 hok.1) (by omega) ?_
        rw [e2]
        refine x_iret rfl rfl ?_
        exact hP
    · have e : ctR K dy (f + 1) rd r = ctR K dy f (rd + 1) (ctP K dy (K 93) 0 (r, 0)).1 := if_neg c
      rw [e] at hP
      refine x_iload rfl rfl ?_
      refine x_ifN_ne rfl (fun c147 => ?_) (fun c147 => ?_)
      rotate_left
      · exact absurd c147 (by first | decide | omega)
      refine x_iincN (q := 1) (ls' := [_, _, _, _, _, _, _, _, _]) rfl rfl rfl rfl ?_
      refine x_goto rfl ?_
      exact ih (rd + 1) _ _ _ _ _ (by omega) hok.1 hP
set_option maxRecDepth 20000 in
theorem m_chatter {w : Int32} {o : Option Nat} (hw : whoW K w o) (hM : RK (V 76) K) (hW : WF K) (hL : LwK K) (hd4 : dy < 4) (hP : ∀ V' : VIT, FrL V V' → P (some (.int (ctA K dy o))) (LY ++ ext) V' VL (vr G)) : Ex (d + 46) mi264 0 (entL [.ref 74, .int (nI dy), .int w] 9) [] (LY ++ ext) V VL (vr G) 0 0 P := by
  have h6 := hW.n
  have hk : Ex (d + 46) mi264 22 (entL [.ref 74, .int (nI dy), .int w] 9) [] (LY ++ ext) V VL (vr G) 0 0 P := by
    refine x_aload_n rfl rfl ?_
    refine x_iload_n rfl rfl ?_
    refine x_callV (M' := mi233) (As := [_]) (bc1 := 0) (bs1 := 0) (bc2 := 0) (bs2 := 0) rfl rfl rfl rfl ok233 rfl rfl (by decide) rfl rfl rfl rfl rfl rfl ?_
    refine m_laysTalks hM hW hL hd4 (fun V1 hF hO => ?_)
    have hM1 : RK (V1 76) K := by rw [hF.row 76 (by omega) (by omega) (by omega)]; exact hM
    refine x_aload_n rfl rfl ?_
    refine x_iload_n rfl rfl ?_
    refine x_callV (M' := mi181) (As := [_]) (bc1 := 0) (bs1 := 0) (bc2 := 0) (bs2 := 0) rfl rfl rfl rfl ok181 rfl rfl (by decide) rfl rfl rfl rfl rfl rfl ?_
    refine m_rowNowK hM1 hW hd4 ?_
    refine x_istore_n (ls' := [_, _, _, _, _, _, _, _, _]) rfl rfl rfl ?_
    refine x_iconstN (q := 1) rfl ?_
    refine x_istore (ls' := [_, _, _, _, _, _, _, _, _]) rfl rfl rfl ?_
    exact mc_r hw hO hM1 hW 50 1 (row0 K dy) _ _ _ _ (by omega) (row0_lt hW hd4) (hP V1 hF)
  rcases hw with ⟨rfl, rfl⟩ | ⟨p, hp, rfl, rfl⟩
  · refine x_iload_n rfl rfl ?_
    refine x_callS (M' := mi166) (As := [_]) (bc1 := 0) (bs1 := 0) (bc2 := 0) (bs2 := 0) rfl rfl rfl rfl ok166 rfl rfl rfl rfl rfl rfl ?_
    refine m_isDayK ?_
    rw [show (4 : Int32) = nI 4 from rfl, hasF_in hd4 (by omega)]
    refine x_if_eq rfl (fun c4 => ?_) (fun c4 => ?_)
    · exact absurd c4 (by first | decide | omega)
    refine x_iload_n rfl rfl ?_
    refine x_iconst rfl ?_
    refine x_icmp_eq rfl (fun c9 => ?_) (fun c9 => ?_)
    rotate_left
    · exact absurd rfl c9
    exact hk
  · refine x_iload_n rfl rfl ?_
    refine x_callS (M' := mi166) (As := [_]) (bc1 := 0) (bs1 := 0) (bc2 := 0) (bs2 := 0) rfl rfl rfl rfl ok166 rfl rfl rfl rfl rfl rfl ?_
    refine m_isDayK ?_
    rw [show (4 : Int32) = nI 4 from rfl, hasF_in hd4 (by omega)]
    refine x_if_eq rfl (fun c4 => ?_) (fun c4 => ?_)
    · exact absurd c4 (by first | decide | omega)
    refine x_iload_n rfl rfl ?_
    refine x_iconst rfl ?_
    refine x_icmp_eq rfl (fun c9 => ?_) (fun c9 => ?_)
    · exact absurd c9 (nI_m1 (by omega))
    refine x_aload_n rfl rfl ?_
    refine x_iload_n rfl rfl ?_
    refine x_callV (M' := mi164) (As := [_]) (bc1 := 0) (bs1 := 0) (bc2 := 0) (bs2 := 0) rfl rfl rfl rfl ok164 rfl rfl (by decide) rfl rfl rfl rfl rfl rfl ?_
    refine m_isPersonK hM hW ?_
    rw [hasF_in hp (by omega)]
    refine x_if_ne rfl (fun c17 => ?_) (fun c17 => ?_)
    rotate_left
    · exact absurd c17 (by first | decide | omega)
    exact hk
end Chat2
section Join14
variable {j : Nat} {lay : HL} {VI : VIT} {VL : VLT} {VR : VRT}
set_option maxRecDepth 20000 in
theorem FrCt.kp {V V1 : VIT} (h : FrCt V V1) (a k : Nat) (hk : kpP a k) : V1 a k = V a k := by
  unfold kpP at hk
  exact h a k (by omega) (by omega) (by omega) (by omega) (by omega)
set_option maxRecDepth 20000 in
theorem FrL.kp {V V1 : VIT} (h : FrL V V1) (a k : Nat) (hk : kpP a k) : V1 a k = V a k := by
  unfold kpP at hk
  exact h a k (by omega) (by omega) (by omega)
set_option maxRecDepth 20000 in
theorem j_chatter {c w : Int32} (h : Inv j lay VI VL VR) : Pr 100 mi137 mi264 [.int c, .int w] lay VI VL VR (Inv (j + 1)) := by
  obtain ⟨ext, G, K, tn, T, u, US, lg, rfl, rfl, hS⟩ := h
  have hI := hS.next.inv (VL := VL)
  have hW := hS.1
  have hX := hS.2.1
  have hM := hS.2.2.1
  have hL := hS.2.2.2.2.2.2.2.2.2.1
  have h6 := hW.n
  have hM' : ∀ V1 : VIT, FrCt VI V1 → RK (V1 76) K := fun V1 hF => by rw [show V1 76 = VI 76 from funext (fun k => hF.kp 76 k (by unfold kpP; omega))]; exact hM
  have hfin : ∀ V1 V2 : VIT, FrCt VI V1 → FrL V1 V2 → Inv (j + 1) (LY ++ ext) V2 VL (vr G) := fun V1 V2 h1 h2 => (hS.scratch (fun a k q => (h2.kp a k q).trans (h1.kp a k q))).inv
  by_cases hb : hasF 4 c = 0 ∨ (¬ w = -1 ∧ hasF (nI (K 93)) w = 0)
  · exact Pr_read (-1) (fun P q => x_chatter_bad hX hb q) (fun P q => m_chatter_bad hM hW hb q) hI
  rcases has_cases (n := 4) (by omega) c with h1 | ⟨dy, hd4, rfl⟩
  · exact absurd (Or.inl h1) hb
  by_cases w1 : w = -1
  · subst w1
    exact ExS.budget (bc := 0) (bs := 0) (x_chatter1 hX hW hL hd4 (fun V1 hF => ⟨_, ext, rfl, rfl, m_chatter (Or.inl ⟨rfl, rfl⟩) (hM' V1 hF) hW hL.K hd4 (fun V2 hT => ⟨rfl, hfin V1 V2 hF hT⟩)⟩)) (by omega) (by omega)
  rcases has_cases (n := K 93) (by omega) w with h1 | ⟨p, hp, rfl⟩
  · exact absurd (Or.inr ⟨w1, h1⟩) hb
  exact ExS.budget (bc := 0) (bs := 0) (x_chatter2 hX hW hL hd4 hp (fun V1 hF => ⟨_, ext, rfl, rfl, m_chatter (Or.inr ⟨p, hp, rfl, rfl⟩) (hM' V1 hF) hW hL.K hd4 (fun V2 hT => ⟨rfl, hfin V1 V2 hF hT⟩)⟩)) (by omega) (by omega)
end Join14
