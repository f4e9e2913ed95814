/-! ===== chatter ===== -/
def ctS (K : KT) (dy : Nat) (st : Nat × Nat) (p q : Nat) : Nat × Nat := if K (24 + p) = 1 ∧ K (24 + q) = 1 then (raK K dy st.1 p q).elim st (fun t => if t = st.1 then st else (t, 1)) else st
def ctQ (K : KT) (dy p : Nat) : Nat → Nat → Nat × Nat → Nat × Nat
  | 0, _, st => st
  | m + 1, q, st => ctQ K dy p m (q + 1) (ctS K dy st p q)
def ctP (K : KT) (dy : Nat) : Nat → Nat → Nat × Nat → Nat × Nat
  | 0, _, st => st
  | m + 1, p, st => ctP K dy m (p + 1) (ctQ K dy p (K 93 - (p + 1)) (p + 1) st)
def ctR (K : KT) (dy : Nat) : Nat → Nat → Nat → Option (Nat × Nat)
  | 0, _, _ => none
  | f + 1, rd, r => if (ctP K dy (K 93) 0 (r, 0)).2 = 0 then some (rd, (ctP K dy (K 93) 0 (r, 0)).1) else ctR K dy f (rd + 1) (ctP K dy (K 93) 0 (r, 0)).1
def Sok (K : KT) (st : Nat × Nat) : Prop := st.1 < 4 ^ K 93 ∧ st.2 ≤ 1
set_option maxRecDepth 20000 in
theorem ctS_ok {K : KT} (hW : WF K) {dy p q : Nat} {st : Nat × Nat} (hp : p < K 93) (hq : q < K 93) (h : Sok K st) : Sok K (ctS K dy st p q) := by
  unfold ctS
  split
  · cases hr : raK K dy st.1 p q with
    | none => exact h
    | some t =>
      show Sok K (if t = st.1 then st else (t, 1))
      split
      · exact h
      · exact ⟨raK_lt hW hp hq h.1 hr, Nat.le_refl _⟩
  · exact h
set_option maxRecDepth 20000 in
theorem ctQ_ok {K : KT} (hW : WF K) {dy p : Nat} (hp : p < K 93) : ∀ (m q : Nat) (st : Nat × Nat), q + m = K 93 → Sok K st → Sok K (ctQ K dy p m q st)
  | 0, _, _, _, h => h
  | m + 1, q, st, e, h => ctQ_ok hW hp m (q + 1) _ (by omega) (ctS_ok hW hp (by omega) h)
set_option maxRecDepth 20000 in
theorem ctP_ok {K : KT} (hW : WF K) {dy : Nat} : ∀ (m p : Nat) (st : Nat × Nat), p + m = K 93 → Sok K st → Sok K (ctP K dy m p st)
  | 0, _, _, _, h => h
  | m + 1, p, st, e, h => ctP_ok hW m (p + 1) _ (by omega) (ctQ_ok hW (by omega) _ _ _ (by omega) h)
set_option maxRecDepth 20000 in
theorem ctR_ok {K : KT} (hW : WF K) {dy : Nat} : ∀ (f rd r : Nat) (a : Nat × Nat), r < 4 ^ K 93 → ctR K dy f rd r = some a → a.2 < 4 ^ K 93 ∧ a.1 < rd + f
  | 0, _, _, _, _, h => by cases h
  | f + 1, rd, r, a, hr, h => by
    have ho := (ctP_ok hW (dy := dy) (K 93) 0 (r, 0) (by omega) ⟨hr, Nat.zero_le _⟩).1
    unfold ctR at h
    split at h
    · rw [← Option.some.inj h]
      exact ⟨ho, by show rd < rd + (f + 1); omega⟩
    · have := ctR_ok hW f (rd + 1) _ a ho h
      exact ⟨this.1, by omega⟩
def FrCt (V0 V : VIT) : Prop := ∀ a k, a ≠ 2 → a ≠ 43 → a ≠ 44 → a ≠ 61 → a ≠ 62 → V a k = V0 a k
section Chat
variable {d : Nat} {V0 V : VIT} {VL : VLT} {G : VRT} {P : Post} {ext : HL} {K : KT} {dy : Nat}
set_option maxRecDepth 20000 in
theorem hc_q (hW : WF K) (hd4 : dy < 4) {p : Nat} (hp : p < K 93) : ∀ (m q : Nat) (V : VIT) (st : Nat × Nat) (z4 : Value), q + m = K 93 → p < q → FrCt V0 V → PaX K dy ext G V → V 61 4 = nI st.1 → Sok K st → (∀ (V' : VIT) (z3 z4 : Value), FrCt V0 V' → PaX K dy ext G V' → V' 61 4 = nI (ctQ K dy p m q st).1 → Ex (d + 5) mi38 93 [.ref 61, .int (nI (ctQ K dy p m q st).2), .int (nI p), z3, z4] [] (LY ++ ext) V' VL (vr G) 0 0 P) → Ex (d + 5) mi38 19 [.ref 61, .int (nI st.2), .int (nI p), .int (nI q), z4] [] (LY ++ ext) V VL (vr G) 0 0 P := by
  have h6 := hW.n
  intro m
  induction m with
  | zero =>
    intro q V st z4 hq hpq hF hA h4 hs hP
    have hX := hA.1
    refine x_iload_n rfl rfl ?_
    refine x_aload_n rfl rfl ?_
    refine x_getR (u := .ref _) rfl rfl rfl rfl ?_
    refine x_getE (y := 0) rfl rfl rfl (hX.n) ?_
    refine x_icmpN_ge rfl (fun c27 => ?_) (fun c27 => ?_)
    rotate_left
    · exact absurd c27 (by first | decide | omega)
    exact hP V _ _ hF hA h4 | succ m ih =>
    intro q V st z4 hq hpq hF hA h4 hs hP
    have hX := hA.1
    have l1 := hW.life hp
    have l2 := hW.life (p := q) (by omega)
    by_cases c1 : K (24 + p) = 1 ∧ K (24 + q) = 1
    · refine x_iload_n rfl rfl ?_
      refine x_aload_n rfl rfl ?_
      refine x_getR (u := .ref _) rfl rfl rfl rfl ?_
      refine x_getE (y := 0) rfl rfl rfl (hX.n) ?_
      refine x_icmpN_ge rfl (fun c27 => ?_) (fun c27 => ?_)
      · exact absurd c27 (by first | decide | omega)
      refine x_aload_n rfl rfl ?_
      refine x_getR (u := .ref _) rfl rfl rfl rfl ?_
      refine x_iload_n rfl rfl ?_
      refine x_callV (M' := mi98) (As := [_]) (bc1 := 0) (bs1 := 0) (bc2 := 0) (bs2 := 0) rfl rfl rfl rfl ok98 rfl rfl (by decide) rfl rfl rfl rfl rfl rfl ?_
      refine s_lives_in hX.n hX.lm hp h6 hW.lm ?_
      rw [lm_bit hW hp]
      refine x_ifN_eq rfl (fun c38 => ?_) (fun c38 => ?_)
      · exact absurd c38 (by first | decide | omega)
      refine x_aload_n rfl rfl ?_
      refine x_getR (u := .ref _) rfl rfl rfl rfl ?_
      refine x_iload_n rfl rfl ?_
      refine x_callV (M' := mi98) (As := [_]) (bc1 := 0) (bs1 := 0) (bc2 := 0) (bs2 := 0) rfl rfl rfl rfl ok98 rfl rfl (by decide) rfl rfl rfl rfl rfl rfl ?_
      refine s_lives_in hX.n hX.lm (show q < K 93 by omega) h6 hW.lm ?_
      rw [lm_bit hW (show q < K 93 by omega)]
      refine x_ifN_eq rfl (fun c49 => ?_) (fun c49 => ?_)
      · exact absurd c49 (by first | decide | omega)
      refine x_aload_n rfl rfl ?_
      refine x_aload_n rfl rfl ?_
      refine x_getE (y := 4) rfl rfl rfl h4 ?_
      refine x_iload_n rfl rfl ?_
      refine x_iload_n rfl rfl ?_
      refine x_callV (M' := mi36) (As := [_, _, _]) (bc1 := 0) (bs1 := 0) (bc2 := 0) (bs2 := 0) rfl rfl rfl rfl ok36 rfl rfl (by decide) rfl rfl rfl rfl rfl rfl ?_
      refine s_rowAfter hA hW hd4 hp (by omega) (by omega) hs.1 (fun V1 hF1 hA1 => ?_)
      skip
      have hF' : FrCt V0 V1 := fun a k q1 q2 q3 q4 q5 => (hF1 a k q1 q2 q3 q5).trans (hF a k q1 q2 q3 q4 q5)
      have h4' : V1 61 4 = nI st.1 := (hF1 61 4 (by omega) (by omega) (by omega) (by omega)).trans h4
      have hsl : st.1 < 4096 := Nat.lt_of_lt_of_le hs.1 (pow4_6 h6)
      cases hr : raK K dy st.1 p q with
      | none =>
        have es : ctS K dy st p q = st := by
          unfold ctS
          rw [if_pos c1, hr]
          rfl
        rw [show ctQ K dy p (m + 1) q st = ctQ K dy p m (q + 1) st by show ctQ K dy p m (q + 1) (ctS K dy st p q) = _; rw [es]] at hP
        have hk := fun z4 => ih (q + 1) V1 st z4 (by omega) (by omega) hF' hA1 h4' hs hP
        refine x_istore (ls' := [_, _, _, _, _]) rfl rfl rfl ?_
        refine x_iload rfl rfl ?_
        refine x_iconst rfl ?_
        refine x_icmp_eq rfl (fun c67 => ?_) (fun c67 => ?_)
        rotate_left
        · exact absurd rfl c67
        refine x_iincN (q := 1) (ls' := [_, _, _, _, _]) rfl rfl rfl rfl ?_
        refine x_goto rfl ?_
        exact hk _ | some t =>
        have ht := raK_lt hW hp (by omega) hs.1 hr
        have htl : t < 4096 := Nat.lt_of_lt_of_le ht (pow4_6 h6)
        by_cases c2 : t = st.1
        · have es : ctS K dy st p q = st := by
            unfold ctS
            rw [if_pos c1, hr]
            exact if_pos c2
          rw [show ctQ K dy p (m + 1) q st = ctQ K dy p m (q + 1) st by show ctQ K dy p m (q + 1) (ctS K dy st p q) = _; rw [es]] at hP
          have hk := fun z4 => ih (q + 1) V1 st z4 (by omega) (by omega) hF' hA1 h4' hs hP
          refine x_istore (ls' := [_, _, _, _, _]) rfl rfl rfl ?_
          refine x_iload rfl rfl ?_
          refine x_iconst rfl ?_
          refine x_icmp_eq rfl (fun c67 => ?_) (fun c67 => ?_)
          · exact absurd c67 (nI_m1 (by omega))
          refine x_iload rfl rfl ?_
          refine x_aload_n rfl rfl ?_
          refine x_getE (y := 4) rfl rfl rfl h4' ?_
          refine x_icmpN_eq rfl (fun c76 => ?_) (fun c76 => ?_)
          rotate_left
          · exact absurd c76 (by first | decide | omega)
          refine x_iincN (q := 1) (ls' := [_, _, _, _, _]) rfl rfl rfl rfl ?_
          refine x_goto rfl ?_
          exact hk _
        · have es : ctS K dy st p q = (t, 1) := by
            unfold ctS
            rw [if_pos c1, hr]
            exact if_neg c2
          rw [show ctQ K dy p (m + 1) q st = ctQ K dy p m (q + 1) (t, 1) by show ctQ K dy p m (q + 1) (ctS K dy st p q) = _; rw [es]] at hP
          have hk := fun z4 => ih (q + 1) (up V1 61 4 (nI t)) (t, 1) z4 (by omega) (by omega) (fun a k q1 q2 q3 q4 q5 => by rw [up_ne q4]; exact hF' a k q1 q2 q3 q4 q5) (hA1.set hW (fun a k q => up_ne2 (by omega))) up_at ⟨ht, Nat.le_refl _⟩ hP
          refine x_istore (ls' := [_, _, _, _, _]) rfl rfl rfl ?_
          refine x_iload rfl rfl ?_
          refine x_iconst rfl ?_
          refine x_icmp_eq rfl (fun c67 => ?_) (fun c67 => ?_)
          · exact absurd c67 (nI_m1 (by omega))
          refine x_iload rfl rfl ?_
          refine x_aload_n rfl rfl ?_
          refine x_getE (y := 4) rfl rfl rfl h4' ?_
          refine x_icmpN_eq rfl (fun c76 => ?_) (fun c76 => ?_)
          · exact absurd c76 (by first | decide | omega)
          refine x_iconstN (q := 1) rfl ?_
          refine x_istore_n (ls' := [_, _, _, _, _]) rfl rfl rfl ?_
          refine x_aload_n rfl rfl ?_
          refine x_iload rfl rfl ?_
          refine x_putI rfl rfl rfl rfl ?_
          refine x_iincN (q := 1) (ls' := [_, _, _, _, _]) rfl rfl rfl rfl ?_
          refine x_goto rfl ?_
          exact hk _
    · have es : ctS K dy st p q = st := if_neg c1
      rw [show ctQ K dy p (m + 1) q st = ctQ K dy p m (q + 1) st by show ctQ K dy p m (q + 1) (ctS K dy st p q) = _; rw [es]] at hP
      have hk := fun z4 => ih (q + 1) V st z4 (by omega) (by omega) hF hA h4 hs hP
      refine x_iload_n rfl rfl ?_
      refine x_aload_n rfl rfl ?_
      refine x_getR (u := .ref _) rfl rfl rfl rfl ?_
      refine x_getE (y := 0) rfl rfl rfl (hX.n) ?_
      refine x_icmpN_ge rfl (fun c27 => ?_) (fun c27 => ?_)
      · exact absurd c27 (by first | decide | omega)
      refine x_aload_n rfl rfl ?_
      refine x_getR (u := .ref _) rfl rfl rfl rfl ?_
      refine x_iload_n rfl rfl ?_
      refine x_callV (M' := mi98) (As := [_]) (bc1 := 0) (bs1 := 0) (bc2 := 0) (bs2 := 0) rfl rfl rfl rfl ok98 rfl rfl (by decide) rfl rfl rfl rfl rfl rfl ?_
      refine s_lives_in hX.n hX.lm hp h6 hW.lm ?_
      rw [lm_bit hW hp]
      refine x_ifN_eq rfl (fun c38 => ?_) (fun c38 => ?_)
      · refine x_iincN (q := 1) (ls' := [_, _, _, _, _]) rfl rfl rfl rfl ?_
        refine x_goto rfl ?_
        exact hk _
      · refine x_aload_n rfl rfl ?_
        refine x_getR (u := .ref _) rfl rfl rfl rfl ?_
        refine x_iload_n rfl rfl ?_
        refine x_callV (M' := mi98) (As := [_]) (bc1 := 0) (bs1 := 0) (bc2 := 0) (bs2 := 0) rfl rfl rfl rfl ok98 rfl rfl (by decide) rfl rfl rfl rfl rfl rfl ?_
        refine s_lives_in hX.n hX.lm (show q < K 93 by omega) h6 hW.lm ?_
        rw [lm_bit hW (show q < K 93 by omega)]
        refine x_ifN_eq rfl (fun c49 => ?_) (fun c49 => ?_)
        · refine x_iincN (q := 1) (ls' := [_, _, _, _, _]) rfl rfl rfl rfl ?_
          refine x_goto rfl ?_
          exact hk _
        · exact absurd c1 (by omega)
set_option maxRecDepth 20000 in
theorem s_round (hW : WF K) (hd4 : dy < 4) {r : Nat} (hA : PaX K dy ext G V) (h4 : V 61 4 = nI r) (hr : r < 4 ^ K 93) (hP : ∀ V' : VIT, FrCt V V' → PaX K dy ext G V' → V' 61 4 = nI (ctP K dy (K 93) 0 (r, 0)).1 → P (some (.int (nI (ctP K dy (K 93) 0 (r, 0)).2))) (LY ++ ext) V' VL (vr G)) : Ex (d + 5) mi38 0 (entL [.ref 61] 5) [] (LY ++ ext) V VL (vr G) 0 0 P := by
  have h6 := hW.n
  have hlp : ∀ (m p : Nat) (V1 : VIT) (st : Nat × Nat) (z3 z4 : Value), p + m = K 93 → FrCt V V1 → PaX K dy ext G V1 → V1 61 4 = nI st.1 → Sok K st → (∀ V' : VIT, FrCt V V' → PaX K dy ext G V' → V' 61 4 = nI (ctP K dy m p st).1 → P (some (.int (nI (ctP K dy m p st).2))) (LY ++ ext) V' VL (vr G)) → Ex (d + 5) mi38 4 [.ref 61, .int (nI st.2), .int (nI p), z3, z4] [] (LY ++ ext) V1 VL (vr G) 0 0 P := by
    intro m
    induction m with
    | zero =>
      intro p V1 st z3 z4 hk hF hA1 h41 hs hP1
      have hX1 := hA1.1
      refine x_iload_n rfl rfl ?_
      refine x_aload_n rfl rfl ?_
      refine x_getR (u := .ref _) rfl rfl rfl rfl ?_
      refine x_getE (y := 0) rfl rfl rfl (hX1.n) ?_
      refine x_icmpN_ge rfl (fun c12 => ?_) (fun c12 => ?_)
      rotate_left
      · exact absurd c12 (by first | decide | omega)
      refine x_iload_n rfl rfl ?_
      refine x_zret rfl rfl (nI01 hs.2) ?_
      exact hP1 V1 hF hA1 h41 | succ m ih =>
      intro p V1 st z3 z4 hk hF hA1 h41 hs hP1
      have hX1 := hA1.1
      refine x_iload_n rfl rfl ?_
      refine x_aload_n rfl rfl ?_
      refine x_getR (u := .ref _) rfl rfl rfl rfl ?_
      refine x_getE (y := 0) rfl rfl rfl (hX1.n) ?_
      refine x_icmpN_ge rfl (fun c12 => ?_) (fun c12 => ?_)
      · exact absurd c12 (by first | decide | omega)
      refine x_iload_n rfl rfl ?_
      refine x_iconstN (q := 1) rfl ?_
      refine x_iaddN rfl ?_
      refine x_istore_n (ls' := [_, _, _, _, _]) rfl rfl rfl ?_
      skip
      refine hc_q hW hd4 (by omega) (K 93 - (p + 1)) (p + 1) V1 st _ (by omega) (by omega) hF hA1 h41 hs (fun V2 z3 z4 a1 a2 a3 => ?_)
      have hok := ctQ_ok hW (dy := dy) (p := p) (by omega) (K 93 - (p + 1)) (p + 1) st (by omega) hs
      refine x_iincN (q := 1) (ls' := [_, _, _, _, _]) rfl rfl rfl rfl ?_
      refine x_goto rfl ?_
      exact ih (p + 1) V2 _ _ _ (by omega) a1 a2 a3 hok hP1
  refine x_iconstN (q := 0) rfl ?_
  refine x_istore_n (ls' := [_, _, _, _, _]) rfl rfl rfl ?_
  refine x_iconstN (q := 0) rfl ?_
  refine x_istore_n (ls' := [_, _, _, _, _]) rfl rfl rfl ?_
  exact hlp (K 93) 0 V (r, 0) _ _ (by omega) (fun _ _ _ _ _ _ _ => rfl) hA h4 ⟨hr, Nat.zero_le _⟩ hP
abbrev row0 (K : KT) (dy : Nat) : Nat := rowN (fun p => K (4 * p + dy)) (K 93)
set_option maxRecDepth 20000 in
theorem row0_lt (hW : WF K) (hd4 : dy < 4) : row0 K dy < 4 ^ K 93 := rowN_lt (fun p hp => hW.mark hp hd4)
set_option maxRecDepth 20000 in
theorem s_rounds (hX : RW 3 K V) (hW : WF K) (hL : Laws K 13 (LY ++ ext) V (vr G)) (hd4 : dy < 4) (hP : ∀ V' : VIT, FrCt V V' → RW 3 K V' → (∀ a, ctR K dy 50 1 (row0 K dy) = some a → V' 61 4 = nI a.2) → P (some (.int (agI ((ctR K dy 50 1 (row0 K dy)).map (fun a => a.1))))) (LY ++ ext) V' VL (vr G)) : Ex (d + 6) mi37 0 (entL [.ref 61, .int (nI dy)] 3) [] (LY ++ ext) V VL (vr G) 0 0 P := by
  have h6 := hW.n
  have hlp : ∀ (f rd r : Nat) (V1 : VIT), rd + f = 51 → r < 4 ^ K 93 → FrCt V V1 → PaX K dy ext G V1 → V1 61 4 = nI r → (∀ V' : VIT, FrCt V V' → RW 3 K V' → (∀ a, ctR K dy f rd r = some a → V' 61 4 = nI a.2) → P (some (.int (agI ((ctR K dy f rd r).map (fun a => a.1))))) (LY ++ ext) V' VL (vr G)) → Ex (d + 6) mi37 19 [.ref 61, .int (nI dy), .int (nI rd)] [] (LY ++ ext) V1 VL (vr G) 0 0 P := by
    intro f
    induction f with
    | zero =>
      intro rd r V1 hf hr hF hA h4 hP1
      refine x_iload_n rfl rfl ?_
      refine x_bipushN (q := 50) rfl ?_
      refine x_icmpN_gt rfl (fun c22 => ?_) (fun c22 => ?_)
      rotate_left
      · exact absurd c22 (by first | decide | omega)
      refine x_iconst rfl ?_
      refine x_iret rfl rfl ?_
      exact hP1 V1 hF hA.1 (fun a h => by cases h) | succ f ih =>
      intro rd r V1 hf hr hF hA h4 hP1
      have hok := ctP_ok hW (dy := dy) (K 93) 0 (r, 0) (by omega) ⟨hr, Nat.zero_le _⟩
      have hs2 := hok.2
      by_cases c : (ctP K dy (K 93) 0 (r, 0)).2 = 0
      · have e : ctR K dy (f + 1) rd r = some (rd, (ctP K dy (K 93) 0 (r, 0)).1) := if_pos c
        rw [e] at hP1
        refine x_iload_n rfl rfl ?_
        refine x_bipushN (q := 50) rfl ?_
        refine x_icmpN_gt rfl (fun c22 => ?_) (fun c22 => ?_)
        · exact absurd c22 (by first | decide | omega)
        refine x_aload_n rfl rfl ?_
        refine x_callV (M' := mi38) (As := []) (bc1 := 0) (bs1 := 0) (bc2 := 0) (bs2 := 0) rfl rfl rfl rfl ok38 rfl rfl (by decide) rfl rfl rfl rfl rfl rfl ?_
        refine s_round hW hd4 hA h4 hr (fun V2 b1 b2 b3 => ?_)
        refine x_ifN_ne rfl (fun c29 => ?_) (fun c29 => ?_)
        · exact absurd c29 (by first | decide | omega)
        refine x_iload_n rfl rfl ?_
        refine x_iret rfl rfl ?_
        exact hP1 V2 (fun a k q1 q2 q3 q4 q5 => (b1 a k q1 q2 q3 q4 q5).trans (hF a k q1 q2 q3 q4 q5)) b2.1 (fun a h => by rw [← Option.some.inj h]; exact b3)
      · have e : ctR K dy (f + 1) rd r = ctR K dy f (rd + 1) (ctP K dy (K 93) 0 (r, 0)).1 := if_neg c
        rw [e] at hP1
        refine x_iload_n rfl rfl ?_
        refine x_bipushN (q := 50) rfl ?_
        refine x_icmpN_gt rfl (fun c22 => ?_) (fun c22 => ?_)
        · exact absurd c22 (by first | decide | omega)
        refine x_aload_n rfl rfl ?_
        refine x_callV (M' := mi38) (As := []) (bc1 := 0) (bs1 := 0) (bc2 := 0) (bs2 := 0) rfl rfl rfl rfl ok38 rfl rfl (by decide) rfl rfl rfl rfl rfl rfl ?_
        refine s_round hW hd4 hA h4 hr (fun V2 b1 b2 b3 => ?_)
        refine x_ifN_ne rfl (fun c29 => ?_) (fun c29 => ?_)
        rotate_left
        · exact absurd c29 (by first | decide | omega)
        refine x_iincN (q := 1) (ls' := [_, _, _]) rfl rfl rfl rfl ?_
        refine x_goto rfl ?_
        exact ih (rd + 1) _ V2 (by omega) hok.1 (fun a k q1 q2 q3 q4 q5 => (b1 a k q1 q2 q3 q4 q5).trans (hF a k q1 q2 q3 q4 q5)) b2 b3 hP1
  refine x_aload_n rfl rfl ?_
  refine x_iload_n rfl rfl ?_
  refine x_callV (M' := mi35) (As := [_]) (bc1 := 0) (bs1 := 0) (bc2 := 0) (bs2 := 0) rfl rfl rfl rfl ok35 rfl rfl (by decide) rfl rfl rfl rfl rfl rfl ?_
  refine s_open (dy := dy) hX hW hL (fun V1 hF1 hA1 => ?_)
  refine x_aload_n rfl rfl ?_
  refine x_aload_n rfl rfl ?_
  refine x_getR (u := .ref _) rfl rfl rfl rfl ?_
  refine x_iload_n rfl rfl ?_
  refine x_callV (M' := mi105) (As := [_]) (bc1 := 0) (bs1 := 0) (bc2 := 0) (bs2 := 0) rfl rfl rfl rfl ok105 rfl rfl (by decide) rfl rfl rfl rfl rfl rfl ?_
  refine s_rowOf (f := fun p => K (4 * p + dy)) hA1.1.n h6 hd4 (fun p hp => ⟨hA1.1.mark hp hd4, hW.mark hp hd4⟩) ?_
  refine x_putI rfl rfl rfl rfl ?_
  refine x_iconstN (q := 1) rfl ?_
  refine x_istore_n (ls' := [_, _, _]) rfl rfl rfl ?_
  exact hlp 50 1 (row0 K dy) _ (by omega) (row0_lt hW hd4) (fun a k q1 q2 q3 q4 q5 => by rw [up_ne q4]; exact hF1 a k q5 (by omega)) (hA1.set hW (fun a k q => up_ne2 (by omega))) up_at hP
set_option maxRecDepth 20000 in
theorem x_chatter_bad {c w : Int32} (hX : RW 3 K V) (h : hasF 4 c = 0 ∨ (¬ w = -1 ∧ hasF (nI (K 93)) w = 0)) (hP : P (some (.int (-1))) (LY ++ ext) V VL (vr G)) : Ex (d + 7) mi137 0 (entL [.ref 0, .int c, .int w] 4) [] (LY ++ ext) V VL (vr G) 0 0 P := by
  refine x_iload_n rfl rfl ?_
  refine x_callS (M' := mi150) (As := [_]) (bc1 := 0) (bs1 := 0) (bc2 := 0) (bs2 := 0) rfl rfl rfl rfl ok150 rfl rfl rfl rfl rfl rfl ?_
  refine s_isDay ?_
  refine x_if_eq rfl (fun c4 => ?_) (fun c4 => ?_)
  · refine x_iconst rfl ?_
    refine x_iret rfl rfl ?_
    exact hP
  · refine x_iload_n rfl rfl ?_
    refine x_iconst rfl ?_
    refine x_icmp_eq rfl (fun c9 => ?_) (fun c9 => ?_)
    · exact absurd h (fun z => z.elim c4 (fun z => z.1 c9))
    · refine x_aload_n rfl rfl ?_
      refine x_getR (u := .ref _) rfl rfl rfl rfl ?_
      refine x_iload_n rfl rfl ?_
      refine x_callV (M' := mi95) (As := [_]) (bc1 := 0) (bs1 := 0) (bc2 := 0) (bs2 := 0) rfl rfl rfl rfl ok95 rfl rfl (by decide) rfl rfl rfl rfl rfl rfl ?_
      refine s_hasPersonK hX ?_
      refine x_if_ne rfl (fun c20 => ?_) (fun c20 => ?_)
      · exact absurd h (fun z => z.elim c4 (fun z => c20 z.2))
      · refine x_iconst rfl ?_
        refine x_iret rfl rfl ?_
        exact hP
set_option maxRecDepth 20000 in
theorem m_chatter_bad {c w : Int32} (hM : RK (V 76) K) (hW : WF K) (h : hasF 4 c = 0 ∨ (¬ w = -1 ∧ hasF (nI (K 93)) w = 0)) (hP : P (some (.int (-1))) (LY ++ ext) V VL (vr G)) : Ex (d + 46) mi264 0 (entL [.ref 74, .int c, .int w] 9) [] (LY ++ ext) V VL (vr G) 0 0 P := by
  refine x_iload_n rfl rfl ?_
  refine x_callS (M' := mi166) (As := [_]) (bc1 := 0) (bs1 := 0) (bc2 := 0) (bs2 := 0) rfl rfl rfl rfl ok166 rfl rfl rfl rfl rfl rfl ?_
  refine m_isDayK ?_
  refine x_if_eq rfl (fun c4 => ?_) (fun c4 => ?_)
  · refine x_iconst rfl ?_
    refine x_iret rfl rfl ?_
    exact hP
  · refine x_iload_n rfl rfl ?_
    refine x_iconst rfl ?_
    refine x_icmp_eq rfl (fun c9 => ?_) (fun c9 => ?_)
    · exact absurd h (fun z => z.elim c4 (fun z => z.1 c9))
    · refine x_aload_n rfl rfl ?_
      refine x_iload_n rfl rfl ?_
      refine x_callV (M' := mi164) (As := [_]) (bc1 := 0) (bs1 := 0) (bc2 := 0) (bs2 := 0) rfl rfl rfl rfl ok164 rfl rfl (by decide) rfl rfl rfl rfl rfl rfl ?_
      refine m_isPersonK hM hW ?_
      refine x_if_ne rfl (fun c17 => ?_) (fun c17 => ?_)
      · exact absurd h (fun z => z.elim c4 (fun z => c17 z.2))
      · refine x_iconst rfl ?_
        refine x_iret rfl rfl ?_
        exact hP
/-- what chatter answers: w tells of whom -/
def ctA (K : KT) (dy : Nat) (w : Option Nat) : Int32 := agI ((ctR K dy 50 1 (row0 K dy)).map (fun a => w.elim a.1 (fun p => dg (K 93) a.2 p)))
set_option maxRecDepth 20000 in
theorem x_chatter1 (hX : RW 3 K V) (hW : WF K) (hL : Laws K 13 (LY ++ ext) V (vr G)) (hd4 : dy < 4) (hP : ∀ V' : VIT, FrCt V V' → P (some (.int (ctA K dy none))) (LY ++ ext) V' VL (vr G)) : Ex (d + 7) mi137 0 (entL [.ref 0, .int (nI dy), .int (-1)] 4) [] (LY ++ ext) V VL (vr G) 0 0 P := by
  refine x_iload_n rfl rfl ?_
  refine x_callS (M' := mi150) (As := [_]) (bc1 := 0) (bs1 := 0) (bc2 := 0) (bs2 := 0) rfl rfl rfl rfl ok150 rfl rfl rfl rfl rfl rfl ?_
  refine s_isDay_in hd4 ?_
  refine x_if_eq rfl (fun c4 => ?_) (fun c4 => ?_)
  · exact absurd c4 (by first | decide | omega)
  refine x_iload_n rfl rfl ?_
  refine x_iconst rfl ?_
  refine x_icmp_eq rfl (fun c9 => ?_) (fun c9 => ?_)
  rotate_left
  · exact absurd rfl c9
  refine x_aload_n rfl rfl ?_
  refine x_getR (u := .ref _) rfl rfl rfl rfl ?_
  refine x_iload_n rfl rfl ?_
  refine x_callV (M' := mi37) (As := [_]) (bc1 := 0) (bs1 := 0) (bc2 := 0) (bs2 := 0) rfl rfl rfl rfl ok37 rfl rfl (by decide) rfl rfl rfl rfl rfl rfl ?_
  refine s_rounds hX hW hL hd4 (fun V1 hF hX1 h4 => ?_)
  refine x_istore_n (ls' := [_, _, _, _]) rfl rfl rfl ?_
  refine x_iload_n rfl rfl ?_
  refine x_iconst rfl ?_
  refine x_icmp_eq rfl (fun c36 => ?_) (fun c36 => ?_)
  · exact x_iload_n rfl rfl (x_goto rfl (x_iret rfl rfl (hP V1 hF)))
  · refine x_iload_n rfl rfl ?_
    refine x_iconst rfl ?_
    refine x_icmp_ne rfl (fun c41 => ?_) (fun c41 => ?_)
    · exact absurd rfl c41
    refine x_iload_n rfl rfl ?_
    refine x_goto rfl ?_
    refine x_iret rfl rfl ?_
    exact hP V1 hF
set_option maxRecDepth 20000 in
theorem x_chatter2 {p : Nat} (hX : RW 3 K V) (hW : WF K) (hL : Laws K 13 (LY ++ ext) V (vr G)) (hd4 : dy < 4) (hp : p < K 93) (hP : ∀ V' : VIT, FrCt V V' → P (some (.int (ctA K dy (some p)))) (LY ++ ext) V' VL (vr G)) : Ex (d + 7) mi137 0 (entL [.ref 0, .int (nI dy), .int (nI p)] 4) [] (LY ++ ext) V VL (vr G) 0 0 P := by
  have h6 := hW.n
  have hne : ¬ nI p = -1 := nI_m1 (by omega)
  unfold ctA at hP
  refine x_iload_n rfl rfl ?_
  refine x_callS (M' := mi150) (As := [_]) (bc1 := 0) (bs1 := 0) (bc2 := 0) (bs2 := 0) rfl rfl rfl rfl ok150 rfl rfl rfl rfl rfl rfl ?_
  refine s_isDay_in hd4 ?_
  refine x_if_eq rfl (fun c4 => ?_) (fun c4 => ?_)
  · exact absurd c4 (by first | decide | omega)
  refine x_iload_n rfl rfl ?_
  refine x_iconst rfl ?_
  refine x_icmp_eq rfl (fun c9 => ?_) (fun c9 => ?_)
  · exact absurd c9 hne
  refine x_aload_n rfl rfl ?_
  refine x_getR (u := .ref _) rfl rfl rfl rfl ?_
  refine x_iload_n rfl rfl ?_
  refine x_callV (M' := mi95) (As := [_]) (bc1 := 0) (bs1 := 0) (bc2 := 0) (bs2 := 0) rfl rfl rfl rfl ok95 rfl rfl (by decide) rfl rfl rfl rfl rfl rfl ?_
  refine s_hasPerson_in hX.n hp h6 ?_
  refine x_if_ne rfl (fun c20 => ?_) (fun c20 => ?_)
  rotate_left
  · exact absurd c20 (by first | decide | omega)
  refine x_aload_n rfl rfl ?_
  refine x_getR (u := .ref _) rfl rfl rfl rfl ?_
  refine x_iload_n rfl rfl ?_
  refine x_callV (M' := mi37) (As := [_]) (bc1 := 0) (bs1 := 0) (bc2 := 0) (bs2 := 0) rfl rfl rfl rfl ok37 rfl rfl (by decide) rfl rfl rfl rfl rfl rfl ?_
  refine s_rounds hX hW hL hd4 (fun V1 hF hX1 h4 => ?_)
  skip
  cases hr : ctR K dy 50 1 (row0 K dy) with
  | none =>
    rw [hr] at hP
    refine x_istore_n (ls' := [_, _, _, _]) rfl rfl rfl ?_
    refine x_iload_n rfl rfl ?_
    refine x_iconst rfl ?_
    refine x_icmp_eq rfl (fun c36 => ?_) (fun c36 => ?_)
    rotate_left
    · exact absurd rfl c36
    refine x_iload_n rfl rfl ?_
    refine x_goto rfl ?_
    refine x_iret rfl rfl ?_
    exact hP V1 hF | some a =>
    rw [hr] at hP
    obtain ⟨b1, b2⟩ := ctR_ok hW 50 1 _ a (row0_lt hW hd4) hr
    have hl := Nat.lt_of_lt_of_le b1 (pow4_6 h6)
    have h4' := h4 a hr
    refine x_istore_n (ls' := [_, _, _, _]) rfl rfl rfl ?_
    refine x_iload_n rfl rfl ?_
    refine x_iconst rfl ?_
    refine x_icmp_eq rfl (fun c36 => ?_) (fun c36 => ?_)
    · exact absurd c36 (nI_m1 (show a.1 < 2147483648 by omega))
    refine x_iload_n rfl rfl ?_
    refine x_iconst rfl ?_
    refine x_icmp_ne rfl (fun c41 => ?_) (fun c41 => ?_)
    rotate_left
    · exact absurd c41 hne
    refine x_aload_n rfl rfl ?_
    refine x_getR (u := .ref _) rfl rfl rfl rfl ?_
    refine x_aload_n rfl rfl ?_
    refine x_getR (u := .ref _) rfl rfl rfl rfl ?_
    refine x_getE (y := 4) rfl rfl rfl h4' ?_
    refine x_iload_n rfl rfl ?_
    refine x_callV (M' := mi104) (As := [_, _]) (bc1 := 0) (bs1 := 0) (bc2 := 0) (bs2 := 0) rfl rfl rfl rfl ok104 rfl rfl (by decide) rfl rfl rfl rfl rfl rfl ?_
    refine s_markInRow_in hX1.n hp h6 hl ?_
    refine x_iret rfl rfl ?_
    exact hP V1 hF
end Chat
