/-! ===== ends ===== -/
set_option maxRecDepth 20000 in
theorem agr_le {mk : Nat → Nat} {on : Nat → Bool} : ∀ {i c : Nat}, (∀ p, p < i → mk p < 4) → agr 4 mk on i = some c → c ≤ 4
  | 0, c, _, h => by
    have : some 4 = some c := h
    have := Option.some.inj this
    omega
  | i + 1, c, hm, h => by
    have hi := hm i (by omega)
    unfold agr at h
    cases ha : agr 4 mk on i with
    | none => rw [ha] at h; cases h
    | some c' =>
      have ih := agr_le (fun p hp => hm p (by omega)) ha
      rw [ha] at h
      simp only [] at h
      repeat' split at h
      all_goals first
        | cases h; done
        | (have := Option.some.inj h; omega)
set_option maxRecDepth 20000 in
theorem agR_le {K : KT} {r on c : Nat} (h : agR K r on = some c) : c ≤ 4 := agr_le (fun p _ => dg_lt) h
def edB (o : Option Nat) : Nat := o.elim 0 (fun c => if c = 4 then 0 else 1 * 2 ^ c)
def edN (K : KT) (on : Nat) : List Nat → Nat → Nat
  | [], m => m
  | x :: L, m => edN K on L (m ||| edB (agR K x on))
section Ends
variable {d : Nat} {V0 V : VIT} {VL : VLT} {G : VRT} {P : Post} {ext : HL} {K : KT} {dy who on s : Nat}
set_option maxRecDepth 20000 in
theorem drop_cons {T R : List Nat} {i x : Nat} (h : T.drop i = x :: R) : T[i]? = some x ∧ T.drop (i + 1) = R := by
  refine ⟨?_, ?_⟩
  · have : (T.drop i)[0]? = some x := by rw [h]; rfl
    rw [List.getElem?_drop] at this
    simpa using this
  · rw [← List.drop_drop, h]; rfl
set_option maxRecDepth 20000 in
theorem xe_loop {rv : Int32} {st : BSt} (hX : RW 3 K V) (hW : WF K) (hO : BOK K dy st) (hB : BX s st V) (hon : V 63 8 = nI on) (ho : on < 64) : ∀ (R : List Nat) (i m : Nat) (z4 : Value), st.1.drop i = R → i + R.length = st.1.length → P (some (.int (nI (edN K on R m)))) (LY ++ ext) V VL (vr G) → Ex (d + 6) mi72 22 [.ref 63, .int rv, .int (nI m), .int (nI i), z4] [] (LY ++ ext) V VL (vr G) 0 0 P := by
  have h6 := hW.n
  have hlen := hO.len hW
  intro R
  induction R with
  | nil =>
    intro i m z4 hd hi hP
    have hi' : i = st.1.length := by simpa using hi
    refine x_iload_n rfl rfl ?_
    refine x_aload_n rfl rfl ?_
    refine x_getE (y := 5) rfl rfl rfl hB.1 ?_
    refine x_icmpN_ge rfl (fun c27 => ?_) (fun c27 => ?_)
    rotate_left
    · exact absurd c27 (by first | decide | omega)
    refine x_iload_n rfl rfl ?_
    refine x_iret rfl rfl ?_
    exact hP | cons x R ih =>
    intro i m z4 hd hi hP
    simp only [List.length_cons] at hi
    obtain ⟨hx, hdr⟩ := drop_cons hd
    have hx4 : x < 4096 := Nat.lt_of_lt_of_le (hO.2.1 x (List.mem_of_getElem? hx)) (pow4_6 h6)
    have hP2 : P (some (.int (nI (edN K on R (m ||| edB (agR K x on)))))) (LY ++ ext) V VL (vr G) := hP
    have hk : ∀ (m' : Nat) (z4 : Value), m' = m ||| edB (agR K x on) → Ex (d + 6) mi72 69 [.ref 63, .int rv, .int (nI m'), .int (nI i), z4] [] (LY ++ ext) V VL (vr G) 0 0 P := by
      intro m' z4 e
      rw [e]
      refine x_iincN (q := 1) (ls' := [_, _, _, _, _]) rfl rfl rfl rfl ?_
      refine x_goto rfl ?_
      exact ih (i + 1) _ _ hdr (by omega) hP2
    cases ha : agR K x on with
    | none =>
      refine x_iload_n rfl rfl ?_
      refine x_aload_n rfl rfl ?_
      refine x_getE (y := 5) rfl rfl rfl hB.1 ?_
      refine x_icmpN_ge rfl (fun c27 => ?_) (fun c27 => ?_)
      · exact absurd c27 (by first | decide | omega)
      refine x_aload_n rfl rfl ?_
      refine x_getR (u := .ref _) rfl rfl rfl rfl ?_
      refine x_aload_n rfl rfl ?_
      refine x_getR (u := .ref _) rfl rfl rfl rfl ?_
      refine x_iload_n rfl rfl ?_
      refine x_ialE (j := i) rfl rfl (rfl) (by omega) (hB.2.2.1 i x hx) ?_
      refine x_aload_n rfl rfl ?_
      refine x_getE (y := 8) rfl rfl rfl hon ?_
      refine x_callV (M' := mi106) (As := [_, _]) (bc1 := 0) (bs1 := 0) (bc2 := 0) (bs2 := 0) rfl rfl rfl rfl ok106 rfl rfl (by decide) rfl rfl rfl rfl rfl rfl ?_
      refine s_accordInRow hX.n h6 hx4 (by omega) ?_
      rw [agR_x, ha]
      refine x_istore (ls' := [_, _, _, _, _]) rfl rfl rfl ?_
      refine x_iload rfl rfl ?_
      refine x_iconst rfl ?_
      refine x_icmp_eq rfl (fun c52 => ?_) (fun c52 => ?_)
      rotate_left
      · exact absurd rfl c52
      exact hk m _ (by rw [ha]; exact (Nat.or_zero m).symm) | some c =>
      have hc := agR_le ha
      by_cases c4 : c = 4
      · subst c4
        refine x_iload_n rfl rfl ?_
        refine x_aload_n rfl rfl ?_
        refine x_getE (y := 5) rfl rfl rfl hB.1 ?_
        refine x_icmpN_ge rfl (fun c27 => ?_) (fun c27 => ?_)
        · exact absurd c27 (by first | decide | omega)
        refine x_aload_n rfl rfl ?_
        refine x_getR (u := .ref _) rfl rfl rfl rfl ?_
        refine x_aload_n rfl rfl ?_
        refine x_getR (u := .ref _) rfl rfl rfl rfl ?_
        refine x_iload_n rfl rfl ?_
        refine x_ialE (j := i) rfl rfl (rfl) (by omega) (hB.2.2.1 i x hx) ?_
        refine x_aload_n rfl rfl ?_
        refine x_getE (y := 8) rfl rfl rfl hon ?_
        refine x_callV (M' := mi106) (As := [_, _]) (bc1 := 0) (bs1 := 0) (bc2 := 0) (bs2 := 0) rfl rfl rfl rfl ok106 rfl rfl (by decide) rfl rfl rfl rfl rfl rfl ?_
        refine s_accordInRow hX.n h6 hx4 (by omega) ?_
        rw [agR_x, ha]
        show Ex (d + 6) mi72 47 [.ref 63, .int rv, .int (nI m), .int (nI i), z4] [.int (nI 100)] (LY ++ ext) V VL (vr G) 0 0 P
        refine x_istore (ls' := [_, _, _, _, _]) rfl rfl rfl ?_
        refine x_iload rfl rfl ?_
        refine x_iconst rfl ?_
        refine x_icmp_eq rfl (fun c52 => ?_) (fun c52 => ?_)
        · exact absurd c52 (nI_m1 (by omega))
        refine x_iload rfl rfl ?_
        refine x_bipushN (q := 100) rfl ?_
        refine x_icmpN_eq rfl (fun c59 => ?_) (fun c59 => ?_)
        rotate_left
        · exact absurd c59 (by first | decide | omega)
        exact hk m _ (by rw [ha]; exact (Nat.or_zero m).symm)
      · have ez : z100 c = c := if_neg c4
        have e2 : 2 ^ c ≤ 8 := Nat.le_trans (Nat.pow_le_pow_right (by omega) (show c ≤ 3 by omega)) (by decide)
        refine x_iload_n rfl rfl ?_
        refine x_aload_n rfl rfl ?_
        refine x_getE (y := 5) rfl rfl rfl hB.1 ?_
        refine x_icmpN_ge rfl (fun c27 => ?_) (fun c27 => ?_)
        · exact absurd c27 (by first | decide | omega)
        refine x_aload_n rfl rfl ?_
        refine x_getR (u := .ref _) rfl rfl rfl rfl ?_
        refine x_aload_n rfl rfl ?_
        refine x_getR (u := .ref _) rfl rfl rfl rfl ?_
        refine x_iload_n rfl rfl ?_
        refine x_ialE (j := i) rfl rfl (rfl) (by omega) (hB.2.2.1 i x hx) ?_
        refine x_aload_n rfl rfl ?_
        refine x_getE (y := 8) rfl rfl rfl hon ?_
        refine x_callV (M' := mi106) (As := [_, _]) (bc1 := 0) (bs1 := 0) (bc2 := 0) (bs2 := 0) rfl rfl rfl rfl ok106 rfl rfl (by decide) rfl rfl rfl rfl rfl rfl ?_
        refine s_accordInRow hX.n h6 hx4 (by omega) ?_
        rw [agR_x, ha, Option.map_some, ez]
        show Ex (d + 6) mi72 47 [.ref 63, .int rv, .int (nI m), .int (nI i), z4] [.int (nI c)] (LY ++ ext) V VL (vr G) 0 0 P
        refine x_istore (ls' := [_, _, _, _, _]) rfl rfl rfl ?_
        refine x_iload rfl rfl ?_
        refine x_iconst rfl ?_
        refine x_icmp_eq rfl (fun c52 => ?_) (fun c52 => ?_)
        · exact absurd c52 (nI_m1 (by omega))
        refine x_iload rfl rfl ?_
        refine x_bipushN (q := 100) rfl ?_
        refine x_icmpN_eq rfl (fun c59 => ?_) (fun c59 => ?_)
        · exact absurd c59 (by first | decide | omega)
        refine x_iload_n rfl rfl ?_
        refine x_iconstN (q := 1) rfl ?_
        refine x_iload rfl rfl ?_
        refine x_ishlN rfl ?_
        refine x_iorN rfl ?_
        refine x_istore_n (ls' := [_, _, _, _, _]) rfl rfl rfl ?_
        exact hk _ _ (by rw [ha]; show _ = m ||| (if c = 4 then 0 else 1 * 2 ^ c); rw [if_neg c4])
set_option maxRecDepth 20000 in
theorem b1f : b1 false = nI 0 := rfl
set_option maxRecDepth 20000 in
theorem b1t : b1 true = nI 1 := rfl
abbrev endA (K : KT) (r : Nat) : Nat := edN K (onK K r) (BfA K (rdK K r) (lmK K)).1 0
/-- what a search may touch beside its own rows -/
def FrD (V0 V : VIT) : Prop := ∀ a k, a ≠ 2 → a ≠ 43 → a ≠ 44 → a ≠ 61 → a ≠ 62 → a ≠ 63 → a ≠ 64 → a ≠ 65 → a ≠ 66 → V a k = V0 a k
set_option maxRecDepth 20000 in
theorem s_endMarks {r : Nat} (hX : RW 3 K V) (hW : WF K) (hL : Laws K 13 (LY ++ ext) V (vr G)) (hr : r < K 94) (hs : s < 900000) (hS : Stm s V) (hP : ∀ V' : VIT, FrD V V' → Stm (s + 1) V' → P (some (.int (nI (endA K r)))) (LY ++ ext) V' VL (vr G)) : Ex (d + 6) mi72 0 (entL [.ref 63, .int (nI r)] 5) [] (LY ++ ext) V VL (vr G) 0 0 P := by
  have h6 := hW.n
  have hd4 := (hW.roll hr).2.1
  have ho := onK_lt hW hr
  refine x_aload_n rfl rfl ?_
  refine x_iload_n rfl rfl ?_
  refine x_callV (M' := mi74) (As := [_]) (bc1 := 0) (bs1 := 0) (bc2 := 0) (bs2 := 0) rfl rfl rfl rfl ok74 rfl rfl (by decide) rfl rfl rfl rfl rfl rfl ?_
  refine s_openS hX hW hL hr (fun V1 hF1 hA1 h7 h8 => ?_)
  have hX1 := hA1.1
  have hS1 : Stm s V1 := ⟨(hF1 63 6 (by omega) (by omega) (by omega)).trans hS.1, fun k hk => by rw [show V1 65 k = V 65 k from hF1 65 k (by omega) (by omega) (by omega)]; exact hS.2 k hk⟩
  refine x_aload_n rfl rfl ?_
  refine x_aload_n rfl rfl ?_
  refine x_getR (u := .ref _) rfl rfl rfl rfl ?_
  refine x_getE (y := 1) rfl rfl rfl hX1.lm ?_
  refine x_iconstN (q := 0) rfl ?_
  refine x_callV (M' := mi75) (As := [_, _]) (bc1 := 0) (bs1 := 0) (bc2 := 0) (bs2 := 0) rfl rfl rfl rfl ok75 rfl rfl (by decide) rfl rfl rfl rfl rfl rfl ?_
  refine s_walk (wb := false) (on := onK K r) hA1 hW hd4 hW.lm ho hs hS1 h7 h8 (fun V2 hF2 hA2 hB2 => ?_)
  skip
  rw [bfX_f] at hB2
  have h8' : V2 63 8 = nI (onK K r) := (hF2 63 8 (by omega) (by omega) (by omega) (by omega) (by omega) (by omega) (by omega) (by omega)).trans h8
  refine x_pop rfl rfl ?_
  refine x_iconstN (q := 0) rfl ?_
  refine x_istore_n (ls' := [_, _, _, _, _]) rfl rfl rfl ?_
  refine x_iconstN (q := 0) rfl ?_
  refine x_istore_n (ls' := [_, _, _, _, _]) rfl rfl rfl ?_
  exact xe_loop hA2.1 hW (BfA_ok hW hd4) hB2 h8' ho (BfA K (rdK K r) (lmK K)).1 0 0 _ rfl (Nat.zero_add _) (hP V2 (fun a k q1 q2 q3 q4 q5 q6 q7 q8 q9 => (hF2 a k q1 q2 q3 q5 (by omega) q7 q8 q9).trans (hF1 a k q5 (by omega) (by omega))) hB2.stm)
set_option maxRecDepth 20000 in
theorem x_ends_bad {a : Int32} (hX : RW 3 K V) (h : hasF (nI (K 94)) a = 0) (hP : P (some (.int (-1))) (LY ++ ext) V VL (vr G)) : Ex (d + 7) mi130 0 (entL [.ref 0, .int a] 2) [] (LY ++ ext) V VL (vr G) 0 0 P := by
  refine x_aload_n rfl rfl ?_
  refine x_getR (u := .ref _) rfl rfl rfl rfl ?_
  refine x_iload_n rfl rfl ?_
  refine x_callV (M' := mi96) (As := [_]) (bc1 := 0) (bs1 := 0) (bc2 := 0) (bs2 := 0) rfl rfl rfl rfl ok96 rfl rfl (by decide) rfl rfl rfl rfl rfl rfl ?_
  refine s_hasRollK hX ?_
  rw [h]
  refine x_if_eq rfl (fun c8 => ?_) (fun c8 => ?_)
  rotate_left
  · exact absurd rfl c8
  refine x_iconst rfl ?_
  refine x_iret rfl rfl ?_
  exact hP
set_option maxRecDepth 20000 in
theorem x_ends {r : Nat} (hX : RW 3 K V) (hW : WF K) (hL : Laws K 13 (LY ++ ext) V (vr G)) (hr : r < K 94) (hs : s < 900000) (hS : Stm s V) (hP : ∀ V' : VIT, FrD V V' → Stm (s + 1) V' → P (some (.int (nI (endA K r)))) (LY ++ ext) V' VL (vr G)) : Ex (d + 7) mi130 0 (entL [.ref 0, .int (nI r)] 2) [] (LY ++ ext) V VL (vr G) 0 0 P := by
  have h8 : K 94 ≤ 8 := hW.2.1
  refine x_aload_n rfl rfl ?_
  refine x_getR (u := .ref _) rfl rfl rfl rfl ?_
  refine x_iload_n rfl rfl ?_
  refine x_callV (M' := mi96) (As := [_]) (bc1 := 0) (bs1 := 0) (bc2 := 0) (bs2 := 0) rfl rfl rfl rfl ok96 rfl rfl (by decide) rfl rfl rfl rfl rfl rfl ?_
  refine s_hasRollK hX ?_
  rw [hasF_in hr (by omega)]
  refine x_if_eq rfl (fun c8 => ?_) (fun c8 => ?_)
  · exact absurd c8 (by first | decide | omega)
  refine x_aload_n rfl rfl ?_
  refine x_getR (u := .ref _) rfl rfl rfl rfl ?_
  refine x_iload_n rfl rfl ?_
  refine x_callV (M' := mi72) (As := [_]) (bc1 := 0) (bs1 := 0) (bc2 := 0) (bs2 := 0) rfl rfl rfl rfl ok72 rfl rfl (by decide) rfl rfl rfl rfl rfl rfl ?_
  refine s_endMarks hX hW hL hr hs hS (fun V1 hF hS1 => ?_)
  refine x_goto rfl ?_
  refine x_iret rfl rfl ?_
  exact hP V1 hF hS1
/-! the model -/
set_option maxRecDepth 20000 in
theorem me_loop {r : Nat} (hM : RK (V 76) K) (hW : WF K) (hr : r < K 94) {st : BSt} (hO : BOK K dy st) (hB : BMd K dy st V) : ∀ (R : List Nat) (i m : Nat) (z4 : Value), st.1.drop i = R → i + R.length = st.1.length → P (some (.int (nI (edN K (onK K r) R m)))) (LY ++ ext) V VL (vr G) → Ex (d + 47) mi252 20 [.ref 74, .int (nI r), .int (nI m), .int (nI i), z4] [] (LY ++ ext) V VL (vr G) 0 0 P := by
  have h6 := hW.n
  have h8 : K 94 ≤ 8 := hW.2.1
  have hlen := hO.len hW
  have ho := and_lt2 hW hr
  have ho2 : onK K r < 2147483648 := by have := onK_lt hW hr; omega
  intro R
  induction R with
  | nil =>
    intro i m z4 hd hi hP
    have hi' : i = st.1.length := by simpa using hi
    refine x_iload_n rfl rfl ?_
    refine x_aload_n rfl rfl ?_
    refine x_getE (y := 37) rfl rfl rfl hB.1 ?_
    refine x_icmpN_ge rfl (fun c25 => ?_) (fun c25 => ?_)
    rotate_left
    · exact absurd c25 (by first | decide | omega)
    refine x_iload_n rfl rfl ?_
    refine x_iret rfl rfl ?_
    exact hP | cons x R ih =>
    intro i m z4 hd hi hP
    simp only [List.length_cons] at hi
    obtain ⟨hx, hdr⟩ := drop_cons hd
    have hx6 := r6_lt h6 (hO.2.1 x (List.mem_of_getElem? hx))
    have hP2 : P (some (.int (nI (edN K (onK K r) R (m ||| edB (agR K x (onK K r))))))) (LY ++ ext) V VL (vr G) := hP
    have hk : ∀ (b : Nat) (z4 : Value), b = edB (agR K x (onK K r)) → Ex (d + 47) mi252 65 [.ref 74, .int (nI r), .int (nI m), .int (nI i), z4] [.int (nI b), .int (nI m)] (LY ++ ext) V VL (vr G) 0 0 P := by
      intro b z4 e
      subst e
      refine x_iorN rfl ?_
      refine x_istore_n (ls' := [_, _, _, _, _]) rfl rfl rfl ?_
      refine x_iincN (q := 1) (ls' := [_, _, _, _, _]) rfl rfl rfl rfl ?_
      refine x_goto rfl ?_
      exact ih (i + 1) _ _ hdr (by omega) hP2
    refine x_iload_n rfl rfl ?_
    refine x_aload_n rfl rfl ?_
    refine x_getE (y := 37) rfl rfl rfl hB.1 ?_
    refine x_icmpN_ge rfl (fun c25 => ?_) (fun c25 => ?_)
    · exact absurd c25 (by first | decide | omega)
    refine x_aload_n rfl rfl ?_
    refine x_getR (u := .ref _) rfl rfl rfl rfl ?_
    refine x_iload_n rfl rfl ?_
    refine x_ialE (j := i) rfl rfl (rfl) (by omega) (hB.2.1 i x hx) ?_
    refine x_aload_n rfl rfl ?_
    refine x_iload_n rfl rfl ?_
    refine x_callV (M' := mi176) (As := [_]) (bc1 := 0) (bs1 := 0) (bc2 := 0) (bs2 := 0) rfl rfl rfl rfl ok176 rfl rfl (by decide) rfl rfl rfl rfl rfl rfl ?_
    refine m_livingOn hM hW (by omega) ?_
    refine x_callS (M' := mi177) (As := [_, _]) (bc1 := 0) (bs1 := 0) (bc2 := 0) (bs2 := 0) rfl rfl rfl rfl ok177 rfl rfl rfl rfl rfl rfl ?_
    refine m_oneMark hx6 ho2 ?_
    rw [agR_m hW ho]
    skip
    cases ha : agR K x (onK K r) with
    | none =>
      refine x_istore (ls' := [_, _, _, _, _]) rfl rfl rfl ?_
      refine x_iload_n rfl rfl ?_
      refine x_iload rfl rfl ?_
      refine x_iconst rfl ?_
      refine x_icmp_eq rfl (fun c48 => ?_) (fun c48 => ?_)
      rotate_left
      · exact absurd rfl c48
      refine x_iconstN (q := 0) rfl ?_
      refine x_goto rfl ?_
      exact hk 0 _ (by rw [ha]; rfl) | some c =>
      have hc := agR_le ha
      show Ex (d + 47) mi252 42 [.ref 74, .int (nI r), .int (nI m), .int (nI i), z4] [.int (nI c)] (LY ++ ext) V VL (vr G) 0 0 P
      by_cases c4 : c = 4
      · refine x_istore (ls' := [_, _, _, _, _]) rfl rfl rfl ?_
        refine x_iload_n rfl rfl ?_
        refine x_iload rfl rfl ?_
        refine x_iconst rfl ?_
        refine x_icmp_eq rfl (fun c48 => ?_) (fun c48 => ?_)
        · exact absurd c48 (nI_m1 (by omega))
        refine x_iload rfl rfl ?_
        refine x_iconstN (q := 4) rfl ?_
        refine x_icmpN_ne rfl (fun c54 => ?_) (fun c54 => ?_)
        · exact absurd c54 (by first | decide | omega)
        refine x_iconstN (q := 0) rfl ?_
        refine x_goto rfl ?_
        exact hk 0 _ (by rw [ha]; show 0 = if c = 4 then 0 else 1 * 2 ^ c; rw [if_pos c4])
      · have e2 : 2 ^ c ≤ 8 := Nat.le_trans (Nat.pow_le_pow_right (by omega) (show c ≤ 3 by omega)) (by decide)
        refine x_istore (ls' := [_, _, _, _, _]) rfl rfl rfl ?_
        refine x_iload_n rfl rfl ?_
        refine x_iload rfl rfl ?_
        refine x_iconst rfl ?_
        refine x_icmp_eq rfl (fun c48 => ?_) (fun c48 => ?_)
        · exact absurd c48 (nI_m1 (by omega))
        refine x_iload rfl rfl ?_
        refine x_iconstN (q := 4) rfl ?_
        refine x_icmpN_ne rfl (fun c54 => ?_) (fun c54 => ?_)
        rotate_left
        · exact absurd c54 (by first | decide | omega)
        refine x_iconstN (q := 1) rfl ?_
        refine x_iload rfl rfl ?_
        refine x_ishlN rfl ?_
        exact hk _ _ (by rw [ha]; show _ = if c = 4 then 0 else 1 * 2 ^ c; rw [if_neg c4])
def FrE2 (V0 V : VIT) : Prop := ∀ a k, a ≠ 86 → a ≠ 87 → a ≠ 90 → a ≠ 91 → a ≠ 92 → a ≠ 93 → a ≠ 94 → ¬ (a = 74 ∧ (k = 22 ∨ k = 23 ∨ k = 24 ∨ k = 25 ∨ k = 37)) → V a k = V0 a k
set_option maxRecDepth 20000 in
theorem FrE2.kp {V V1 : VIT} (h : FrE2 V V1) (a k : Nat) (hk : kpP a k) : V1 a k = V a k := by
  unfold kpP at hk
  exact h a k (by omega) (by omega) (by omega) (by omega) (by omega) (by omega) (by omega) (by omega)
set_option maxRecDepth 20000 in
theorem m_spreadsAll {r : Nat} (hM : RK (V 76) K) (hW : WF K) (hL : LwK K) (hr : r < K 94) (hP : ∀ V' : VIT, FrE2 V V' → BMd K (rdK K r) (BfA K (rdK K r) (lmK K)) V' → P (some (.int (agI (sh6 K (fA K (onK K r) (BfA K (rdK K r) (lmK K)).1))))) (LY ++ ext) V' VL (vr G)) : Ex (d + 46) mi250 0 (entL [.ref 74, .int (nI r)] 2) [] (LY ++ ext) V VL (vr G) 0 0 P := by
  have h6 := hW.n
  have h8 : K 94 ≤ 8 := hW.2.1
  have hd4 := (hW.roll hr).2.1
  refine x_aload_n rfl rfl ?_
  refine x_aload_n rfl rfl ?_
  refine x_getR (u := .ref _) rfl rfl rfl rfl ?_
  refine x_bipushN (q := 51) rfl ?_
  refine x_iload_n rfl rfl ?_
  refine x_iaddN rfl ?_
  refine x_ialE (j := 51 + r) rfl rfl (rfl) (by omega) (hM.at (51 + r)) ?_
  refine x_callV (M' := mi233) (As := [_]) (bc1 := 0) (bs1 := 0) (bc2 := 0) (bs2 := 0) rfl rfl rfl rfl ok233 rfl rfl (by decide) rfl rfl rfl rfl rfl rfl ?_
  refine m_laysTalks hM hW hL hd4 (fun V1 hF hO => ?_)
  have hM1 : RK (V1 76) K := by rw [hF.row 76 (by omega) (by omega) (by omega)]; exact hM
  refine x_aload_n rfl rfl ?_
  refine x_aload_n rfl rfl ?_
  refine x_getR (u := .ref _) rfl rfl rfl rfl ?_
  refine x_bipushN (q := 51) rfl ?_
  refine x_iload_n rfl rfl ?_
  refine x_iaddN rfl ?_
  refine x_ialE (j := 51 + r) rfl rfl (rfl) (by omega) (hM1.at (51 + r)) ?_
  refine x_aload_n rfl rfl ?_
  refine x_callV (M' := mi170) (As := []) (bc1 := 0) (bs1 := 0) (bc2 := 0) (bs2 := 0) rfl rfl rfl rfl ok170 rfl rfl (by decide) rfl rfl rfl rfl rfl rfl ?_
  refine m_livingK hM1 hW ?_
  refine x_aload_n rfl rfl ?_
  refine x_iload_n rfl rfl ?_
  refine x_callV (M' := mi176) (As := [_]) (bc1 := 0) (bs1 := 0) (bc2 := 0) (bs2 := 0) rfl rfl rfl rfl ok176 rfl rfl (by decide) rfl rfl rfl rfl rfl rfl ?_
  refine m_livingOn hM1 hW (by omega) ?_
  refine x_callV (M' := mi249) (As := [_, _, _]) (bc1 := 0) (bs1 := 0) (bc2 := 0) (bs2 := 0) rfl rfl rfl rfl ok249 rfl rfl (by decide) rfl rfl rfl rfl rfl rfl ?_
  refine m_spreads hW hd4 hW.lm (and_lt2 hW hr) hM1 hO (fun V2 hF2 hB2 => ?_)
  refine x_iret rfl rfl ?_
  exact hP V2 (fun a k q1 q2 q3 q4 q5 q6 q7 q8 => (hF2 a k q3 q4 q5 q6 (by omega)).trans (hF a k q1 q2 (by omega))) hB2
set_option maxRecDepth 20000 in
theorem m_ends_bad {a : Int32} (hM : RK (V 76) K) (hW : WF K) (h : hasF (nI (K 94)) a = 0) (hP : P (some (.int (-1))) (LY ++ ext) V VL (vr G)) : Ex (d + 47) mi252 0 (entL [.ref 74, .int a] 5) [] (LY ++ ext) V VL (vr G) 0 0 P := by
  refine x_aload_n rfl rfl ?_
  refine x_iload_n rfl rfl ?_
  refine x_callV (M' := mi165) (As := [_]) (bc1 := 0) (bs1 := 0) (bc2 := 0) (bs2 := 0) rfl rfl rfl rfl ok165 rfl rfl (by decide) rfl rfl rfl rfl rfl rfl ?_
  refine m_isRollK hM hW ?_
  rw [h]
  refine x_if_ne rfl (fun c5 => ?_) (fun c5 => ?_)
  · exact absurd rfl c5
  refine x_iconst rfl ?_
  refine x_iret rfl rfl ?_
  exact hP
set_option maxRecDepth 20000 in
theorem m_ends {r : Nat} (hM : RK (V 76) K) (hW : WF K) (hL : LwK K) (hr : r < K 94) (hP : ∀ V' : VIT, FrE2 V V' → P (some (.int (nI (endA K r)))) (LY ++ ext) V' VL (vr G)) : Ex (d + 47) mi252 0 (entL [.ref 74, .int (nI r)] 5) [] (LY ++ ext) V VL (vr G) 0 0 P := by
  have h8 : K 94 ≤ 8 := hW.2.1
  have hd4 := (hW.roll hr).2.1
  refine x_aload_n rfl rfl ?_
  refine x_iload_n rfl rfl ?_
  refine x_callV (M' := mi165) (As := [_]) (bc1 := 0) (bs1 := 0) (bc2 := 0) (bs2 := 0) rfl rfl rfl rfl ok165 rfl rfl (by decide) rfl rfl rfl rfl rfl rfl ?_
  refine m_isRollK hM hW ?_
  rw [hasF_in hr (by omega)]
  refine x_if_ne rfl (fun c5 => ?_) (fun c5 => ?_)
  rotate_left
  · exact absurd c5 (by first | decide | omega)
  refine x_aload_n rfl rfl ?_
  refine x_iload_n rfl rfl ?_
  refine x_callV (M' := mi250) (As := [_]) (bc1 := 0) (bs1 := 0) (bc2 := 0) (bs2 := 0) rfl rfl rfl rfl ok250 rfl rfl (by decide) rfl rfl rfl rfl rfl rfl ?_
  refine m_spreadsAll hM hW hL hr (fun V1 hF hB => ?_)
  have hM1 : RK (V1 76) K := by rw [show V1 76 = V 76 from funext (fun k => hF.kp 76 k (by unfold kpP; omega))]; exact hM
  refine x_pop rfl rfl ?_
  refine x_iconstN (q := 0) rfl ?_
  refine x_istore_n (ls' := [_, _, _, _, _]) rfl rfl rfl ?_
  refine x_iconstN (q := 0) rfl ?_
  refine x_istore_n (ls' := [_, _, _, _, _]) rfl rfl rfl ?_
  exact me_loop hM1 hW hr (BfA_ok hW hd4) hB (BfA K (rdK K r) (lmK K)).1 0 0 _ rfl (Nat.zero_add _) (hP V1 hF)
end Ends
-- a search leaves all but its stamp
set_option maxRecDepth 20000 in
theorem St.srch {j : Nat} {ext : HL} {G : VRT} {K : KT} {tn : Nat} {T : Nat → Nat} {u s n : Nat} {US : Nat → KT} {lg : Nat → Nat} {V V1 V2 : VIT} (h : St j ext G K tn T u US lg V) (hF : FrD V V1) (hs : s ≤ 66 * j) (hn : n ≤ 66) (hS : Stm (s + n) V1) (hE : FrE2 V1 V2) : St (j + 1) ext G K tn T u US lg V2 := by
  have h' := h
  obtain ⟨h1, h2, h3, h4, h5, h6, h7, h8, h9⟩ := h
  have hst : Stamp (j + 1) V2 := by
    refine ⟨s + n, by omega, ?_, fun k hk => ?_⟩
    · rw [hE 63 6 (by omega) (by omega) (by omega) (by omega) (by omega) (by omega) (by omega) (by omega)]; exact hS.1
    · rw [hE 65 k (by omega) (by omega) (by omega) (by omega) (by omega) (by omega) (by omega) (by omega)]; exact hS.2 k hk
  have e : ∀ a k, kpP a k → ¬ (a = 63 ∧ k = 6) → a ≠ 65 → V2 a k = V a k := fun a k q q1 q2 => by
    rw [hE.kp a k q]
    unfold kpP at q
    exact hF a k (by omega) (by omega) (by omega) (by omega) (by omega) (by omega) (by omega) q2 (by omega)
  have hsc := h'.scratch (VI' := fun a k => if (a = 63 ∧ k = 6) ∨ a = 65 then V a k else V2 a k) (fun a k q => by
    show (if (a = 63 ∧ k = 6) ∨ a = 65 then V a k else V2 a k) = V a k
    split
    · rfl
    · exact e a k q (by omega) (by omega))
  have er : ∀ a, a ≠ 63 → a ≠ 65 → (fun a k => if (a = 63 ∧ k = 6) ∨ a = 65 then V a k else V2 a k) a = V2 a := fun a q1 q2 => funext (fun k => if_neg (by omega))
  obtain ⟨a1, a2, a3, a4, a5, a6, a7, -, a9, a10, a11, a12⟩ := hsc
  refine ⟨a1, a2.same (fun a _ _ => (er a (by omega) (by omega)).symm), ?_, ?_, ?_, a6.same ?_ ?_ (er 46 (by omega) (by omega)).symm (er 88 (by omega) (by omega)).symm, a7.same ?_ ?_ (er 71 (by omega) (by omega)).symm (er 99 (by omega) (by omega)).symm, hst, a9.same ?_ (fun a _ _ => (er a (by omega) (by omega)).symm) (er 77 (by omega) (by omega)).symm (er 78 (by omega) (by omega)).symm (fun a _ => (er a (by omega) (by omega)).symm), a10.sameV h1.l6 (fun a _ => (er a (by omega) (by omega)).symm), ?_, a12⟩
  · rw [← er 76 (by omega) (by omega)]; exact a3
  · exact a4.same (fun k _ => (congrFun (er 0 (by omega) (by omega)) k).symm) (fun k _ => (congrFun (er 74 (by omega) (by omega)) k).symm) (er 73 (by omega) (by omega)).symm (er 75 (by omega) (by omega)).symm
  · exact a5.same (congrFun (er 0 (by omega) (by omega)) 13).symm (congrFun (er 74 (by omega) (by omega)) 13).symm (er 72 (by omega) (by omega)).symm (er 81 (by omega) (by omega)).symm
  · exact (congrFun (er 45 (by omega) (by omega)) 2).symm
  · exact (congrFun (er 74 (by omega) (by omega)) 32).symm
  · exact (congrFun (er 70 (by omega) (by omega)) 3).symm
  · exact (congrFun (er 74 (by omega) (by omega)) 50).symm
  · exact (congrFun (er 0 (by omega) (by omega)) 12).symm
  · rw [← er 80 (by omega) (by omega)]; exact a11
section Join18
variable {j : Nat} {lay : HL} {VI : VIT} {VL : VLT} {VR : VRT}
set_option maxRecDepth 20000 in
theorem j_ends {a : Int32} (hj : j ≤ 1000) (h : Inv j lay VI VL VR) : Pr 100 mi130 mi252 [.int a] lay VI VL VR (Inv (j + 1)) := by
  obtain ⟨ext, G, K, tn, T, u, US, lg, rfl, rfl, hS⟩ := h
  have hI := hS.next.inv (VL := VL)
  have hW := hS.1
  have hX := hS.2.1
  have hM := hS.2.2.1
  have hL := hS.2.2.2.2.2.2.2.2.2.1
  have h8 : K 94 ≤ 8 := hW.2.1
  obtain ⟨s, s1, s2, s3⟩ := hS.2.2.2.2.2.2.2.1
  rcases has_cases (n := K 94) (by omega) a with h1 | ⟨r, hr, rfl⟩
  · exact Pr_read (-1) (fun P q => x_ends_bad hX h1 q) (fun P q => m_ends_bad hM hW h1 q) hI
  · refine ExS.budget (bc := 0) (bs := 0) (x_ends hX hW hL hr (s := s) (by omega) ⟨s2, s3⟩ (fun V1 hF hS1 => ⟨_, ext, rfl, rfl, ?_⟩)) (by omega) (by omega)
    have hM1 : RK (V1 76) K := by rw [show V1 76 = VI 76 from funext (fun k => hF 76 k (by omega) (by omega) (by omega) (by omega) (by omega) (by omega) (by omega) (by omega) (by omega))]; exact hM
    exact m_ends hM1 hW hL.K hr (fun V2 hE => ⟨rfl, (hS.srch hF s1 (n := 1) (by omega) hS1 hE).inv⟩)
end Join18
