/-! ===== the model spreads ===== -/
def BMd (K : KT) (dy : Nat) (st : BSt) (V : VIT) : Prop := V 74 37 = nI st.1.length ∧ (∀ i x, st.1[i]? = some x → V 90 i = nI (x * 4 ^ (6 - K 93))) ∧ (∀ x, x < 4 ^ K 93 → (x ∈ st.1 → V 93 (x * 4 ^ (6 - K 93)) = 1) ∧ (¬ x ∈ st.1 → V 93 (x * 4 ^ (6 - K 93)) = 0)) ∧ V 91 (row0 K dy * 4 ^ (6 - K 93)) = -1 ∧ ∀ i x, 0 < i → st.1[i]? = some x → V 91 (x * 4 ^ (6 - K 93)) = nI ((st.2 x).1 * 4 ^ (6 - K 93)) ∧ V 92 (x * 4 ^ (6 - K 93)) = nI (10 * (st.2 x).2.1 + (st.2 x).2.2)
def FrS2 (V0 V : VIT) : Prop := ∀ a k, a ≠ 90 → a ≠ 91 → a ≠ 92 → a ≠ 93 → ¬ (a = 74 ∧ k = 37) → V a k = V0 a k
set_option maxRecDepth 20000 in
theorem FrS2.row {V V1 : VIT} (h : FrS2 V V1) (a : Nat) (h1 : a ≠ 90) (h2 : a ≠ 91) (h3 : a ≠ 92) (h4 : a ≠ 93) (h5 : a ≠ 74) : V1 a = V a := funext (fun k => h a k h1 h2 h3 h4 (by omega))
set_option maxRecDepth 20000 in
theorem FrS2.kp {V V1 : VIT} (h : FrS2 V V1) (a k : Nat) (hk : kpP a k) : V1 a k = V a k := by
  unfold kpP at hk
  exact h a k (by omega) (by omega) (by omega) (by omega) (by omega)
set_option maxRecDepth 20000 in
theorem fA_snoc {K : KT} {on : Nat} : ∀ (A : List Nat) (x : Nat), fA K on (A ++ [x]) = if fA K on A = none then (if agR K x on = none then none else some x) else fA K on A
  | [], x => by
    show (if agR K x on = none then none else some x) = _
    rw [if_pos (show fA K on [] = none from rfl)]
  | y :: A, x => by
    show (if agR K y on = none then fA K on (A ++ [x]) else some y) = if (if agR K y on = none then fA K on A else some y) = none then _ else (if agR K y on = none then fA K on A else some y)
    by_cases c : agR K y on = none
    · rw [if_pos c, if_pos c]
      exact fA_snoc A x
    · rw [if_neg c, if_neg c, if_neg (fun z => by cases z)]
set_option maxRecDepth 20000 in
theorem fA_mem {K : KT} {on r : Nat} : ∀ (A : List Nat), fA K on A = some r → r ∈ A
  | [], h => by cases h
  | y :: A, h => by
    have h' : (if agR K y on = none then fA K on A else some y) = some r := h
    by_cases c : agR K y on = none
    · rw [if_pos c] at h'
      exact List.mem_cons_of_mem _ (fA_mem A h')
    · rw [if_neg c] at h'
      rw [Option.some.inj h']
      exact List.mem_cons_self
section Spread
variable {d : Nat} {V0 V : VIT} {VL : VLT} {G : VRT} {P : Post} {ext : HL} {K : KT} {dy who on : Nat}
set_option maxRecDepth 20000 in
theorem m_reach_in {x : Nat} {b t : Int32} (hx : x < 4096) (h : V 93 x = 1) (hP : P none (LY ++ ext) V VL (vr G)) : Ex d mi248 0 (entL [.ref 74, .int (nI x), .int b, .int t] 4) [] (LY ++ ext) V VL (vr G) 0 0 P := by
  refine x_aload_n rfl rfl ?_
  refine x_getR (u := .ref _) rfl rfl rfl rfl ?_
  refine x_iload_n rfl rfl ?_
  refine x_zalN (j := x) rfl rfl (rfl) (by omega) ?_
  refine x_if_eq rfl (fun c6 => ?_) (fun c6 => ?_)
  · exact absurd c6 (by rw [h]; decide)
  refine x_vret rfl rfl ?_
  exact hP
set_option maxRecDepth 20000 in
theorem m_reach_new {x L : Nat} {b t : Int32} (hx : x < 4096) (h : V 93 x = 0) (hL : V 74 37 = nI L) (hl : L < 4096) (hP : P none (LY ++ ext) (up (up (up (up (up V 93 x 1) 90 L (nI x)) 91 x b) 92 x t) 74 37 (nI (L + 1))) VL (vr G)) : Ex d mi248 0 (entL [.ref 74, .int (nI x), .int b, .int t] 4) [] (LY ++ ext) V VL (vr G) 0 0 P := by
  refine x_aload_n rfl rfl ?_
  refine x_getR (u := .ref _) rfl rfl rfl rfl ?_
  refine x_iload_n rfl rfl ?_
  refine x_zalN (j := x) rfl rfl (rfl) (by omega) ?_
  refine x_if_eq rfl (fun c6 => ?_) (fun c6 => ?_)
  rotate_left
  · exact absurd h c6
  refine x_aload_n rfl rfl ?_
  refine x_getR (u := .ref _) rfl rfl rfl rfl ?_
  refine x_iload_n rfl rfl ?_
  refine x_iconst rfl ?_
  refine x_zasN (j := x) rfl rfl (rfl) (by omega) ?_
  refine x_aload_n rfl rfl ?_
  refine x_getR (u := .ref _) rfl rfl rfl rfl ?_
  refine x_aload_n rfl rfl ?_
  refine x_getE (y := 37) rfl rfl rfl hL ?_
  refine x_iload_n rfl rfl ?_
  refine x_iasN (j := L) rfl rfl (rfl) (by omega) ?_
  refine x_aload_n rfl rfl ?_
  refine x_getR (u := .ref _) rfl rfl rfl rfl ?_
  refine x_iload_n rfl rfl ?_
  refine x_iload_n rfl rfl ?_
  refine x_iasN (j := x) rfl rfl (rfl) (by omega) ?_
  refine x_aload_n rfl rfl ?_
  refine x_getR (u := .ref _) rfl rfl rfl rfl ?_
  refine x_iload_n rfl rfl ?_
  refine x_iload_n rfl rfl ?_
  refine x_iasN (j := x) rfl rfl (rfl) (by omega) ?_
  refine x_aload_n rfl rfl ?_
  refine x_dup rfl rfl ?_
  refine x_getE (y := 37) rfl rfl rfl hL ?_
  refine x_iconstN (q := 1) rfl ?_
  refine x_iaddN rfl ?_
  refine x_putI rfl rfl rfl rfl ?_
  refine x_vret rfl rfl ?_
  exact hP
set_option maxRecDepth 20000 in
theorem ms_q {r p i k : Nat} {first : Int32} (hW : WF K) (hd4 : dy < 4) (hw : who < 64) (hon : on < 2147483648) (hp : p < K 93) (hM : RK (V0 76) K) (hT : OutM K dy V0) : ∀ (m q : Nat) (V : VIT) (st : BSt) (z9 : Value), q + m = K 93 → p < q → FrS2 V0 V → BMd K dy st V → BOK K dy st → st.1[i]? = some r → (∀ (V' : VIT) (z8 z9 : Value), FrS2 V0 V' → BMd K dy (bfQ K dy who r p m q st) V' → Ex (d + 3) mi249 180 [.ref 74, .int (nI dy), .int (nI who), .int (nI on), .int first, .int (nI k), .int (nI (r * 4 ^ (6 - K 93))), .int (nI p), z8, z9] [] (LY ++ ext) V' VL (vr G) 0 0 P) → Ex (d + 3) mi249 106 [.ref 74, .int (nI dy), .int (nI who), .int (nI on), .int first, .int (nI k), .int (nI (r * 4 ^ (6 - K 93))), .int (nI p), .int (nI q), z9] [] (LY ++ ext) V VL (vr G) 0 0 P := by
  have h6 := hW.n
  intro m
  induction m with
  | zero =>
    intro q V st z9 hq hpq hF hB hO hr hP
    have hM1 : RK (V 76) K := by rw [hF.row 76 (by omega) (by omega) (by omega) (by omega) (by omega)]; exact hM
    refine x_iload rfl rfl ?_
    refine x_aload_n rfl rfl ?_
    refine x_getR (u := .ref _) rfl rfl rfl rfl ?_
    refine x_bipushN (q := 93) rfl ?_
    refine x_ialE (j := 93) rfl rfl (rfl) (by omega) (hM1.at 93) ?_
    refine x_icmpN_ge rfl (fun c115 => ?_) (fun c115 => ?_)
    rotate_left
    · exact absurd c115 (by first | decide | omega)
    exact hP V _ _ hF hB | succ m ih =>
    intro q V st z9 hq hpq hF hB hO hr hP
    have hM1 : RK (V 76) K := by rw [hF.row 76 (by omega) (by omega) (by omega) (by omega) (by omega)]; exact hM
    have hT1 : OutM K dy V := by unfold OutM; rw [hF.row 87 (by omega) (by omega) (by omega) (by omega) (by omega)]; exact hT
    have hrl := hO.2.1 r (List.mem_of_getElem? hr)
    have hr6 := r6_lt h6 hrl
    have hlen := hO.len hW
    by_cases cp : who.testBit p = true
    · have hk := fun (V1 : VIT) (z9 : Value) (h1 : FrS2 V0 V1) (h3 : BMd K dy (bfS K dy who r st p q) V1) => ih (q + 1) V1 (bfS K dy who r st p q) z9 (by omega) (by omega) h1 h3 (bfS_ok hW hO hr hpq (by omega)).1 ((bfS_ok hW (who := who) hO hr hpq (by omega)).2.at hr) hP
      by_cases cq : who.testBit q = true
      · have cb : who.testBit p = true ∧ who.testBit q = true := ⟨cp, cq⟩
        refine x_iload rfl rfl ?_
        refine x_aload_n rfl rfl ?_
        refine x_getR (u := .ref _) rfl rfl rfl rfl ?_
        refine x_bipushN (q := 93) rfl ?_
        refine x_ialE (j := 93) rfl rfl (rfl) (by omega) (hM1.at 93) ?_
        refine x_icmpN_ge rfl (fun c115 => ?_) (fun c115 => ?_)
        · exact absurd c115 (by first | decide | omega)
        refine x_iload_n rfl rfl ?_
        refine x_iload rfl rfl ?_
        refine x_callS (M' := mi157) (As := [_, _]) (bc1 := 0) (bs1 := 0) (bc2 := 0) (bs2 := 0) rfl rfl rfl rfl ok157 rfl rfl rfl rfl rfl rfl ?_
        refine m_isIn (by omega) (by omega) ?_
        rw [cp]
        refine x_if_eq rfl (fun c124 => ?_) (fun c124 => ?_)
        · exact absurd c124 (by decide)
        refine x_iload_n rfl rfl ?_
        refine x_iload rfl rfl ?_
        refine x_callS (M' := mi157) (As := [_, _]) (bc1 := 0) (bs1 := 0) (bc2 := 0) (bs2 := 0) rfl rfl rfl rfl ok157 rfl rfl rfl rfl rfl rfl ?_
        refine m_isIn (by omega) (by omega) ?_
        rw [cq]
        refine x_if_eq rfl (fun c133 => ?_) (fun c133 => ?_)
        · exact absurd c133 (by decide)
        refine x_aload_n rfl rfl ?_
        refine x_iload rfl rfl ?_
        refine x_iload rfl rfl ?_
        refine x_iload rfl rfl ?_
        refine x_callV (M' := mi234) (As := [_, _, _]) (bc1 := 0) (bs1 := 0) (bc2 := 0) (bs2 := 0) rfl rfl rfl rfl ok234 rfl rfl (by decide) rfl rfl rfl rfl rfl rfl ?_
        refine m_rowBehind hT1 hW hpq (by omega) hrl ?_
        refine x_goto rfl ?_
        skip
        unfold sh6
        cases ht : raK K dy r p q with
        | none =>
          have es : bfS K dy who r st p q = st := by
            unfold bfS
            rw [if_pos cb, ht]
            rfl
          rw [es] at hk
          refine x_istore (ls' := [_, _, _, _, _, _, _, _, _, _]) rfl rfl rfl ?_
          refine x_iload rfl rfl ?_
          refine x_iconst rfl ?_
          refine x_icmp_eq rfl (fun c155 => ?_) (fun c155 => ?_)
          rotate_left
          · exact absurd rfl c155
          refine x_iincN (q := 1) (ls' := [_, _, _, _, _, _, _, _, _, _]) rfl rfl rfl rfl ?_
          refine x_goto rfl ?_
          exact hk V _ hF hB | some t =>
          simp only [Option.map_some]
          have htl := raK_lt hW hp (by omega) hrl ht
          have ht6 := r6_lt h6 htl
          obtain ⟨b1_, b2_, b3_, b4_, b5_⟩ := hB
          by_cases cm : t ∈ st.1
          · have es : bfS K dy who r st p q = st := by
              unfold bfS
              rw [if_pos cb, ht]
              exact if_pos cm
            rw [es] at hk
            refine x_istore (ls' := [_, _, _, _, _, _, _, _, _, _]) rfl rfl rfl ?_
            refine x_iload rfl rfl ?_
            refine x_iconst rfl ?_
            refine x_icmp_eq rfl (fun c155 => ?_) (fun c155 => ?_)
            · exact absurd c155 (nI_m1 (show t * 4 ^ (6 - K 93) < 2147483648 by omega))
            refine x_aload_n rfl rfl ?_
            refine x_iload rfl rfl ?_
            refine x_iload rfl rfl ?_
            refine x_bipushN (q := 10) rfl ?_
            refine x_iload rfl rfl ?_
            refine x_imulN rfl ?_
            refine x_iload rfl rfl ?_
            refine x_iaddN rfl ?_
            refine x_callV (M' := mi248) (As := [_, _, _]) (bc1 := 0) (bs1 := 0) (bc2 := 0) (bs2 := 0) rfl rfl rfl rfl ok248 rfl rfl (by decide) rfl rfl rfl rfl rfl rfl ?_
            refine m_reach_in ht6 ((b3_ t htl).1 cm) ?_
            refine x_iincN (q := 1) (ls' := [_, _, _, _, _, _, _, _, _, _]) rfl rfl rfl rfl ?_
            refine x_goto rfl ?_
            exact hk V _ hF ⟨b1_, b2_, b3_, b4_, b5_⟩
          · have es : bfS K dy who r st p q = (st.1 ++ [t], fun x => if x = t then (r, p, q) else st.2 x) := by
              unfold bfS
              rw [if_pos cb, ht]
              exact if_neg cm
            have hnew := bfS_new hW hO hr hpq (show q < K 93 by omega) ht cm
            have hl2 : st.1.length < 4096 := by
              have := hnew.1.len hW
              simp only [List.length_append, List.length_cons, List.length_nil] at this
              omega
            have hne0 : t ≠ row0 K dy := fun e => cm (by rw [e]; exact List.mem_of_getElem? hO.2.2.1)
            have hinj : ∀ x, x ≠ t → x * 4 ^ (6 - K 93) ≠ t * 4 ^ (6 - K 93) := fun x h e => h (mul6_inj e)
            rw [es] at hk
            refine x_istore (ls' := [_, _, _, _, _, _, _, _, _, _]) rfl rfl rfl ?_
            refine x_iload rfl rfl ?_
            refine x_iconst rfl ?_
            refine x_icmp_eq rfl (fun c155 => ?_) (fun c155 => ?_)
            · exact absurd c155 (nI_m1 (show t * 4 ^ (6 - K 93) < 2147483648 by omega))
            refine x_aload_n rfl rfl ?_
            refine x_iload rfl rfl ?_
            refine x_iload rfl rfl ?_
            refine x_bipushN (q := 10) rfl ?_
            refine x_iload rfl rfl ?_
            refine x_imulN rfl ?_
            refine x_iload rfl rfl ?_
            refine x_iaddN rfl ?_
            refine x_callV (M' := mi248) (As := [_, _, _]) (bc1 := 0) (bs1 := 0) (bc2 := 0) (bs2 := 0) rfl rfl rfl rfl ok248 rfl rfl (by decide) rfl rfl rfl rfl rfl rfl ?_
            refine m_reach_new ht6 ((b3_ t htl).2 cm) b1_ hl2 ?_
            refine x_iincN (q := 1) (ls' := [_, _, _, _, _, _, _, _, _, _]) rfl rfl rfl rfl ?_
            refine x_goto rfl ?_
            skip
            refine hk _ _ (fun a k q1 q2 q3 q4 q5 => by rw [up_ne2 (by omega), up_ne q3, up_ne q2, up_ne q1, up_ne q4]; exact hF a k q1 q2 q3 q4 q5) ⟨?_, fun j x hx => ?_, fun x hx => ⟨fun hm => ?_, fun hm => ?_⟩, ?_, fun j x hj hx => ?_⟩
            · rw [up_at]; simp
            · rw [up_ne (by omega), up_ne (by omega), up_ne (by omega)]
              by_cases c : j < st.1.length
              · rw [List.getElem?_append_left c] at hx
                rw [up_at' (by omega), up_ne (by omega)]
                exact b2_ j x hx
              · have c2 : j = st.1.length := by
                  have := (List.getElem?_eq_some_iff.mp hx).1
                  simp only [List.length_append, List.length_cons, List.length_nil] at this
                  omega
                subst c2
                rw [List.getElem?_append_right (Nat.le_refl _), Nat.sub_self] at hx
                rw [up_at, ← Option.some.inj hx]
            · rw [up_ne (by omega), up_ne (by omega), up_ne (by omega), up_ne (by omega)]
              by_cases c : x = t
              · subst c; exact up_at
              · rw [up_at' (hinj x c)]
                refine (b3_ x hx).1 ?_
                rcases List.mem_append.mp hm with z1 | z1
                · exact z1
                · exact absurd (List.mem_singleton.mp z1) c
            · rw [up_ne (by omega), up_ne (by omega), up_ne (by omega), up_ne (by omega)]
              have c : x ≠ t := fun e => hm (List.mem_append_right _ (List.mem_singleton.mpr e))
              rw [up_at' (hinj x c)]
              exact (b3_ x hx).2 (fun z1 => hm (List.mem_append_left _ z1))
            · rw [up_ne (by omega), up_ne (by omega), up_at' (hinj _ (fun e => hne0 e.symm)), up_ne (by omega), up_ne (by omega)]
              exact b4_
            · show _ = nI ((if x = t then ((r, p, q) : Nat × Nat × Nat) else st.2 x).1 * 4 ^ (6 - K 93)) ∧ _ = nI (10 * (if x = t then ((r, p, q) : Nat × Nat × Nat) else st.2 x).2.1 + (if x = t then ((r, p, q) : Nat × Nat × Nat) else st.2 x).2.2)
              by_cases c : x = t
              · subst c
                rw [if_pos rfl]
                refine ⟨?_, ?_⟩
                · rw [up_ne (by omega), up_ne (by omega), up_at]
                · rw [up_ne (by omega), up_at]
              · rw [if_neg c]
                have hjl : j < st.1.length := Nat.lt_of_not_le (fun z1 => by
                  have := (List.getElem?_eq_some_iff.mp hx).1
                  simp only [List.length_append, List.length_cons, List.length_nil] at this
                  have c2 : j = st.1.length := by omega
                  subst c2
                  rw [List.getElem?_append_right (Nat.le_refl _), Nat.sub_self] at hx
                  exact c (Option.some.inj hx).symm)
                rw [List.getElem?_append_left hjl] at hx
                have hb := b5_ j x hj hx
                refine ⟨?_, ?_⟩
                · rw [up_ne (by omega), up_ne (by omega), up_at' (hinj x c), up_ne (by omega), up_ne (by omega)]
                  exact hb.1
                · rw [up_ne (by omega), up_at' (hinj x c), up_ne (by omega), up_ne (by omega), up_ne (by omega)]
                  exact hb.2
      · have cq' : who.testBit q = false := by cases h : who.testBit q with | true => exact absurd h cq | false => rfl
        have es : bfS K dy who r st p q = st := if_neg (fun z => cq z.2)
        rw [es] at hk
        refine x_iload rfl rfl ?_
        refine x_aload_n rfl rfl ?_
        refine x_getR (u := .ref _) rfl rfl rfl rfl ?_
        refine x_bipushN (q := 93) rfl ?_
        refine x_ialE (j := 93) rfl rfl (rfl) (by omega) (hM1.at 93) ?_
        refine x_icmpN_ge rfl (fun c115 => ?_) (fun c115 => ?_)
        · exact absurd c115 (by first | decide | omega)
        refine x_iload_n rfl rfl ?_
        refine x_iload rfl rfl ?_
        refine x_callS (M' := mi157) (As := [_, _]) (bc1 := 0) (bs1 := 0) (bc2 := 0) (bs2 := 0) rfl rfl rfl rfl ok157 rfl rfl rfl rfl rfl rfl ?_
        refine m_isIn (by omega) (by omega) ?_
        rw [cp]
        refine x_if_eq rfl (fun c124 => ?_) (fun c124 => ?_)
        · exact absurd c124 (by decide)
        refine x_iload_n rfl rfl ?_
        refine x_iload rfl rfl ?_
        refine x_callS (M' := mi157) (As := [_, _]) (bc1 := 0) (bs1 := 0) (bc2 := 0) (bs2 := 0) rfl rfl rfl rfl ok157 rfl rfl rfl rfl rfl rfl ?_
        refine m_isIn (by omega) (by omega) ?_
        rw [cq']
        refine x_if_eq rfl (fun c133 => ?_) (fun c133 => ?_)
        rotate_left
        · exact absurd rfl c133
        refine x_iconst rfl ?_
        refine x_istore (ls' := [_, _, _, _, _, _, _, _, _, _]) rfl rfl rfl ?_
        refine x_iload rfl rfl ?_
        refine x_iconst rfl ?_
        refine x_icmp_eq rfl (fun c155 => ?_) (fun c155 => ?_)
        rotate_left
        · exact absurd rfl c155
        refine x_iincN (q := 1) (ls' := [_, _, _, _, _, _, _, _, _, _]) rfl rfl rfl rfl ?_
        refine x_goto rfl ?_
        exact hk V _ hF hB
    · have cp' : who.testBit p = false := by cases h : who.testBit p with | true => exact absurd h cp | false => rfl
      have es : ∀ (m q : Nat) (st : BSt), bfQ K dy who r p m q st = st := by
        intro m
        induction m with
        | zero => exact fun _ _ => rfl
        | succ m ih2 =>
          intro q st
          show bfQ K dy who r p m (q + 1) (bfS K dy who r st p q) = st
          rw [show bfS K dy who r st p q = st from if_neg (fun z => cp z.1)]
          exact ih2 _ _
      rw [es] at hP
      refine x_iload rfl rfl ?_
      refine x_aload_n rfl rfl ?_
      refine x_getR (u := .ref _) rfl rfl rfl rfl ?_
      refine x_bipushN (q := 93) rfl ?_
      refine x_ialE (j := 93) rfl rfl (rfl) (by omega) (hM1.at 93) ?_
      refine x_icmpN_ge rfl (fun c115 => ?_) (fun c115 => ?_)
      · exact absurd c115 (by first | decide | omega)
      refine x_iload_n rfl rfl ?_
      refine x_iload rfl rfl ?_
      refine x_callS (M' := mi157) (As := [_, _]) (bc1 := 0) (bs1 := 0) (bc2 := 0) (bs2 := 0) rfl rfl rfl rfl ok157 rfl rfl rfl rfl rfl rfl ?_
      refine m_isIn (by omega) (by omega) ?_
      rw [cp']
      refine x_if_eq rfl (fun c124 => ?_) (fun c124 => ?_)
      rotate_left
      · exact absurd rfl c124
      exact hP V _ _ hF hB
set_option maxRecDepth 20000 in
theorem ms_p {r i k : Nat} {first : Int32} (hW : WF K) (hd4 : dy < 4) (hw : who < 64) (hon : on < 2147483648) (hM : RK (V0 76) K) (hT : OutM K dy V0) : ∀ (m p : Nat) (V : VIT) (st : BSt) (z8 z9 : Value), p + m = K 93 → FrS2 V0 V → BMd K dy st V → BOK K dy st → st.1[i]? = some r → (∀ (V' : VIT) (z7 z8 z9 : Value), FrS2 V0 V' → BMd K dy (bfP K dy who r m p st) V' → Ex (d + 3) mi249 186 [.ref 74, .int (nI dy), .int (nI who), .int (nI on), .int first, .int (nI k), .int (nI (r * 4 ^ (6 - K 93))), z7, z8, z9] [] (LY ++ ext) V' VL (vr G) 0 0 P) → Ex (d + 3) mi249 88 [.ref 74, .int (nI dy), .int (nI who), .int (nI on), .int first, .int (nI k), .int (nI (r * 4 ^ (6 - K 93))), .int (nI p), z8, z9] [] (LY ++ ext) V VL (vr G) 0 0 P := by
  have h6 := hW.n
  intro m
  induction m with
  | zero =>
    intro p V st z8 z9 hp hF hB hO hr hP
    have hM1 : RK (V 76) K := by rw [hF.row 76 (by omega) (by omega) (by omega) (by omega) (by omega)]; exact hM
    refine x_iload rfl rfl ?_
    refine x_aload_n rfl rfl ?_
    refine x_getR (u := .ref _) rfl rfl rfl rfl ?_
    refine x_bipushN (q := 93) rfl ?_
    refine x_ialE (j := 93) rfl rfl (rfl) (by omega) (hM1.at 93) ?_
    refine x_icmpN_ge rfl (fun c97 => ?_) (fun c97 => ?_)
    rotate_left
    · exact absurd c97 (by first | decide | omega)
    exact hP V _ _ _ hF hB | succ m ih =>
    intro p V st z8 z9 hp hF hB hO hr hP
    have hM1 : RK (V 76) K := by rw [hF.row 76 (by omega) (by omega) (by omega) (by omega) (by omega)]; exact hM
    obtain ⟨a1, a2⟩ := bfQ_ok hW (who := who) (p := p) (K 93 - (p + 1)) (p + 1) st (by omega) (by omega) hO hr
    refine x_iload rfl rfl ?_
    refine x_aload_n rfl rfl ?_
    refine x_getR (u := .ref _) rfl rfl rfl rfl ?_
    refine x_bipushN (q := 93) rfl ?_
    refine x_ialE (j := 93) rfl rfl (rfl) (by omega) (hM1.at 93) ?_
    refine x_icmpN_ge rfl (fun c97 => ?_) (fun c97 => ?_)
    · exact absurd c97 (by first | decide | omega)
    refine x_iload rfl rfl ?_
    refine x_iconstN (q := 1) rfl ?_
    refine x_iaddN rfl ?_
    refine x_istore (ls' := [_, _, _, _, _, _, _, _, _, _]) rfl rfl rfl ?_
    skip
    refine ms_q hW hd4 hw hon (by omega) hM hT (K 93 - (p + 1)) (p + 1) V st _ (by omega) (by omega) hF hB hO hr (fun V1 z8 z9 g1 g3 => ?_)
    refine x_iincN (q := 1) (ls' := [_, _, _, _, _, _, _, _, _, _]) rfl rfl rfl rfl ?_
    refine x_goto rfl ?_
    exact ih (p + 1) V1 _ _ _ (by omega) g1 g3 a1 (a2.at hr) hP
end Spread
