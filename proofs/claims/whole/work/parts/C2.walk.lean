/-! ===== the class walks ===== -/
set_option maxRecDepth 20000 in
theorem two_bits {a p q : Nat} : (a / 2 ^ p &&& a / 2 ^ q) % 2 = 1 ↔ (a.testBit p = true ∧ a.testBit q = true) := by
  have e : ∀ x : Nat, x % 2 = 1 ↔ x.testBit 0 = true := fun x => by rw [Nat.testBit_zero, decide_eq_true_eq]
  rw [e, Nat.testBit_and, Nat.testBit_div_two_pow, Nat.testBit_div_two_pow, Nat.zero_add, Nat.zero_add, Bool.and_eq_true]
set_option maxRecDepth 20000 in
theorem or3 {r p q : Nat} (hp : p < 8) (hq : q < 8) : (r * 2 ^ 6 ||| p * 2 ^ 3) ||| q = r * 64 + p * 8 + q := by
  have e1 : r * 2 ^ 6 ||| p * 2 ^ 3 = r * 64 + p * 8 := by
    have := Nat.two_pow_add_eq_or_of_lt (i := 6) (b := p * 2 ^ 3) (by omega) r
    rw [Nat.mul_comm] at this
    rw [← this]
  rw [e1]
  have := Nat.two_pow_add_eq_or_of_lt (i := 3) (b := q) (by omega) (r * 8 + p)
  rw [show r * 64 + p * 8 = 2 ^ 3 * (r * 8 + p) by omega, ← this]
/-- the class's search holds st, by the stamp s -/
def BX (s : Nat) (st : BSt) (V : VIT) : Prop := V 63 5 = nI st.1.length ∧ V 63 6 = nI s ∧ (∀ i x, st.1[i]? = some x → V 64 i = nI x) ∧ (∀ x, x < 4096 → (x ∈ st.1 → V 65 x = nI s) ∧ (¬ x ∈ st.1 → ∃ y, y < s ∧ V 65 x = nI y)) ∧ ∀ i x, 0 < i → st.1[i]? = some x → V 66 x = nI ((st.2 x).1 * 64 + (st.2 x).2.1 * 8 + (st.2 x).2.2)
def FrB (V0 V : VIT) : Prop := ∀ a k, a ≠ 2 → a ≠ 43 → a ≠ 44 → a ≠ 62 → ¬ (a = 63 ∧ (k = 5 ∨ k = 6)) → a ≠ 64 → a ≠ 65 → a ≠ 66 → V a k = V0 a k
set_option maxRecDepth 20000 in
theorem BX.q {s : Nat} {st : BSt} {V V' : VIT} (h : BX s st V) (hF : FrQ V V') : BX s st V' := by
  unfold BX at h ⊢
  rw [hF.row 63 (by omega) (by omega) (by omega) (by omega), hF.row 64 (by omega) (by omega) (by omega) (by omega), hF.row 65 (by omega) (by omega) (by omega) (by omega), hF.row 66 (by omega) (by omega) (by omega) (by omega)]
  exact h
set_option maxRecDepth 20000 in
theorem nI_ne {a b : Nat} (ha : a < 2147483648) (hb : b < 2147483648) (h : a ≠ b) : ¬ nI a = nI b := fun z => by
  have z2 := congrArg Int32.toInt z
  rw [nI_toInt ha, nI_toInt hb] at z2
  omega
section Walk
variable {d : Nat} {V0 V : VIT} {VL : VLT} {G : VRT} {P : Post} {ext : HL} {K : KT} {dy who on s : Nat}
set_option maxRecDepth 20000 in
theorem wk_q {r p i w : Nat} {z : Int32} (hW : WF K) (hd4 : dy < 4) (hw : who < 64) (hs : s < 1000000) (hp : p < K 93) (hi : i < 4096) : ∀ (m q : Nat) (V : VIT) (st : BSt) (z7 : Value), q + m = K 93 → p < q → FrB V0 V → PaX K dy ext G V → BX s st V → BOK K dy st → st.1[i]? = some r → (∀ (V' : VIT) (z6 z7 : Value), FrB V0 V' → PaX K dy ext G V' → BX s (bfQ K dy who r p m q st) V' → Ex (d + 5) mi75 245 [.ref 63, .int (nI who), .int z, .int (nI w), .int (nI r), .int (nI p), z6, z7] [] (LY ++ ext) V' VL (vr G) 0 0 P) → Ex (d + 5) mi75 108 [.ref 63, .int (nI who), .int z, .int (nI w), .int (nI r), .int (nI p), .int (nI q), z7] [] (LY ++ ext) V VL (vr G) 0 0 P := by
  have h6 := hW.n
  intro m
  induction m with
  | zero =>
    intro q V st z7 hq hpq hF hA hB hO hr hP
    have hX := hA.1
    refine x_iload rfl rfl ?_
    refine x_aload_n rfl rfl ?_
    refine x_getR (u := .ref _) rfl rfl rfl rfl ?_
    refine x_getE (y := 0) rfl rfl rfl (hX.n) ?_
    refine x_icmpN_ge rfl (fun c117 => ?_) (fun c117 => ?_)
    rotate_left
    · exact absurd c117 (by first | decide | omega)
    exact hP V _ _ hF hA hB | succ m ih =>
    intro q V st z7 hq hpq hF hA hB hO hr hP
    have hX := hA.1
    have hrl := hO.2.1 r (List.mem_of_getElem? hr)
    have hk := fun (V1 : VIT) (z7 : Value) (h1 : FrB V0 V1) (h2 : PaX K dy ext G V1) (h3 : BX s (bfS K dy who r st p q) V1) => ih (q + 1) V1 (bfS K dy who r st p q) z7 (by omega) (by omega) h1 h2 h3 (bfS_ok hW hO hr hpq (by omega)).1 ((bfS_ok hW (who := who) hO hr hpq (by omega)).2.at hr) hP
    by_cases cb : who.testBit p = true ∧ who.testBit q = true
    · have cb2 := two_bits.mpr cb
      have hlen := hO.len hW
      refine x_iload rfl rfl ?_
      refine x_aload_n rfl rfl ?_
      refine x_getR (u := .ref _) rfl rfl rfl rfl ?_
      refine x_getE (y := 0) rfl rfl rfl (hX.n) ?_
      refine x_icmpN_ge rfl (fun c117 => ?_) (fun c117 => ?_)
      · exact absurd c117 (by first | decide | omega)
      refine x_iload_n rfl rfl ?_
      refine x_iload rfl rfl ?_
      refine x_ishrN rfl ?_
      refine x_iload_n rfl rfl ?_
      refine x_iload rfl rfl ?_
      refine x_ishrN rfl ?_
      refine x_iandN rfl ?_
      refine x_iconstN (q := 1) rfl ?_
      refine x_iandM1 rfl ?_
      refine x_iconstN (q := 1) rfl ?_
      refine x_icmpN_ne rfl (fun c132 => ?_) (fun c132 => ?_)
      · exact absurd c132 (by first | decide | omega)
      refine x_aload_n rfl rfl ?_
      refine x_getR (u := .ref _) rfl rfl rfl rfl ?_
      refine x_iload rfl rfl ?_
      refine x_iload rfl rfl ?_
      refine x_iload rfl rfl ?_
      refine x_callV (M' := mi36) (As := [_, _, _]) (bc1 := 0) (bs1 := 0) (bc2 := 0) (bs2 := 0) rfl rfl rfl rfl ok36 rfl rfl (by decide) rfl rfl rfl rfl rfl rfl ?_
      refine s_rowAfter hA hW hd4 hp (by omega) (by omega) hrl (fun V1 hF1 hA1 => ?_)
      skip
      have hB1 := hB.q hF1
      have hF' : FrB V0 V1 := fun a k q1 q2 q3 q4 q5 q6 q7 q8 => (hF1 a k q1 q2 q3 q4).trans (hF a k q1 q2 q3 q4 q5 q6 q7 q8)
      cases ht : raK K dy r p q with
      | none =>
        have es : bfS K dy who r st p q = st := by
          unfold bfS
          rw [if_pos cb, ht]
          rfl
        rw [es] at hk
        refine x_istore (ls' := [_, _, _, _, _, _, _, _]) rfl rfl rfl ?_
        refine x_iload rfl rfl ?_
        refine x_if_lt rfl (fun c152 => ?_) (fun c152 => ?_)
        rotate_left
        · exact absurd (by decide : (-1 : Int32) < 0) c152
        refine x_iincN (q := 1) (ls' := [_, _, _, _, _, _, _, _]) rfl rfl rfl rfl ?_
        refine x_goto rfl ?_
        exact hk V1 _ hF' hA1 hB1 | some t =>
        have htl := raK_lt hW hp (by omega) hrl ht
        have ht4 : t < 4096 := Nat.lt_of_lt_of_le htl (pow4_6 h6)
        obtain ⟨b1_, b2_, b3_, b4_, b5_⟩ := hB1
        by_cases cm : t ∈ st.1
        · have es : bfS K dy who r st p q = st := by
            unfold bfS
            rw [if_pos cb, ht]
            exact if_pos cm
          rw [es] at hk
          have hv := (b4_ t ht4).1 cm
          show Ex (d + 5) mi75 148 [.ref 63, .int (nI who), .int z, .int (nI w), .int (nI r), .int (nI p), .int (nI q), z7] [.int (nI t)] (LY ++ ext) V1 VL (vr G) 0 0 P
          refine x_istore (ls' := [_, _, _, _, _, _, _, _]) rfl rfl rfl ?_
          refine x_iload rfl rfl ?_
          refine x_ifN_lt rfl ?_
          refine x_iload rfl rfl ?_
          refine x_sipushN (q := 4096) rfl ?_
          refine x_icmpN_ge rfl (fun c160 => ?_) (fun c160 => ?_)
          · exact absurd c160 (by first | decide | omega)
          refine x_aload_n rfl rfl ?_
          refine x_getR (u := .ref _) rfl rfl rfl rfl ?_
          refine x_iload rfl rfl ?_
          refine x_ialE (j := t) rfl rfl (rfl) (by omega) (hv) ?_
          refine x_aload_n rfl rfl ?_
          refine x_getE (y := 6) rfl rfl rfl b2_ ?_
          refine x_icmpN_eq rfl (fun c174 => ?_) (fun c174 => ?_)
          rotate_left
          · exact absurd c174 (by first | decide | omega)
          refine x_iincN (q := 1) (ls' := [_, _, _, _, _, _, _, _]) rfl rfl rfl rfl ?_
          refine x_goto rfl ?_
          exact hk V1 _ hF' hA1 ⟨b1_, b2_, b3_, b4_, b5_⟩
        · have es : bfS K dy who r st p q = (st.1 ++ [t], fun x => if x = t then (r, p, q) else st.2 x) := by
            unfold bfS
            rw [if_pos cb, ht]
            exact if_neg cm
          obtain ⟨y, hy, hv⟩ := (b4_ t ht4).2 cm
          have hnew := bfS_new hW hO hr hpq (show q < K 93 by omega) ht cm
          have hl2 : st.1.length < 4096 := by
            have := hnew.1.len hW
            simp only [List.length_append, List.length_cons, List.length_nil] at this
            omega
          have hr4 : r < 4096 := Nat.lt_of_lt_of_le hrl (pow4_6 h6)
          have hgA : up (up (up V1 65 t (nI s)) 66 t (nI ((r * 2 ^ 6 ||| p * 2 ^ 3) ||| q))) 64 st.1.length (nI t) 63 5 = nI st.1.length := by rw [up_ne (by omega), up_ne (by omega), up_ne (by omega)]; exact b1_
          have hgB : up (up V1 65 t (nI s)) 66 t (nI ((r * 2 ^ 6 ||| p * 2 ^ 3) ||| q)) 63 5 = nI st.1.length := by rw [up_ne (by omega), up_ne (by omega)]; exact b1_
          rw [es] at hk
          show Ex (d + 5) mi75 148 [.ref 63, .int (nI who), .int z, .int (nI w), .int (nI r), .int (nI p), .int (nI q), z7] [.int (nI t)] (LY ++ ext) V1 VL (vr G) 0 0 P
          refine x_istore (ls' := [_, _, _, _, _, _, _, _]) rfl rfl rfl ?_
          refine x_iload rfl rfl ?_
          refine x_ifN_lt rfl ?_
          refine x_iload rfl rfl ?_
          refine x_sipushN (q := 4096) rfl ?_
          refine x_icmpN_ge rfl (fun c160 => ?_) (fun c160 => ?_)
          · exact absurd c160 (by first | decide | omega)
          refine x_aload_n rfl rfl ?_
          refine x_getR (u := .ref _) rfl rfl rfl rfl ?_
          refine x_iload rfl rfl ?_
          refine x_ialE (j := t) rfl rfl (rfl) (by omega) (hv) ?_
          refine x_aload_n rfl rfl ?_
          refine x_getE (y := 6) rfl rfl rfl b2_ ?_
          refine x_icmpN_eq rfl (fun c174 => ?_) (fun c174 => ?_)
          · exact absurd c174 (by first | decide | omega)
          refine x_aload_n rfl rfl ?_
          refine x_getE (y := 5) rfl rfl rfl b1_ ?_
          refine x_sipushN (q := 4096) rfl ?_
          refine x_icmpN_ge rfl (fun c184 => ?_) (fun c184 => ?_)
          · exact absurd c184 (by first | decide | omega)
          refine x_aload_n rfl rfl ?_
          refine x_getR (u := .ref _) rfl rfl rfl rfl ?_
          refine x_iload rfl rfl ?_
          refine x_aload_n rfl rfl ?_
          refine x_getE (y := 6) rfl rfl rfl b2_ ?_
          refine x_iasN (j := t) rfl rfl (rfl) (by omega) ?_
          refine x_aload_n rfl rfl ?_
          refine x_getR (u := .ref _) rfl rfl rfl rfl ?_
          refine x_iload rfl rfl ?_
          refine x_iload rfl rfl ?_
          refine x_bipushN (q := 6) rfl ?_
          refine x_ishlN rfl ?_
          refine x_iload rfl rfl ?_
          refine x_iconstN (q := 3) rfl ?_
          refine x_ishlN rfl ?_
          refine x_iorN rfl ?_
          refine x_iload rfl rfl ?_
          refine x_iorN rfl ?_
          refine x_iasN (j := t) rfl rfl (rfl) (by omega) ?_
          refine x_aload_n rfl rfl ?_
          refine x_getR (u := .ref _) rfl rfl rfl rfl ?_
          refine x_aload_n rfl rfl ?_
          refine x_getE (y := 5) rfl rfl rfl hgB ?_
          refine x_iload rfl rfl ?_
          refine x_iasN (j := st.1.length) rfl rfl (rfl) (by omega) ?_
          refine x_aload_n rfl rfl ?_
          refine x_dup rfl rfl ?_
          refine x_getE (y := 5) rfl rfl rfl hgA ?_
          refine x_iconstN (q := 1) rfl ?_
          refine x_iaddN rfl ?_
          refine x_putI rfl rfl rfl rfl ?_
          refine x_iincN (q := 1) (ls' := [_, _, _, _, _, _, _, _]) rfl rfl rfl rfl ?_
          refine x_goto rfl ?_
          skip
          refine hk _ _ (fun a k q1 q2 q3 q4 q5 q6 q7 q8 => by rw [up_ne2 (by omega), up_ne q6, up_ne q8, up_ne q7]; exact hF' a k q1 q2 q3 q4 q5 q6 q7 q8) (hA1.set hW (fun a k q => by rw [up_ne2 (by omega), up_ne (by omega), up_ne (by omega), up_ne (by omega)])) ⟨?_, ?_, fun j x hx => ?_, fun x hx => ⟨fun hm => ?_, fun hm => ?_⟩, fun j x hj hx => ?_⟩
          · rw [up_at]; simp
          · rw [up_at' (by omega), up_ne (by omega), up_ne (by omega), up_ne (by omega)]; exact b2_
          · rw [up_ne (by omega)]
            by_cases c : j < st.1.length
            · rw [List.getElem?_append_left c] at hx
              rw [up_at' (by omega), up_ne (by omega), up_ne (by omega)]
              exact b3_ j x hx
            · have c2 : j = st.1.length := by
                have := (List.getElem?_eq_some_iff.mp hx).1
                simp only [List.length_append, List.length_cons, List.length_nil] at this
                omega
              subst c2
              rw [List.getElem?_append_right (Nat.le_refl _), Nat.sub_self] at hx
              rw [up_at, ← Option.some.inj hx]
          · rw [up_ne (by omega), up_ne (by omega), up_ne (by omega)]
            by_cases c : x = t
            · subst c; exact up_at
            · rw [up_at' c]
              refine (b4_ x hx).1 ?_
              rcases List.mem_append.mp hm with z1 | z1
              · exact z1
              · exact absurd (List.mem_singleton.mp z1) c
          · rw [up_ne (by omega), up_ne (by omega), up_ne (by omega)]
            have c : x ≠ t := fun e => hm (List.mem_append_right _ (List.mem_singleton.mpr e))
            rw [up_at' c]
            exact (b4_ x hx).2 (fun z1 => hm (List.mem_append_left _ z1))
          · rw [up_ne (by omega), up_ne (by omega)]
            show _ = nI (((if x = t then ((r, p, q) : Nat × Nat × Nat) else st.2 x)).1 * 64 + ((if x = t then ((r, p, q) : Nat × Nat × Nat) else st.2 x)).2.1 * 8 + ((if x = t then ((r, p, q) : Nat × Nat × Nat) else st.2 x)).2.2)
            by_cases c : x = t
            · subst c
              rw [up_at, if_pos rfl, or3 (by omega) (by omega)]
            · rw [up_at' c, up_ne (by omega), if_neg c]
              have hjl : j < st.1.length := Nat.lt_of_not_le (fun z1 => by
                have := (List.getElem?_eq_some_iff.mp hx).1
                simp only [List.length_append, List.length_cons, List.length_nil] at this
                have c2 : j = st.1.length := by omega
                subst c2
                rw [List.getElem?_append_right (Nat.le_refl _), Nat.sub_self] at hx
                exact c (Option.some.inj hx).symm)
              rw [List.getElem?_append_left hjl] at hx
              exact b5_ j x hj hx
    · have es : bfS K dy who r st p q = st := if_neg cb
      rw [es] at hk
      have cb2 : ¬ (who / 2 ^ p &&& who / 2 ^ q) % 2 = 1 := fun z1 => cb (two_bits.mp z1)
      refine x_iload rfl rfl ?_
      refine x_aload_n rfl rfl ?_
      refine x_getR (u := .ref _) rfl rfl rfl rfl ?_
      refine x_getE (y := 0) rfl rfl rfl (hX.n) ?_
      refine x_icmpN_ge rfl (fun c117 => ?_) (fun c117 => ?_)
      · exact absurd c117 (by first | decide | omega)
      refine x_iload_n rfl rfl ?_
      refine x_iload rfl rfl ?_
      refine x_ishrN rfl ?_
      refine x_iload_n rfl rfl ?_
      refine x_iload rfl rfl ?_
      refine x_ishrN rfl ?_
      refine x_iandN rfl ?_
      refine x_iconstN (q := 1) rfl ?_
      refine x_iandM1 rfl ?_
      refine x_iconstN (q := 1) rfl ?_
      refine x_icmpN_ne rfl (fun c132 => ?_) (fun c132 => ?_)
      rotate_left
      · exact absurd c132 (by first | decide | omega)
      refine x_iincN (q := 1) (ls' := [_, _, _, _, _, _, _, _]) rfl rfl rfl rfl ?_
      refine x_goto rfl ?_
      exact hk V _ hF hA hB
end Walk
