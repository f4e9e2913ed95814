/-! ===== the class walks: its loops ===== -/
def Stm (s : Nat) (V : VIT) : Prop := V 63 6 = nI s ∧ ∀ k, k < 4096 → ∃ x, x ≤ s ∧ V 65 k = nI x
set_option maxRecDepth 20000 in
theorem BX.stm {s : Nat} {st : BSt} {V : VIT} (h : BX s st V) : Stm s V := by
  obtain ⟨h1, h2, h3, h4, h5⟩ := h
  refine ⟨h2, fun k hk => ?_⟩
  by_cases c : k ∈ st.1
  · exact ⟨s, Nat.le_refl _, (h4 k hk).1 c⟩
  · obtain ⟨y, q1, q2⟩ := (h4 k hk).2 c
    exact ⟨y, by omega, q2⟩
section Walk2
variable {d : Nat} {V0 V : VIT} {VL : VLT} {G : VRT} {P : Post} {ext : HL} {K : KT} {dy who on s : Nat}
set_option maxRecDepth 20000 in
theorem wk_p {r i w : Nat} {z : Int32} (hW : WF K) (hd4 : dy < 4) (hw : who < 64) (hs : s < 1000000) (hi : i < 4096) : ∀ (m p : Nat) (V : VIT) (st : BSt) (z6 z7 : Value), p + m = K 93 → FrB V0 V → PaX K dy ext G V → BX s st V → BOK K dy st → st.1[i]? = some r → (∀ (V' : VIT) (z5 z6 z7 : Value), FrB V0 V' → PaX K dy ext G V' → BX s (bfP K dy who r m p st) V' → Ex (d + 5) mi75 251 [.ref 63, .int (nI who), .int z, .int (nI w), .int (nI r), z5, z6, z7] [] (LY ++ ext) V' VL (vr G) 0 0 P) → Ex (d + 5) mi75 90 [.ref 63, .int (nI who), .int z, .int (nI w), .int (nI r), .int (nI p), z6, z7] [] (LY ++ ext) V VL (vr G) 0 0 P := by
  have h6 := hW.n
  intro m
  induction m with
  | zero =>
    intro p V st z6 z7 hp hF hA hB hO hr hP
    have hX := hA.1
    refine x_iload rfl rfl ?_
    refine x_aload_n rfl rfl ?_
    refine x_getR (u := .ref _) rfl rfl rfl rfl ?_
    refine x_getE (y := 0) rfl rfl rfl (hX.n) ?_
    refine x_icmpN_ge rfl (fun c99 => ?_) (fun c99 => ?_)
    rotate_left
    · exact absurd c99 (by first | decide | omega)
    exact hP V _ _ _ hF hA hB | succ m ih =>
    intro p V st z6 z7 hp hF hA hB hO hr hP
    have hX := hA.1
    obtain ⟨a1, a2⟩ := bfQ_ok hW (who := who) (p := p) (K 93 - (p + 1)) (p + 1) st (by omega) (by omega) hO hr
    refine x_iload rfl rfl ?_
    refine x_aload_n rfl rfl ?_
    refine x_getR (u := .ref _) rfl rfl rfl rfl ?_
    refine x_getE (y := 0) rfl rfl rfl (hX.n) ?_
    refine x_icmpN_ge rfl (fun c99 => ?_) (fun c99 => ?_)
    · exact absurd c99 (by first | decide | omega)
    refine x_iload rfl rfl ?_
    refine x_iconstN (q := 1) rfl ?_
    refine x_iaddN rfl ?_
    refine x_istore (ls' := [_, _, _, _, _, _, _, _]) rfl rfl rfl ?_
    skip
    refine wk_q hW hd4 hw hs (by omega) hi (K 93 - (p + 1)) (p + 1) V st _ (by omega) (by omega) hF hA hB hO hr (fun V1 z6 z7 g1 g2 g3 => ?_)
    refine x_iincN (q := 1) (ls' := [_, _, _, _, _, _, _, _]) rfl rfl rfl rfl ?_
    refine x_goto rfl ?_
    exact ih (p + 1) V1 _ _ _ (by omega) g1 g2 g3 a1 (a2.at hr) hP
set_option maxRecDepth 20000 in
theorem agI_z {o : Option Nat} (h : ∀ c, o = some c → c < 1000) : agI (o.map z100) = -1 ↔ o = none := by
  cases o with
  | none => exact ⟨fun _ => rfl, fun _ => rfl⟩
  | some c =>
    have hc := h c rfl
    have : z100 c < 2147483648 := by unfold z100; split <;> omega
    exact ⟨fun z => absurd z (nI_m1 this), fun z => by cases z⟩
set_option maxRecDepth 20000 in
theorem wk_l {wb : Bool} (hW : WF K) (hd4 : dy < 4) (hw : who < 64) (ho : on < 64) (hs : s < 1000000) (hon : V0 63 8 = nI on) (hP : ∀ V' : VIT, FrB V0 V' → PaX K dy ext G V' → BX s (bfX K dy who on wb 4097 0 (bfI K dy)).1 V' → P (some (.int (agI (bfX K dy who on wb 4097 0 (bfI K dy)).2))) (LY ++ ext) V' VL (vr G)) : ∀ (f k : Nat) (V : VIT) (st : BSt) (z4 z5 z6 z7 : Value), k + f = 4097 → k ≤ st.1.length → FrB V0 V → PaX K dy ext G V → BX s st V → BOK K dy st → bfX K dy who on wb f k st = bfX K dy who on wb 4097 0 (bfI K dy) → Ex (d + 5) mi75 40 [.ref 63, .int (nI who), .int (b1 wb), .int (nI k), z4, z5, z6, z7] [] (LY ++ ext) V VL (vr G) 0 0 P := by
  have h6 := hW.n
  intro f
  induction f with
  | zero =>
    intro k V st z4 z5 z6 z7 hk hl hF hA hB hO he
    have := hO.len hW
    omega
  | succ f ih =>
    intro k V st z4 z5 z6 z7 hk hl hF hA hB hO he
    have hlen := hO.len hW
    have hB' := hB
    obtain ⟨b1_, b2_, b3_, b4_, b5_⟩ := hB
    have hon' : V 63 8 = nI on := (hF 63 8 (by omega) (by omega) (by omega) (by omega) (by omega) (by omega) (by omega) (by omega)).trans hon
    rw [show bfX K dy who on wb (f + 1) k st = (st.1[k]?).elim (st, none) (fun r => if wb = true ∧ agR K r on ≠ none then (st, some r) else bfX K dy who on wb f (k + 1) (bfP K dy who r (K 93) 0 st)) from rfl] at he
    cases hr : st.1[k]? with
    | none =>
      have hkl := List.getElem?_eq_none_iff.mp hr
      have he2 : (st, none) = bfX K dy who on wb 4097 0 (bfI K dy) := by
        rw [← he, hr]
        rfl
      rw [← he2] at hP
      refine x_iload_n rfl rfl ?_
      refine x_aload_n rfl rfl ?_
      refine x_getE (y := 5) rfl rfl rfl b1_ ?_
      refine x_icmpN_ge rfl (fun c45 => ?_) (fun c45 => ?_)
      rotate_left
      · exact absurd c45 (by first | decide | omega)
      refine x_iconst rfl ?_
      refine x_iret rfl rfl ?_
      exact hP V hF hA hB' | some r =>
      have hkl := (List.getElem?_eq_some_iff.mp hr).1
      have hr4 : r < 4096 := Nat.lt_of_lt_of_le (hO.2.1 r (List.mem_of_getElem? hr)) (pow4_6 h6)
      have hX := hA.1
      have hgo : ∀ (z5 z6 z7 : Value), bfX K dy who on wb f (k + 1) (bfP K dy who r (K 93) 0 st) = bfX K dy who on wb 4097 0 (bfI K dy) → Ex (d + 5) mi75 87 [.ref 63, .int (nI who), .int (b1 wb), .int (nI k), .int (nI r), z5, z6, z7] [] (LY ++ ext) V VL (vr G) 0 0 P := by
        intro z5 z6 z7 he3
        obtain ⟨a1, a2⟩ := bfP_ok hW (who := who) (K 93) 0 st (by omega) hO hr
        have hl2 : k + 1 ≤ (bfP K dy who r (K 93) 0 st).1.length := by
          have := (List.getElem?_eq_some_iff.mp (a2.at hr)).1
          omega
        refine x_iconstN (q := 0) rfl ?_
        refine x_istore (ls' := [_, _, _, _, _, _, _, _]) rfl rfl rfl ?_
        refine wk_p (V0 := V0) hW hd4 hw hs (show k < 4096 by omega) (K 93) 0 V st _ _ (by omega) hF hA hB' hO hr (fun V1 z5 z6 z7 g1 g2 g3 => ?_)
        refine x_iincN (q := 1) (ls' := [_, _, _, _, _, _, _, _]) rfl rfl rfl rfl ?_
        refine x_goto rfl ?_
        exact ih (k + 1) V1 _ _ _ _ _ (by omega) hl2 g1 g2 g3 a1 he3
      cases wb with
      | false =>
        have he3 : bfX K dy who on false f (k + 1) (bfP K dy who r (K 93) 0 st) = bfX K dy who on false 4097 0 (bfI K dy) := by
          rw [← he, hr]
          rfl
        refine x_iload_n rfl rfl ?_
        refine x_aload_n rfl rfl ?_
        refine x_getE (y := 5) rfl rfl rfl b1_ ?_
        refine x_icmpN_ge rfl (fun c45 => ?_) (fun c45 => ?_)
        · exact absurd c45 (by first | decide | omega)
        refine x_iload_n rfl rfl ?_
        refine x_sipushN (q := 4096) rfl ?_
        refine x_icmpN_ge rfl (fun c52 => ?_) (fun c52 => ?_)
        · exact absurd c52 (by first | decide | omega)
        refine x_aload_n rfl rfl ?_
        refine x_getR (u := .ref _) rfl rfl rfl rfl ?_
        refine x_iload_n rfl rfl ?_
        refine x_ialE (j := k) rfl rfl (rfl) (by omega) (b3_ k r hr) ?_
        refine x_istore (ls' := [_, _, _, _, _, _, _, _]) rfl rfl rfl ?_
        refine x_iload_n rfl rfl ?_
        refine x_if_eq rfl (fun c64 => ?_) (fun c64 => ?_)
        rotate_left
        · exact absurd rfl c64
        exact hgo _ _ _ he3 | true =>
        by_cases c : agR K r on = none
        · have he3 : bfX K dy who on true f (k + 1) (bfP K dy who r (K 93) 0 st) = bfX K dy who on true 4097 0 (bfI K dy) := by
            rw [← he, hr]
            exact (if_neg (fun z => z.2 c)).symm
          refine x_iload_n rfl rfl ?_
          refine x_aload_n rfl rfl ?_
          refine x_getE (y := 5) rfl rfl rfl b1_ ?_
          refine x_icmpN_ge rfl (fun c45 => ?_) (fun c45 => ?_)
          · exact absurd c45 (by first | decide | omega)
          refine x_iload_n rfl rfl ?_
          refine x_sipushN (q := 4096) rfl ?_
          refine x_icmpN_ge rfl (fun c52 => ?_) (fun c52 => ?_)
          · exact absurd c52 (by first | decide | omega)
          refine x_aload_n rfl rfl ?_
          refine x_getR (u := .ref _) rfl rfl rfl rfl ?_
          refine x_iload_n rfl rfl ?_
          refine x_ialE (j := k) rfl rfl (rfl) (by omega) (b3_ k r hr) ?_
          refine x_istore (ls' := [_, _, _, _, _, _, _, _]) rfl rfl rfl ?_
          refine x_iload_n rfl rfl ?_
          refine x_if_eq rfl (fun c64 => ?_) (fun c64 => ?_)
          · exact absurd c64 (by decide)
          refine x_aload_n rfl rfl ?_
          refine x_getR (u := .ref _) rfl rfl rfl rfl ?_
          refine x_iload rfl rfl ?_
          refine x_aload_n rfl rfl ?_
          refine x_getE (y := 8) rfl rfl rfl hon' ?_
          refine x_callV (M' := mi106) (As := [_, _]) (bc1 := 0) (bs1 := 0) (bc2 := 0) (bs2 := 0) rfl rfl rfl rfl ok106 rfl rfl (by decide) rfl rfl rfl rfl rfl rfl ?_
          refine s_accordInRow hX.n h6 hr4 (by omega) ?_
          rw [agR_x]
          refine x_iconst rfl ?_
          refine x_icmp_eq rfl (fun c81 => ?_) (fun c81 => ?_)
          rotate_left
          · exact absurd ((agI_z (fun c h => agR_lt h)).mpr c) c81
          exact hgo _ _ _ he3
        · have he2 : (st, some r) = bfX K dy who on true 4097 0 (bfI K dy) := by
            rw [← he, hr]
            exact (if_pos ⟨rfl, c⟩).symm
          rw [← he2] at hP
          refine x_iload_n rfl rfl ?_
          refine x_aload_n rfl rfl ?_
          refine x_getE (y := 5) rfl rfl rfl b1_ ?_
          refine x_icmpN_ge rfl (fun c45 => ?_) (fun c45 => ?_)
          · exact absurd c45 (by first | decide | omega)
          refine x_iload_n rfl rfl ?_
          refine x_sipushN (q := 4096) rfl ?_
          refine x_icmpN_ge rfl (fun c52 => ?_) (fun c52 => ?_)
          · exact absurd c52 (by first | decide | omega)
          refine x_aload_n rfl rfl ?_
          refine x_getR (u := .ref _) rfl rfl rfl rfl ?_
          refine x_iload_n rfl rfl ?_
          refine x_ialE (j := k) rfl rfl (rfl) (by omega) (b3_ k r hr) ?_
          refine x_istore (ls' := [_, _, _, _, _, _, _, _]) rfl rfl rfl ?_
          refine x_iload_n rfl rfl ?_
          refine x_if_eq rfl (fun c64 => ?_) (fun c64 => ?_)
          · exact absurd c64 (by decide)
          refine x_aload_n rfl rfl ?_
          refine x_getR (u := .ref _) rfl rfl rfl rfl ?_
          refine x_iload rfl rfl ?_
          refine x_aload_n rfl rfl ?_
          refine x_getE (y := 8) rfl rfl rfl hon' ?_
          refine x_callV (M' := mi106) (As := [_, _]) (bc1 := 0) (bs1 := 0) (bc2 := 0) (bs2 := 0) rfl rfl rfl rfl ok106 rfl rfl (by decide) rfl rfl rfl rfl rfl rfl ?_
          refine s_accordInRow hX.n h6 hr4 (by omega) ?_
          rw [agR_x]
          refine x_iconst rfl ?_
          refine x_icmp_eq rfl (fun c81 => ?_) (fun c81 => ?_)
          · exact absurd ((agI_z (fun c h => agR_lt h)).mp c81) c
          refine x_iload rfl rfl ?_
          refine x_iret rfl rfl ?_
          exact hP V hF hA hB'
set_option maxRecDepth 20000 in
theorem s_walk {wb : Bool} (hA : PaX K dy ext G V) (hW : WF K) (hd4 : dy < 4) (hw : who < 64) (ho : on < 64) (hs : s < 900000) (hS : Stm s V) (hst : V 63 7 = nI (row0 K dy)) (hon : V 63 8 = nI on) (hP : ∀ V' : VIT, FrB V V' → PaX K dy ext G V' → BX (s + 1) (bfX K dy who on wb 4097 0 (bfI K dy)).1 V' → P (some (.int (agI (bfX K dy who on wb 4097 0 (bfI K dy)).2))) (LY ++ ext) V' VL (vr G)) : Ex (d + 5) mi75 0 (entL [.ref 63, .int (nI who), .int (b1 wb)] 8) [] (LY ++ ext) V VL (vr G) 0 0 P := by
  have h6 := hW.n
  have hr4 : row0 K dy < 4096 := Nat.lt_of_lt_of_le (row0_lt hW hd4) (pow4_6 h6)
  obtain ⟨hS1, hS2⟩ := hS
  have e7a : up (up V 63 6 (nI (s + 1))) 63 5 (nI 1) 63 7 = nI (row0 K dy) := (up_at' (by omega)).trans ((up_at' (by omega)).trans hst)
  have e7b : up (up (up V 63 6 (nI (s + 1))) 63 5 (nI 1)) 64 0 (nI (row0 K dy)) 63 7 = nI (row0 K dy) := by rw [up_ne (by omega)]; exact e7a
  have e6b : up (up (up V 63 6 (nI (s + 1))) 63 5 (nI 1)) 64 0 (nI (row0 K dy)) 63 6 = nI (s + 1) := by rw [up_ne (by omega), up_at' (by omega), up_at]
  have hF : FrB V (up (up (up (up V 63 6 (nI (s + 1))) 63 5 (nI 1)) 64 0 (nI (row0 K dy))) 65 (row0 K dy) (nI (s + 1))) := fun a k q1 q2 q3 q4 q5 q6 q7 q8 => by rw [up_ne q7, up_ne q6, up_ne2 (by omega), up_ne2 (by omega)]
  have hB : BX (s + 1) (bfI K dy) (up (up (up (up V 63 6 (nI (s + 1))) 63 5 (nI 1)) 64 0 (nI (row0 K dy))) 65 (row0 K dy) (nI (s + 1))) := by
    refine ⟨?_, ?_, fun i x hx => ?_, fun x hx => ⟨fun hm => ?_, fun hm => ?_⟩, fun i x hi hx => ?_⟩
    · rw [up_ne (by omega), up_ne (by omega), up_at]; rfl
    · rw [up_ne (by omega)]; exact e6b
    · have hl := (List.getElem?_eq_some_iff.mp hx).1
      simp only [bfI, List.length_cons, List.length_nil] at hl
      have e : i = 0 := by omega
      subst e
      have e2 : row0 K dy = x := Option.some.inj hx
      rw [up_ne (by omega), up_at, e2]
    · have e : x = row0 K dy := List.mem_singleton.mp hm
      rw [e]; exact up_at
    · have e : x ≠ row0 K dy := fun z => hm (List.mem_singleton.mpr z)
      obtain ⟨y, y1, y2⟩ := hS2 x hx
      exact ⟨y, by omega, by rw [up_at' e, up_ne (by omega), up_ne (by omega), up_ne (by omega)]; exact y2⟩
    · have hl := (List.getElem?_eq_some_iff.mp hx).1
      simp only [bfI, List.length_cons, List.length_nil] at hl
      omega
  refine x_aload_n rfl rfl ?_
  refine x_dup rfl rfl ?_
  refine x_getE (y := 6) rfl rfl rfl hS1 ?_
  refine x_iconstN (q := 1) rfl ?_
  refine x_iaddN rfl ?_
  refine x_putI rfl rfl rfl rfl ?_
  refine x_aload_n rfl rfl ?_
  refine x_iconstN (q := 1) rfl ?_
  refine x_putI rfl rfl rfl rfl ?_
  refine x_aload_n rfl rfl ?_
  refine x_getR (u := .ref _) rfl rfl rfl rfl ?_
  refine x_iconstN (q := 0) rfl ?_
  refine x_aload_n rfl rfl ?_
  refine x_getE (y := 7) rfl rfl rfl e7a ?_
  refine x_iasN (j := 0) rfl rfl (rfl) (by omega) ?_
  refine x_aload_n rfl rfl ?_
  refine x_getR (u := .ref _) rfl rfl rfl rfl ?_
  refine x_aload_n rfl rfl ?_
  refine x_getE (y := 7) rfl rfl rfl e7b ?_
  refine x_aload_n rfl rfl ?_
  refine x_getE (y := 6) rfl rfl rfl e6b ?_
  refine x_iasN (j := row0 K dy) rfl rfl (rfl) (by omega) ?_
  refine x_iconstN (q := 0) rfl ?_
  refine x_istore_n (ls' := [_, _, _, _, _, _, _, _]) rfl rfl rfl ?_
  exact wk_l (V0 := V) hW hd4 hw ho (by omega) hon hP 4097 0 _ (bfI K dy) _ _ _ _ (by omega) (Nat.zero_le _) hF (hA.set hW (fun a k q => by rw [up_ne (by omega), up_ne (by omega), up_ne2 (by omega), up_ne2 (by omega)])) hB (bfI_ok hW hd4) rfl
abbrev rdK (K : KT) (r : Nat) : Nat := K (51 + r)
abbrev onK (K : KT) (r : Nat) : Nat := K (59 + r) &&& lmK K
set_option maxRecDepth 20000 in
theorem onK_lt (hW : WF K) {r : Nat} (hr : r < K 94) : onK K r < 64 := Nat.lt_of_lt_of_le (and_lt2 hW hr) (pow6 hW.n)
set_option maxRecDepth 20000 in
theorem s_openS {r : Nat} (hX : RW 3 K V) (hW : WF K) (hL : Laws K 13 (LY ++ ext) V (vr G)) (hr : r < K 94) (hP : ∀ V' : VIT, (∀ a k, a ≠ 62 → ¬ (a = 61 ∧ k = 3) → ¬ (a = 63 ∧ (k = 7 ∨ k = 8)) → V' a k = V a k) → PaX K (rdK K r) ext G V' → V' 63 7 = nI (row0 K (rdK K r)) → V' 63 8 = nI (onK K r) → P none (LY ++ ext) V' VL (vr G)) : Ex (d + 3) mi74 0 (entL [.ref 63, .int (nI r)] 2) [] (LY ++ ext) V VL (vr G) 0 0 P := by
  have h6 := hW.n
  have h8 : K 94 ≤ 8 := hW.2.1
  have hd4 : K (51 + r) < 4 := (hW.roll hr).2.1
  refine x_aload_n rfl rfl ?_
  refine x_getR (u := .ref _) rfl rfl rfl rfl ?_
  refine x_iload_n rfl rfl ?_
  refine x_callV (M' := mi96) (As := [_]) (bc1 := 0) (bs1 := 0) (bc2 := 0) (bs2 := 0) rfl rfl rfl rfl ok96 rfl rfl (by decide) rfl rfl rfl rfl rfl rfl ?_
  refine s_hasRollK hX ?_
  rw [hasF_in hr (by omega)]
  refine x_if_eq rfl (fun c8 => ?_) (fun c8 => ?_)
  · exact absurd c8 (by first | decide | omega)
  refine x_aload_n rfl rfl ?_
  refine x_getR (u := .ref _) rfl rfl rfl rfl ?_
  refine x_aload_n rfl rfl ?_
  refine x_getR (u := .ref _) rfl rfl rfl rfl ?_
  refine x_getR (u := .ref _) rfl rfl rfl rfl ?_
  refine x_iload_n rfl rfl ?_
  refine x_ialE (j := r) rfl rfl (rfl) (by omega) (hX.rday hr) ?_
  refine x_callV (M' := mi35) (As := [_]) (bc1 := 0) (bs1 := 0) (bc2 := 0) (bs2 := 0) rfl rfl rfl rfl ok35 rfl rfl (by decide) rfl rfl rfl rfl rfl rfl ?_
  refine s_open (dy := K (51 + r)) hX hW hL (fun V1 hF1 hA1 => ?_)
  have hX1 := hA1.1
  refine x_aload_n rfl rfl ?_
  refine x_aload_n rfl rfl ?_
  refine x_getR (u := .ref _) rfl rfl rfl rfl ?_
  refine x_aload_n rfl rfl ?_
  refine x_getR (u := .ref _) rfl rfl rfl rfl ?_
  refine x_getR (u := .ref _) rfl rfl rfl rfl ?_
  refine x_iload_n rfl rfl ?_
  refine x_ialE (j := r) rfl rfl (rfl) (by omega) (hX1.rday hr) ?_
  refine x_callV (M' := mi105) (As := [_]) (bc1 := 0) (bs1 := 0) (bc2 := 0) (bs2 := 0) rfl rfl rfl rfl ok105 rfl rfl (by decide) rfl rfl rfl rfl rfl rfl ?_
  refine s_rowOf (f := fun p => K (4 * p + K (51 + r))) hX1.n h6 hd4 (fun p hp => ⟨hX1.mark hp hd4, hW.mark hp hd4⟩) ?_
  refine x_putI rfl rfl rfl rfl ?_
  skip
  have hX2 : RW 3 K (up V1 63 7 (nI (row0 K (rdK K r)))) := hX1.same (fun a _ _ => up_ne (by omega))
  refine x_aload_n rfl rfl ?_
  refine x_aload_n rfl rfl ?_
  refine x_getR (u := .ref _) rfl rfl rfl rfl ?_
  refine x_getR (u := .ref _) rfl rfl rfl rfl ?_
  refine x_iload_n rfl rfl ?_
  refine x_ialE (j := r) rfl rfl (rfl) (by omega) (hX2.ron hr) ?_
  refine x_aload_n rfl rfl ?_
  refine x_getR (u := .ref _) rfl rfl rfl rfl ?_
  refine x_getE (y := 1) rfl rfl rfl hX2.lm ?_
  refine x_iandN rfl ?_
  refine x_putI rfl rfl rfl rfl ?_
  refine x_vret rfl rfl ?_
  exact hP _ (fun a k q1 q2 q3 => by rw [up_ne2 (by omega), up_ne2 (by omega)]; exact hF1 a k q1 q2) (hA1.set hW (fun a k q => by rw [up_ne2 (by omega), up_ne2 (by omega)])) ((up_at' (by omega)).trans up_at) up_at
end Walk2
