/-! ===== soonest ===== -/
set_option maxRecDepth 20000 in
theorem pth_0 {cf : Nat → Nat × Nat × Nat} {s : Nat} : ∀ f, pth cf s f s = []
  | 0 => rfl
  | f + 1 => if_pos rfl
set_option maxRecDepth 20000 in
theorem pth_s {cf : Nat → Nat × Nat × Nat} {s f r : Nat} (h : ¬ r = s) : pth cf s (f + 1) r = (10 * (cf r).2.1 + (cf r).2.2) :: pth cf s f (cf r).1 := if_neg h
/-- what soonest answers: i none asks how many -/
def soA (K : KT) (r : Nat) (i : Option Nat) : Int32 := agI ((fA K (onK K r) (BfA K (rdK K r) (lmK K)).1).bind (fun e => i.elim (some (pth (BfA K (rdK K r) (lmK K)).2 (row0 K (rdK K r)) 4096 e).length) (fun k => if k < (pth (BfA K (rdK K r) (lmK K)).2 (row0 K (rdK K r)) 4096 e).length then (pth (BfA K (rdK K r) (lmK K)).2 (row0 K (rdK K r)) 4096 e)[(pth (BfA K (rdK K r) (lmK K)).2 (row0 K (rdK K r)) 4096 e).length - 1 - k]? else none)))
section Soon
variable {d : Nat} {V0 V : VIT} {VL : VLT} {G : VRT} {P : Post} {ext : HL} {K : KT} {dy s : Nat} {st : BSt}
set_option maxRecDepth 20000 in
theorem cf_lt (hW : WF K) (hO : BOK K dy st) {i x : Nat} (hi : 0 < i) (hx : st.1[i]? = some x) : (st.2 x).1 < 4096 ∧ (st.2 x).2.1 < 6 ∧ (st.2 x).2.2 < 6 := by
  have h6 := hW.n
  obtain ⟨i', q1, q2, q3, q4⟩ := hO.2.2.2 i x hi hx
  have := Nat.lt_of_lt_of_le (hO.2.1 _ (List.mem_of_getElem? q2)) (pow4_6 h6)
  exact ⟨this, by omega, by omega⟩
set_option maxRecDepth 20000 in
theorem pos_of (hO : BOK K dy st) {i x : Nat} (hx : st.1[i]? = some x) (h : ¬ x = row0 K dy) : 0 < i := Nat.pos_of_ne_zero (fun e => by subst e; rw [hO.2.2.1] at hx; exact h (Option.some.inj hx).symm)
set_option maxRecDepth 20000 in
theorem xs_cnt {rl iv ed : Int32} (hW : WF K) (hO : BOK K dy st) (hB : BX s st V) (h7 : V 63 7 = nI (row0 K dy)) : ∀ (f j row talks : Nat) (z6 : Value), st.1[j]? = some row → j ≤ f → talks + j ≤ 4095 → (∀ (z5 z6 : Value), Ex (d + 6) mi71 66 [.ref 63, .int rl, .int iv, .int ed, .int (nI (talks + (pth st.2 (row0 K dy) f row).length)), z5, z6] [] (LY ++ ext) V VL (vr G) 0 0 P) → Ex (d + 6) mi71 31 [.ref 63, .int rl, .int iv, .int ed, .int (nI talks), .int (nI row), z6] [] (LY ++ ext) V VL (vr G) 0 0 P := by
  have h6 := hW.n
  have h0l := hO.2.1 _ (List.mem_of_getElem? hO.2.2.1)
  have h0 : row0 K dy < 4096 := Nat.lt_of_lt_of_le h0l (pow4_6 h6)
  intro f
  induction f with
  | zero =>
    intro j row talks z6 hj hf ht hP
    have e : j = 0 := by omega
    subst e
    have er : row0 K dy = row := by
      have h3 := hO.2.2.1
      rw [hj] at h3
      exact (Option.some.inj h3).symm
    subst er
    rw [pth_0] at hP
    refine x_iload rfl rfl ?_
    refine x_aload_n rfl rfl ?_
    refine x_getE (y := 7) rfl rfl rfl h7 ?_
    refine x_icmpN_eq rfl (fun c37 => ?_) (fun c37 => ?_)
    rotate_left
    · exact absurd c37 (by first | decide | omega)
    exact hP _ _ | succ f ih =>
    intro j row talks z6 hj hf ht hP
    have hrow : row < 4096 := Nat.lt_of_lt_of_le (hO.2.1 row (List.mem_of_getElem? hj)) (pow4_6 h6)
    by_cases c : row = row0 K dy
    · subst c
      rw [pth_0] at hP
      refine x_iload rfl rfl ?_
      refine x_aload_n rfl rfl ?_
      refine x_getE (y := 7) rfl rfl rfl h7 ?_
      refine x_icmpN_eq rfl (fun c37 => ?_) (fun c37 => ?_)
      rotate_left
      · exact absurd c37 (by first | decide | omega)
      exact hP _ _
    · have hp := pos_of hO hj c
      obtain ⟨i', q1, q2, q3, q4⟩ := hO.2.2.2 j row hp hj
      obtain ⟨c1, c2, c3⟩ := cf_lt hW hO hp hj
      rw [pth_s c, List.length_cons] at hP
      have ev : ((st.2 row).1 * 64 + (st.2 row).2.1 * 8 + (st.2 row).2.2) / 2 ^ 6 = (st.2 row).1 := by omega
      refine x_iload rfl rfl ?_
      refine x_aload_n rfl rfl ?_
      refine x_getE (y := 7) rfl rfl rfl h7 ?_
      refine x_icmpN_eq rfl (fun c37 => ?_) (fun c37 => ?_)
      · exact absurd c37 (by first | decide | omega)
      refine x_iload rfl rfl ?_
      refine x_sipushN (q := 4096) rfl ?_
      refine x_icmpN_ge rfl (fun c45 => ?_) (fun c45 => ?_)
      · exact absurd c45 (by first | decide | omega)
      refine x_iincN (q := 1) (ls' := [_, _, _, _, _, _, _]) rfl rfl rfl rfl ?_
      refine x_aload_n rfl rfl ?_
      refine x_getR (u := .ref _) rfl rfl rfl rfl ?_
      refine x_iload rfl rfl ?_
      refine x_ialE (j := row) rfl rfl (rfl) (by omega) (hB.2.2.2.2 j row hp hj) ?_
      refine x_bipushN (q := 6) rfl ?_
      refine x_ishrN rfl ?_
      rw [ev]
      refine x_istore (ls' := [_, _, _, _, _, _, _]) rfl rfl rfl ?_
      refine x_goto rfl ?_
      exact ih i' _ (talks + 1) _ q2 (by omega) (by omega) (fun z5 z6 => by have := hP z5 z6; rw [show talks + ((pth st.2 (row0 K dy) f (st.2 row).1).length + 1) = talks + 1 + (pth st.2 (row0 K dy) f (st.2 row).1).length by omega] at this; exact this)
set_option maxRecDepth 20000 in
theorem xs_at {rl ed : Int32} {k tk : Nat} (hk : k < 100000) (hW : WF K) (hO : BOK K dy st) (hB : BX s st V) : ∀ (m f j row ans : Nat), st.1[j]? = some row → (pth st.2 (row0 K dy) f row)[m]? = some ans → k + m < 100000 → P (some (.int (nI ans))) (LY ++ ext) V VL (vr G) → Ex (d + 6) mi71 95 [.ref 63, .int rl, .int (nI k), .int ed, .int (nI tk), .int (nI row), .int (nI (k + m))] [] (LY ++ ext) V VL (vr G) 0 0 P := by
  have h6 := hW.n
  intro m
  induction m with
  | zero =>
    intro f j row ans hj ha hm hP
    have hrow : row < 4096 := Nat.lt_of_lt_of_le (hO.2.1 row (List.mem_of_getElem? hj)) (pow4_6 h6)
    rcases f with _ | f
    · cases ha
    · by_cases c : row = row0 K dy
      · rw [c, pth_0] at ha; cases ha
      · rw [pth_s c] at ha
        have ea : 10 * (st.2 row).2.1 + (st.2 row).2.2 = ans := Option.some.inj ha
        have hp := pos_of hO hj c
        obtain ⟨c1, c2, c3⟩ := cf_lt hW hO hp hj
        have e1 : ((st.2 row).1 * 64 + (st.2 row).2.1 * 8 + (st.2 row).2.2) / 2 ^ 3 % 8 * 10 + ((st.2 row).1 * 64 + (st.2 row).2.1 * 8 + (st.2 row).2.2) % 8 = ans := by omega
        refine x_iload rfl rfl ?_
        refine x_iload_n rfl rfl ?_
        refine x_icmpN_le rfl (fun c98 => ?_) (fun c98 => ?_)
        rotate_left
        · exact absurd c98 (by first | decide | omega)
        refine x_aload_n rfl rfl ?_
        refine x_getR (u := .ref _) rfl rfl rfl rfl ?_
        refine x_iload rfl rfl ?_
        refine x_ialE (j := row) rfl rfl (rfl) (by omega) (hB.2.2.2.2 j row hp hj) ?_
        refine x_iconstN (q := 3) rfl ?_
        refine x_ishrN rfl ?_
        refine x_bipushN (q := 7) rfl ?_
        refine x_iandM7 rfl ?_
        refine x_bipushN (q := 10) rfl ?_
        refine x_imulN rfl ?_
        refine x_aload_n rfl rfl ?_
        refine x_getR (u := .ref _) rfl rfl rfl rfl ?_
        refine x_iload rfl rfl ?_
        refine x_ialE (j := row) rfl rfl (rfl) (by omega) (hB.2.2.2.2 j row hp hj) ?_
        refine x_bipushN (q := 7) rfl ?_
        refine x_iandM7 rfl ?_
        refine x_iaddN rfl ?_
        refine x_iret rfl rfl ?_
        rw [e1]
        exact hP | succ m ih =>
    intro f j row ans hj ha hm hP
    have hrow : row < 4096 := Nat.lt_of_lt_of_le (hO.2.1 row (List.mem_of_getElem? hj)) (pow4_6 h6)
    rcases f with _ | f
    · cases ha
    · by_cases c : row = row0 K dy
      · rw [c, pth_0] at ha; cases ha
      · rw [pth_s c, List.getElem?_cons_succ] at ha
        have hp := pos_of hO hj c
        obtain ⟨c1, c2, c3⟩ := cf_lt hW hO hp hj
        obtain ⟨i', q1, q2, q3, q4⟩ := hO.2.2.2 j row hp hj
        have ev : ((st.2 row).1 * 64 + (st.2 row).2.1 * 8 + (st.2 row).2.2) / 2 ^ 6 = (st.2 row).1 := by omega
        refine x_iload rfl rfl ?_
        refine x_iload_n rfl rfl ?_
        refine x_icmpN_le rfl (fun c98 => ?_) (fun c98 => ?_)
        · exact absurd c98 (by first | decide | omega)
        refine x_aload_n rfl rfl ?_
        refine x_getR (u := .ref _) rfl rfl rfl rfl ?_
        refine x_iload rfl rfl ?_
        refine x_ialE (j := row) rfl rfl (rfl) (by omega) (hB.2.2.2.2 j row hp hj) ?_
        refine x_bipushN (q := 6) rfl ?_
        refine x_ishrN rfl ?_
        rw [ev]
        refine x_istore (ls' := [_, _, _, _, _, _, _]) rfl rfl rfl ?_
        skip
        refine x_iincD (q := k + m) (ls' := [_, _, _, _, _, _, _]) rfl rfl rfl rfl ?_
        refine x_goto rfl ?_
        exact ih f i' _ ans q2 ha (by omega) hP
set_option maxRecDepth 20000 in
theorem x_soon_bad {a b : Int32} (hX : RW 3 K V) (h : hasF (nI (K 94)) a = 0) (hP : P (some (.int (-1))) (LY ++ ext) V VL (vr G)) : Ex (d + 7) mi129 0 (entL [.ref 0, .int a, .int b] 3) [] (LY ++ ext) V VL (vr G) 0 0 P := by
  refine x_aload_n rfl rfl ?_
  refine x_getR (u := .ref _) rfl rfl rfl rfl ?_
  refine x_iload_n rfl rfl ?_
  refine x_callV (M' := mi96) (As := [_]) (bc1 := 0) (bs1 := 0) (bc2 := 0) (bs2 := 0) rfl rfl rfl rfl ok96 rfl rfl (by decide) rfl rfl rfl rfl rfl rfl ?_
  refine s_hasRollK hX ?_
  rw [h]
  refine x_if_eq rfl (fun c8 => ?_) (fun c8 => ?_)
  rotate_left
  · exact absurd rfl c8
  refine x_iconst rfl ?_
  refine x_iret rfl rfl ?_
  exact hP
/-- how a number asks: none how many, some (some k) the k-th, some none nothing -/
def soI (K : KT) (r : Nat) (b : Int32) (x : Int32) : Prop := (b = -1 ∧ x = soA K r none) ∨ (∃ k, b = nI k ∧ k < 2147483648 ∧ x = soA K r (some k)) ∨ (b < -1 ∧ x = -1)
set_option maxRecDepth 20000 in
theorem s_soon {r : Nat} {b x : Int32} (hb : soI K r b x) (hX : RW 3 K V) (hW : WF K) (hL : Laws K 13 (LY ++ ext) V (vr G)) (hr : r < K 94) (hs : s < 900000) (hS : Stm s V) (hP : ∀ V' : VIT, FrD V V' → Stm (s + 1) V' → P (some (.int x)) (LY ++ ext) V' VL (vr G)) : Ex (d + 6) mi71 0 (entL [.ref 63, .int (nI r), .int b] 7) [] (LY ++ ext) V VL (vr G) 0 0 P := by
  have h6 := hW.n
  have hd4 : rdK K r < 4 := (hW.roll hr).2.1
  have ho := onK_lt hW hr
  refine x_aload_n rfl rfl ?_
  refine x_iload_n rfl rfl ?_
  refine x_callV (M' := mi74) (As := [_]) (bc1 := 0) (bs1 := 0) (bc2 := 0) (bs2 := 0) rfl rfl rfl rfl ok74 rfl rfl (by decide) rfl rfl rfl rfl rfl rfl ?_
  refine s_openS hX hW hL hr (fun V1 hF1 hA1 h7 h8 => ?_)
  have hX1 := hA1.1
  have hS1 : Stm s V1 := ⟨(hF1 63 6 (by omega) (by omega) (by omega)).trans hS.1, fun k hk => by rw [show V1 65 k = V 65 k from hF1 65 k (by omega) (by omega) (by omega)]; exact hS.2 k hk⟩
  refine x_aload_n rfl rfl ?_
  refine x_aload_n rfl rfl ?_
  refine x_getR (u := .ref _) rfl rfl rfl rfl ?_
  refine x_getE (y := 1) rfl rfl rfl hX1.lm ?_
  refine x_iconstN (q := 1) rfl ?_
  refine x_callV (M' := mi75) (As := [_, _]) (bc1 := 0) (bs1 := 0) (bc2 := 0) (bs2 := 0) rfl rfl rfl rfl ok75 rfl rfl (by decide) rfl rfl rfl rfl rfl rfl ?_
  refine s_walk (wb := true) (on := onK K r) hA1 hW hd4 hW.lm ho hs hS1 h7 h8 (fun V2 hF2 hA2 hB2 => ?_)
  skip
  obtain ⟨g1, g2, g3, g4⟩ := bfX_t hW (who := lmK K) (on := onK K r) 4097 0 (bfI K (rdK K r)) (by omega) (bfI_ok hW hd4) (fun i x hi => absurd hi (by omega))
  have h7' : V2 63 7 = nI (row0 K (rdK K r)) := (hF2 63 7 (by omega) (by omega) (by omega) (by omega) (by omega) (by omega) (by omega) (by omega)).trans h7
  have hP2 := hP V2 (fun a k q1 q2 q3 q4 q5 q6 q7 q8 q9 => (hF2 a k q1 q2 q3 q5 (by omega) q7 q8 q9).trans (hF1 a k q5 (by omega) (by omega))) hB2.stm
  cases he : (bfX K (rdK K r) (lmK K) (onK K r) true 4097 0 (bfI K (rdK K r))).2 with
  | none =>
    have hx : x = -1 := by
      unfold soI soA at hb
      rw [← g1, he] at hb
      rcases hb with ⟨-, z⟩ | ⟨k, -, -, z⟩ | ⟨-, z⟩
      · exact z
      · exact z
      · exact z
    rw [hx] at hP2
    refine x_istore_n (ls' := [_, _, _, _, _, _, _]) rfl rfl rfl ?_
    refine x_iload_n rfl rfl ?_
    refine x_iconst rfl ?_
    refine x_icmp_ne rfl (fun c20 => ?_) (fun c20 => ?_)
    · exact absurd rfl c20
    refine x_iconst rfl ?_
    refine x_iret rfl rfl ?_
    exact hP2 | some e =>
    have hem := g4 e he
    obtain ⟨j, hj⟩ := List.getElem?_of_mem hem
    have hjl := (List.getElem?_eq_some_iff.mp hj).1
    have hlen := g2.len hW
    have he4 : e < 4096 := Nat.lt_of_lt_of_le (g2.2.1 e hem) (pow4_6 h6)
    have hpe := pth_ext g2 g3 4096 j e hj
    have hpl := pth_len g2 4096 j e hj
    show Ex (d + 6) mi71 17 [.ref 63, .int (nI r), .int b, .retAddr 9, .retAddr 9, .retAddr 9, .retAddr 9] [.int (nI e)] (LY ++ ext) V2 VL (vr G) 0 0 P
    refine x_istore_n (ls' := [_, _, _, _, _, _, _]) rfl rfl rfl ?_
    refine x_iload_n rfl rfl ?_
    refine x_iconst rfl ?_
    refine x_icmp_ne rfl (fun c20 => ?_) (fun c20 => ?_)
    rotate_left
    · exact absurd c20 (nI_m1 (by omega))
    refine x_iconstN (q := 0) rfl ?_
    refine x_istore (ls' := [_, _, _, _, _, _, _]) rfl rfl rfl ?_
    refine x_iload_n rfl rfl ?_
    refine x_istore (ls' := [_, _, _, _, _, _, _]) rfl rfl rfl ?_
    skip
    refine xs_cnt hW g2 hB2 h7' 4096 j e 0 _ hj (by omega) (by omega) (fun z5 z6 => ?_)
    rw [Nat.zero_add]
    unfold soI soA at hb
    rw [← g1, he] at hb
    simp only [Option.bind_some, Option.elim_none, Option.elim_some] at hb
    rw [hpe] at hb
    rcases hb with ⟨rfl, z⟩ | ⟨k, rfl, hk, z⟩ | ⟨hb, z⟩
    · rw [z] at hP2
      refine x_iload_n rfl rfl ?_
      refine x_iconst rfl ?_
      refine x_icmp_ne rfl (fun c68 => ?_) (fun c68 => ?_)
      · exact absurd rfl c68
      refine x_iload rfl rfl ?_
      refine x_iret rfl rfl ?_
      exact hP2
    · have hne : ¬ nI k = -1 := nI_m1 hk
      by_cases c : k < (pth (bfX K (rdK K r) (lmK K) (onK K r) true 4097 0 (bfI K (rdK K r))).1.2 (row0 K (rdK K r)) 4096 e).length
      · rw [if_pos c] at z
        obtain ⟨an, han⟩ : ∃ an, (pth (bfX K (rdK K r) (lmK K) (onK K r) true 4097 0 (bfI K (rdK K r))).1.2 (row0 K (rdK K r)) 4096 e)[(pth (bfX K (rdK K r) (lmK K) (onK K r) true 4097 0 (bfI K (rdK K r))).1.2 (row0 K (rdK K r)) 4096 e).length - 1 - k]? = some an := ⟨_, List.getElem?_eq_getElem (by omega)⟩
        rw [han] at z
        rw [z] at hP2
        refine x_iload_n rfl rfl ?_
        refine x_iconst rfl ?_
        refine x_icmp_ne rfl (fun c68 => ?_) (fun c68 => ?_)
        rotate_left
        · exact absurd c68 hne
        refine x_iload_n rfl rfl ?_
        refine x_ifN_lt rfl ?_
        refine x_iload_n rfl rfl ?_
        refine x_iload rfl rfl ?_
        refine x_icmpN_lt rfl (fun c81 => ?_) (fun c81 => ?_)
        rotate_left
        · exact absurd c81 (by first | decide | omega)
        refine x_iload_n rfl rfl ?_
        refine x_istore (ls' := [_, _, _, _, _, _, _]) rfl rfl rfl ?_
        refine x_iload rfl rfl ?_
        refine x_iconstN (q := 1) rfl ?_
        refine x_isubN rfl ?_
        refine x_istore (ls' := [_, _, _, _, _, _, _]) rfl rfl rfl ?_
        skip
        have hfin := xs_at (P := P) (d := d) (VL := VL) (G := G) (ext := ext) (rl := nI r) (ed := nI e) (k := k) (tk := (pth (bfX K (rdK K r) (lmK K) (onK K r) true 4097 0 (bfI K (rdK K r))).1.2 (row0 K (rdK K r)) 4096 e).length) (by omega) hW g2 hB2 ((pth (bfX K (rdK K r) (lmK K) (onK K r) true 4097 0 (bfI K (rdK K r))).1.2 (row0 K (rdK K r)) 4096 e).length - 1 - k) 4096 j e an hj han (by omega) hP2
        rw [show k + ((pth (bfX K (rdK K r) (lmK K) (onK K r) true 4097 0 (bfI K (rdK K r))).1.2 (row0 K (rdK K r)) 4096 e).length - 1 - k) = (pth (bfX K (rdK K r) (lmK K) (onK K r) true 4097 0 (bfI K (rdK K r))).1.2 (row0 K (rdK K r)) 4096 e).length - 1 by omega] at hfin
        exact hfin
      · rw [if_neg c] at z
        rw [z] at hP2
        refine x_iload_n rfl rfl ?_
        refine x_iconst rfl ?_
        refine x_icmp_ne rfl (fun c68 => ?_) (fun c68 => ?_)
        rotate_left
        · exact absurd c68 hne
        refine x_iload_n rfl rfl ?_
        refine x_ifN_lt rfl ?_
        refine x_iload_n rfl rfl ?_
        refine x_iload rfl rfl ?_
        refine x_icmpN_lt rfl (fun c81 => ?_) (fun c81 => ?_)
        · exact absurd c81 (by first | decide | omega)
        refine x_iconst rfl ?_
        refine x_iret rfl rfl ?_
        exact hP2
    · have hne : ¬ b = -1 := fun z1 => by subst z1; exact absurd hb (by decide)
      have hb0 : b < 0 := by
        rw [Int32.lt_iff_toInt_lt] at hb ⊢
        have e0 : (0 : Int32).toInt = 0 := rfl
        have e1 : (-1 : Int32).toInt = -1 := rfl
        omega
      rw [z] at hP2
      refine x_iload_n rfl rfl ?_
      refine x_iconst rfl ?_
      refine x_icmp_ne rfl (fun c68 => ?_) (fun c68 => ?_)
      rotate_left
      · exact absurd c68 hne
      refine x_iload_n rfl rfl ?_
      refine x_if_lt rfl (fun c75 => ?_) (fun c75 => ?_)
      rotate_left
      · exact absurd hb0 c75
      refine x_iconst rfl ?_
      refine x_iret rfl rfl ?_
      exact hP2
set_option maxRecDepth 20000 in
theorem x_soon {r : Nat} {b x : Int32} (hb : soI K r b x) (hX : RW 3 K V) (hW : WF K) (hL : Laws K 13 (LY ++ ext) V (vr G)) (hr : r < K 94) (hs : s < 900000) (hS : Stm s V) (hP : ∀ V' : VIT, FrD V V' → Stm (s + 1) V' → P (some (.int x)) (LY ++ ext) V' VL (vr G)) : Ex (d + 7) mi129 0 (entL [.ref 0, .int (nI r), .int b] 3) [] (LY ++ ext) V VL (vr G) 0 0 P := by
  have h8 : K 94 ≤ 8 := hW.2.1
  refine x_aload_n rfl rfl ?_
  refine x_getR (u := .ref _) rfl rfl rfl rfl ?_
  refine x_iload_n rfl rfl ?_
  refine x_callV (M' := mi96) (As := [_]) (bc1 := 0) (bs1 := 0) (bc2 := 0) (bs2 := 0) rfl rfl rfl rfl ok96 rfl rfl (by decide) rfl rfl rfl rfl rfl rfl ?_
  refine s_hasRollK hX ?_
  rw [hasF_in hr (by omega)]
  refine x_if_eq rfl (fun c8 => ?_) (fun c8 => ?_)
  · exact absurd c8 (by first | decide | omega)
  refine x_aload_n rfl rfl ?_
  refine x_getR (u := .ref _) rfl rfl rfl rfl ?_
  refine x_iload_n rfl rfl ?_
  refine x_iload_n rfl rfl ?_
  refine x_callV (M' := mi71) (As := [_, _]) (bc1 := 0) (bs1 := 0) (bc2 := 0) (bs2 := 0) rfl rfl rfl rfl ok71 rfl rfl (by decide) rfl rfl rfl rfl rfl rfl ?_
  refine s_soon hb hX hW hL hr hs hS (fun V1 hF hS1 => ?_)
  refine x_goto rfl ?_
  refine x_iret rfl rfl ?_
  exact hP V1 hF hS1
/-! the model -/
set_option maxRecDepth 20000 in
theorem mo_loop {rl iv : Int32} (hW : WF K) (hd4 : dy < 4) (hO : BOK K dy st) : ∀ (f j row n : Nat) (V : VIT) (L : List Nat), st.1[j]? = some row → j ≤ f → n + j ≤ 4095 → L.length = n → BMd K dy st V → (∀ a k, a ≠ 94 → V a k = V0 a k) → (∀ t x, L[t]? = some x → V 94 t = nI x) → (∀ (V' : VIT) (z4 : Value), (∀ a k, a ≠ 94 → V' a k = V0 a k) → (∀ t x, (L ++ pth st.2 (row0 K dy) f row)[t]? = some x → V' 94 t = nI x) → Ex (d + 47) mi251 71 [.ref 74, .int rl, .int iv, .int (nI (L ++ pth st.2 (row0 K dy) f row).length), z4] [] (LY ++ ext) V' VL (vr G) 0 0 P) → Ex (d + 47) mi251 32 [.ref 74, .int rl, .int iv, .int (nI n), .int (nI (row * 4 ^ (6 - K 93)))] [] (LY ++ ext) V VL (vr G) 0 0 P := by
  have h6 := hW.n
  have hr0 := r6_lt h6 (row0_lt hW hd4)
  intro f
  induction f with
  | zero =>
    intro j row n V L hj hf hn hL hB hF h94 hP
    have e : j = 0 := by omega
    subst e
    have er : row0 K dy = row := by
      have h3 := hO.2.2.1
      rw [hj] at h3
      exact (Option.some.inj h3).symm
    subst er
    rw [pth_0, List.append_nil, hL] at hP
    refine x_aload_n rfl rfl ?_
    refine x_getR (u := .ref _) rfl rfl rfl rfl ?_
    refine x_iload rfl rfl ?_
    refine x_ialE (j := row0 K dy * 4 ^ (6 - K 93)) rfl rfl (rfl) (by omega) (hB.2.2.2.1) ?_
    refine x_iconst rfl ?_
    refine x_icmp_eq rfl (fun c40 => ?_) (fun c40 => ?_)
    rotate_left
    · exact absurd rfl c40
    exact hP V _ hF h94 | succ f ih =>
    intro j row n V L hj hf hn hL hB hF h94 hP
    by_cases c : row = row0 K dy
    · subst c
      rw [pth_0, List.append_nil, hL] at hP
      refine x_aload_n rfl rfl ?_
      refine x_getR (u := .ref _) rfl rfl rfl rfl ?_
      refine x_iload rfl rfl ?_
      refine x_ialE (j := row0 K dy * 4 ^ (6 - K 93)) rfl rfl (rfl) (by omega) (hB.2.2.2.1) ?_
      refine x_iconst rfl ?_
      refine x_icmp_eq rfl (fun c40 => ?_) (fun c40 => ?_)
      rotate_left
      · exact absurd rfl c40
      exact hP V _ hF h94
    · have hp := pos_of hO hj c
      obtain ⟨i', q1, q2, q3, q4⟩ := hO.2.2.2 j row hp hj
      have hrow := r6_lt h6 (hO.2.1 row (List.mem_of_getElem? hj))
      have hbl := r6_lt h6 (hO.2.1 _ (List.mem_of_getElem? q2))
      obtain ⟨v1, v2⟩ := hB.2.2.2.2 j row hp hj
      rw [pth_s c, List.append_cons] at hP
      have v1' : up V 94 n (nI (10 * (st.2 row).2.1 + (st.2 row).2.2)) 91 (row * 4 ^ (6 - K 93)) = nI ((st.2 row).1 * 4 ^ (6 - K 93)) := by rw [up_ne (by omega)]; exact v1
      refine x_aload_n rfl rfl ?_
      refine x_getR (u := .ref _) rfl rfl rfl rfl ?_
      refine x_iload rfl rfl ?_
      refine x_ialE (j := row * 4 ^ (6 - K 93)) rfl rfl (rfl) (by omega) (v1) ?_
      refine x_iconst rfl ?_
      refine x_icmp_eq rfl (fun c40 => ?_) (fun c40 => ?_)
      · exact absurd c40 (nI_m1 (by omega))
      refine x_aload_n rfl rfl ?_
      refine x_getR (u := .ref _) rfl rfl rfl rfl ?_
      refine x_iload_n rfl rfl ?_
      refine x_aload_n rfl rfl ?_
      refine x_getR (u := .ref _) rfl rfl rfl rfl ?_
      refine x_iload rfl rfl ?_
      refine x_ialE (j := row * 4 ^ (6 - K 93)) rfl rfl (rfl) (by omega) (v2) ?_
      refine x_iasN (j := n) rfl rfl (rfl) (by omega) ?_
      refine x_aload_n rfl rfl ?_
      refine x_getR (u := .ref _) rfl rfl rfl rfl ?_
      refine x_iload rfl rfl ?_
      refine x_ialE (j := row * 4 ^ (6 - K 93)) rfl rfl (rfl) (by omega) (v1') ?_
      refine x_istore (ls' := [_, _, _, _, _]) rfl rfl rfl ?_
      refine x_iincN (q := 1) (ls' := [_, _, _, _, _]) rfl rfl rfl rfl ?_
      refine x_goto rfl ?_
      skip
      refine ih i' _ (n + 1) _ (L ++ [10 * (st.2 row).2.1 + (st.2 row).2.2]) q2 (by omega) (by omega) (by simp only [List.length_append, List.length_cons, List.length_nil]; omega) ?_ (fun a k q => by rw [up_ne q]; exact hF a k q) (fun t x hx => ?_) hP
      · unfold BMd at hB ⊢
        rw [up_ne (by omega), up_ne (by omega), up_ne (by omega), up_ne (by omega), up_ne (by omega)]
        exact hB
      · by_cases ct : t < L.length
        · rw [List.getElem?_append_left ct] at hx
          rw [up_at' (by omega)]
          exact h94 t x hx
        · have ct2 : t = L.length := by
            have := (List.getElem?_eq_some_iff.mp hx).1
            simp only [List.length_append, List.length_cons, List.length_nil] at this
            omega
          rw [ct2, List.getElem?_append_right (Nat.le_refl _), Nat.sub_self] at hx
          rw [ct2, hL, up_at]
          rw [← Option.some.inj hx]
set_option maxRecDepth 20000 in
theorem m_soon_bad {a b : Int32} (hM : RK (V 76) K) (hW : WF K) (h : hasF (nI (K 94)) a = 0 ∨ b < -1) (hP : P (some (.int (-1))) (LY ++ ext) V VL (vr G)) : Ex (d + 47) mi251 0 (entL [.ref 74, .int a, .int b] 5) [] (LY ++ ext) V VL (vr G) 0 0 P := by
  refine x_aload_n rfl rfl ?_
  refine x_iload_n rfl rfl ?_
  refine x_callV (M' := mi165) (As := [_]) (bc1 := 0) (bs1 := 0) (bc2 := 0) (bs2 := 0) rfl rfl rfl rfl ok165 rfl rfl (by decide) rfl rfl rfl rfl rfl rfl ?_
  refine m_isRollK hM hW ?_
  refine x_if_eq rfl (fun c5 => ?_) (fun c5 => ?_)
  · refine x_iconst rfl ?_
    refine x_iret rfl rfl ?_
    exact hP
  · refine x_iload_n rfl rfl ?_
    refine x_iconst rfl ?_
    refine x_icmp_ge rfl (fun c10 => ?_) (fun c10 => ?_)
    · exact absurd h (fun z => z.elim c5 (fun z => absurd c10 (Int32.not_le.mpr z)))
    · refine x_iconst rfl ?_
      refine x_iret rfl rfl ?_
      exact hP
set_option maxRecDepth 20000 in
theorem m_soon {r : Nat} {b x : Int32} (hb : soI K r b x) (hb2 : ¬ b < -1) (hM : RK (V 76) K) (hW : WF K) (hL : LwK K) (hr : r < K 94) (hP : ∀ V' : VIT, FrE2 V V' → P (some (.int x)) (LY ++ ext) V' VL (vr G)) : Ex (d + 47) mi251 0 (entL [.ref 74, .int (nI r), .int b] 5) [] (LY ++ ext) V VL (vr G) 0 0 P := by
  have h6 := hW.n
  have h8 : K 94 ≤ 8 := hW.2.1
  have hd4 : rdK K r < 4 := (hW.roll hr).2.1
  have hO : BOK K (rdK K r) (BfA K (rdK K r) (lmK K)) := BfA_ok hW hd4
  have hlen : (BfA K (rdK K r) (lmK K)).1.length ≤ 4096 := hO.len hW
  refine x_aload_n rfl rfl ?_
  refine x_iload_n rfl rfl ?_
  refine x_callV (M' := mi165) (As := [_]) (bc1 := 0) (bs1 := 0) (bc2 := 0) (bs2 := 0) rfl rfl rfl rfl ok165 rfl rfl (by decide) rfl rfl rfl rfl rfl rfl ?_
  refine m_isRollK hM hW ?_
  rw [hasF_in hr (by omega)]
  refine x_if_eq rfl (fun c5 => ?_) (fun c5 => ?_)
  · exact absurd c5 (by first | decide | omega)
  refine x_iload_n rfl rfl ?_
  refine x_iconst rfl ?_
  refine x_icmp_ge rfl (fun c10 => ?_) (fun c10 => ?_)
  rotate_left
  · exact absurd (Int32.not_le.mp c10) hb2
  refine x_iconstN (q := 0) rfl ?_
  refine x_istore_n (ls' := [_, _, _, _, _]) rfl rfl rfl ?_
  refine x_aload_n rfl rfl ?_
  refine x_iload_n rfl rfl ?_
  refine x_callV (M' := mi250) (As := [_]) (bc1 := 0) (bs1 := 0) (bc2 := 0) (bs2 := 0) rfl rfl rfl rfl ok250 rfl rfl (by decide) rfl rfl rfl rfl rfl rfl ?_
  refine m_spreadsAll hM hW hL hr (fun V1 hF hB => ?_)
  skip
  cases he : fA K (onK K r) (BfA K (rdK K r) (lmK K)).1 with
  | none =>
    have hx : x = -1 := by
      unfold soI soA at hb
      rw [he] at hb
      rcases hb with ⟨-, z⟩ | ⟨k, -, -, z⟩ | ⟨-, z⟩
      · exact z
      · exact z
      · exact z
    have hP2 := hP V1 hF
    rw [hx] at hP2
    refine x_istore (ls' := [_, _, _, _, _]) rfl rfl rfl ?_
    refine x_iload rfl rfl ?_
    refine x_iconst rfl ?_
    refine x_icmp_ne rfl (fun c27 => ?_) (fun c27 => ?_)
    · exact absurd rfl c27
    refine x_iconst rfl ?_
    refine x_iret rfl rfl ?_
    exact hP2 | some e =>
    have hem := fA_mem _ he
    obtain ⟨j, hj⟩ := List.getElem?_of_mem hem
    have hjl := (List.getElem?_eq_some_iff.mp hj).1
    have he6 := r6_lt h6 (hO.2.1 e hem)
    have hpl : (pth (BfA K (rdK K r) (lmK K)).2 (row0 K (rdK K r)) 4096 e).length ≤ j := pth_len hO 4096 j e hj
    show Ex (d + 47) mi251 22 [.ref 74, .int (nI r), .int b, .int (nI 0), .retAddr 9] [.int (nI (e * 4 ^ (6 - K 93)))] (LY ++ ext) V1 VL (vr G) 0 0 P
    refine x_istore (ls' := [_, _, _, _, _]) rfl rfl rfl ?_
    refine x_iload rfl rfl ?_
    refine x_iconst rfl ?_
    refine x_icmp_ne rfl (fun c27 => ?_) (fun c27 => ?_)
    rotate_left
    · exact absurd c27 (nI_m1 (by omega))
    skip
    refine mo_loop (V0 := V1) hW hd4 hO 4096 j e 0 V1 [] hj (by omega) (by omega) rfl hB (fun _ _ _ => rfl) (fun t x hx => by cases hx) (fun V2 z4 hF2 h94 => ?_)
    rw [List.nil_append] at h94 ⊢
    have hP2 := hP V2 (fun a k q1 q2 q3 q4 q5 q6 q7 q8 => (hF2 a k q7).trans (hF a k q1 q2 q3 q4 q5 q6 q7 q8))
    unfold soI soA at hb
    rw [he] at hb
    simp only [Option.bind_some, Option.elim_none, Option.elim_some] at hb
    rcases hb with ⟨rfl, z⟩ | ⟨k, rfl, hk, z⟩ | ⟨hb, z⟩
    · rw [z] at hP2
      refine x_iload_n rfl rfl ?_
      refine x_iconst rfl ?_
      refine x_icmp_ne rfl (fun c73 => ?_) (fun c73 => ?_)
      · exact absurd rfl c73
      refine x_iload_n rfl rfl ?_
      refine x_goto rfl ?_
      refine x_iret rfl rfl ?_
      exact hP2
    · have hne : ¬ nI k = -1 := nI_m1 hk
      by_cases c : k < (pth (BfA K (rdK K r) (lmK K)).2 (row0 K (rdK K r)) 4096 e).length
      · rw [if_pos c] at z
        obtain ⟨an, han⟩ : ∃ an, (pth (BfA K (rdK K r) (lmK K)).2 (row0 K (rdK K r)) 4096 e)[(pth (BfA K (rdK K r) (lmK K)).2 (row0 K (rdK K r)) 4096 e).length - 1 - k]? = some an := ⟨_, List.getElem?_eq_getElem (by omega)⟩
        rw [han] at z
        rw [z] at hP2
        refine x_iload_n rfl rfl ?_
        refine x_iconst rfl ?_
        refine x_icmp_ne rfl (fun c73 => ?_) (fun c73 => ?_)
        rotate_left
        · exact absurd c73 hne
        refine x_iload_n rfl rfl ?_
        refine x_iload_n rfl rfl ?_
        refine x_icmpN_ge rfl (fun c82 => ?_) (fun c82 => ?_)
        · exact absurd c82 (by first | decide | omega)
        refine x_aload_n rfl rfl ?_
        refine x_getR (u := .ref _) rfl rfl rfl rfl ?_
        refine x_iload_n rfl rfl ?_
        refine x_iconstN (q := 1) rfl ?_
        refine x_isubN rfl ?_
        refine x_iload_n rfl rfl ?_
        refine x_isubN rfl ?_
        refine x_ialE (j := (pth (BfA K (rdK K r) (lmK K)).2 (row0 K (rdK K r)) 4096 e).length - 1 - k) rfl rfl (rfl) (by omega) (h94 _ an han) ?_
        refine x_goto rfl ?_
        refine x_iret rfl rfl ?_
        exact hP2
      · rw [if_neg c] at z
        rw [z] at hP2
        refine x_iload_n rfl rfl ?_
        refine x_iconst rfl ?_
        refine x_icmp_ne rfl (fun c73 => ?_) (fun c73 => ?_)
        rotate_left
        · exact absurd c73 hne
        refine x_iload_n rfl rfl ?_
        refine x_iload_n rfl rfl ?_
        refine x_icmpN_ge rfl (fun c82 => ?_) (fun c82 => ?_)
        rotate_left
        · exact absurd c82 (by first | decide | omega)
        refine x_iconst rfl ?_
        refine x_iret rfl rfl ?_
        exact hP2
    · exact absurd hb hb2
end Soon
section Join19
variable {j : Nat} {lay : HL} {VI : VIT} {VL : VLT} {VR : VRT}
set_option maxRecDepth 20000 in
theorem soI_ex {K : KT} {r : Nat} {b : Int32} : ∃ x, soI K r b x := by
  by_cases b1_ : b = -1
  · exact ⟨_, Or.inl ⟨b1_, rfl⟩⟩
  by_cases b0 : b < 0
  · refine ⟨-1, Or.inr (Or.inr ⟨?_, rfl⟩)⟩
    rw [Int32.lt_iff_toInt_lt] at b0 ⊢
    have e0 : (0 : Int32).toInt = 0 := rfl
    have e1 : (-1 : Int32).toInt = -1 := rfl
    have : b.toInt ≠ -1 := fun z => b1_ (Int32.toInt_inj.mp (z.trans e1.symm))
    omega
  · obtain ⟨k, rfl, hk⟩ := nI_back b0
    exact ⟨_, Or.inr (Or.inl ⟨k, rfl, by have := (nI k).toInt_lt; omega, rfl⟩)⟩
set_option maxRecDepth 20000 in
theorem j_soonest {a b : Int32} (hj : j ≤ 1000) (h : Inv j lay VI VL VR) : Pr 100 mi129 mi251 [.int a, .int b] lay VI VL VR (Inv (j + 1)) := by
  obtain ⟨ext, G, K, tn, T, u, US, lg, rfl, rfl, hS⟩ := h
  have hI := hS.next.inv (VL := VL)
  have hW := hS.1
  have hX := hS.2.1
  have hM := hS.2.2.1
  have hL := hS.2.2.2.2.2.2.2.2.2.1
  have h8 : K 94 ≤ 8 := hW.2.1
  obtain ⟨s, s1, s2, s3⟩ := hS.2.2.2.2.2.2.2.1
  rcases has_cases (n := K 94) (by omega) a with h1 | ⟨r, hr, rfl⟩
  · exact Pr_read (-1) (fun P q => x_soon_bad hX h1 q) (fun P q => m_soon_bad hM hW (Or.inl h1) q) hI
  · obtain ⟨x, hx⟩ := soI_ex (K := K) (r := r) (b := b)
    refine ExS.budget (bc := 0) (bs := 0) (x_soon hx hX hW hL hr (s := s) (by omega) ⟨s2, s3⟩ (fun V1 hF hS1 => ⟨_, ext, rfl, rfl, ?_⟩)) (by omega) (by omega)
    have hM1 : RK (V1 76) K := by rw [show V1 76 = VI 76 from funext (fun k => hF 76 k (by omega) (by omega) (by omega) (by omega) (by omega) (by omega) (by omega) (by omega) (by omega))]; exact hM
    by_cases hb : b < -1
    · have ex : x = -1 := by
        rcases hx with ⟨z, -⟩ | ⟨k, z, hk, -⟩ | ⟨-, z⟩
        · subst z; exact absurd hb (by decide)
        · subst z
          rw [Int32.lt_iff_toInt_lt, nI_toInt hk, show ((-1 : Int32)).toInt = -1 from rfl] at hb
          omega
        · exact z
      subst ex
      exact m_soon_bad hM1 hW (Or.inr hb) ⟨rfl, (hS.srch hF s1 (n := 1) (by omega) hS1 (fun _ _ _ _ _ _ _ _ _ _ => rfl)).inv⟩
    · exact m_soon hx hb hM1 hW hL.K hr (fun V2 hE => ⟨rfl, (hS.srch hF s1 (n := 1) (by omega) hS1 hE).inv⟩)
end Join19
