/-! ===== were ===== -/
def rwF (K : KT) (dy : Nat) : Nat → Nat → List Nat
  | 0, _ => []
  | m + 1, r => if okR K dy r = true then r :: rwF K dy m (r + 1) else rwF K dy m (r + 1)
abbrev RwA (K : KT) (dy : Nat) : List Nat := rwF K dy (4 ^ K 93) 0
set_option maxRecDepth 20000 in
theorem rwF_lt {K : KT} {dy : Nat} : ∀ (m r x : Nat), x ∈ rwF K dy m r → x < r + m
  | 0, r, x, h => by cases h
  | m + 1, r, x, h => by
    have ih := rwF_lt (K := K) (dy := dy) m (r + 1) x
    unfold rwF at h
    split at h
    · rcases List.mem_cons.mp h with e | e
      · omega
      · have := ih e; omega
    · have := ih h; omega
set_option maxRecDepth 20000 in
theorem rwF_len {K : KT} {dy : Nat} : ∀ (m r : Nat), (rwF K dy m r).length ≤ m
  | 0, r => Nat.le_refl _
  | m + 1, r => by
    have ih := rwF_len (K := K) (dy := dy) m (r + 1)
    unfold rwF
    split
    · simp only [List.length_cons]; omega
    · omega
set_option maxRecDepth 20000 in
theorem RwA_lt {K : KT} {dy x : Nat} (h : x ∈ RwA K dy) : x < 4 ^ K 93 := by
  have := rwF_lt _ _ _ h
  omega
set_option maxRecDepth 20000 in
theorem RwA_len {K : KT} (hW : WF K) {dy : Nat} : (RwA K dy).length ≤ 4096 := Nat.le_trans (rwF_len _ _) (pow4_6 hW.n)
def FndL (V : VIT) (L : List Nat) : Prop := V 67 4 = nI L.length ∧ ∀ i x, L[i]? = some x → V 68 i = nI x
def FrW (V0 V : VIT) : Prop := ∀ a k, a ≠ 2 → a ≠ 43 → a ≠ 44 → a ≠ 61 → a ≠ 62 → a ≠ 67 → a ≠ 68 → a ≠ 69 → V a k = V0 a k
set_option maxRecDepth 20000 in
theorem FrW.kp {V V1 : VIT} (h : FrW V V1) (a k : Nat) (hk : kpP a k) : V1 a k = V a k := by
  unfold kpP at hk
  exact h a k (by omega) (by omega) (by omega) (by omega) (by omega) (by omega) (by omega) (by omega)
set_option maxRecDepth 20000 in
theorem FrQ.W {V0 V V1 : VIT} (h : FrW V0 V) (h1 : FrQ V V1) : FrW V0 V1 := fun a k q1 q2 q3 q4 q5 q6 q7 q8 => (h1 a k q1 q2 q3 q5).trans (h a k q1 q2 q3 q4 q5 q6 q7 q8)
section Gather
variable {d : Nat} {V0 V : VIT} {VL : VLT} {G : VRT} {P : Post} {ext : HL} {K : KT} {dy : Nat}
set_option maxRecDepth 20000 in
theorem g_loop (hW : WF K) (hd4 : dy < 4) (hP : ∀ V' : VIT, FrW V0 V' → RW 3 K V' → FndL V' (RwA K dy) → P none (LY ++ ext) V' VL (vr G)) : ∀ (m r : Nat) (V : VIT) (L : List Nat), r + m = 4 ^ K 93 → FrW V0 V → PaX K dy ext G V → FndL V L → L.length ≤ r → L ++ rwF K dy m r = RwA K dy → Ex (d + 6) mi64 50 [.ref 67, .int (nI dy), .int (nI (row0 K dy)), .int (nI (FxK K dy)), .int (nI (4 ^ K 93)), .int (nI r)] [] (LY ++ ext) V VL (vr G) 0 0 P := by
  have h6 := hW.n
  have h4 := pow4_6 h6
  have h0 := row0_lt hW hd4
  have hFx : FxK K dy < 4096 := Nat.lt_of_le_of_lt fxK_le (by have := pow2n h6; have : 1 ≤ 2 ^ (2 * K 93) := Nat.one_le_two_pow; omega)
  intro m
  induction m with
  | zero =>
    intro r V L hr hF hA hL hlen he
    have e : r = 4 ^ K 93 := by omega
    rw [show rwF K dy 0 r = [] from rfl, List.append_nil] at he
    rw [he] at hL
    refine x_iload rfl rfl ?_
    refine x_iload rfl rfl ?_
    refine x_icmpN_ge rfl (fun c54 => ?_) (fun c54 => ?_)
    rotate_left
    · exact absurd c54 (by first | decide | omega)
    refine x_vret rfl rfl ?_
    exact hP V hF hA.1 hL | succ m ih =>
    intro r V L hr hF hA hL hlen he
    have hrl : r < 4 ^ K 93 := by omega
    have htl := tbK_lt hW (dy := dy) (K 95) 0 r (by omega) hrl
    have hxl : (r ^^^ row0 K dy) &&& FxK K dy < 4096 := Nat.lt_of_le_of_lt Nat.and_le_right hFx
    cases ho : okR K dy r with
    | true =>
      have epre : (r ^^^ row0 K dy) &&& FxK K dy = 0 := FxK_pre hW hrl ho
      have etb : tbK K dy (K 95) 0 r = row0 K dy := beq_iff_eq.mp ho
      have er : rwF K dy (m + 1) r = r :: rwF K dy m (r + 1) := if_pos ho
      refine x_iload rfl rfl ?_
      refine x_iload rfl rfl ?_
      refine x_icmpN_ge rfl (fun c54 => ?_) (fun c54 => ?_)
      · exact absurd c54 (by first | decide | omega)
      refine x_iload rfl rfl ?_
      refine x_iload_n rfl rfl ?_
      refine x_ixorN rfl ?_
      refine x_iload_n rfl rfl ?_
      refine x_iandN rfl ?_
      refine x_ifN_ne rfl (fun c63 => ?_) (fun c63 => ?_)
      · exact absurd c63 (by first | decide | omega)
      refine x_aload_n rfl rfl ?_
      refine x_iload rfl rfl ?_
      refine x_iload_n rfl rfl ?_
      refine x_callV (M' := mi69) (As := [_, _]) (bc1 := 0) (bs1 := 0) (bc2 := 0) (bs2 := 0) rfl rfl rfl rfl ok69 rfl rfl (by decide) rfl rfl rfl rfl rfl rfl ?_
      refine s_rowBehindTold hA hW hd4 hrl (fun V1 hF1 hA1 => ?_)
      refine x_iload_n rfl rfl ?_
      refine x_icmpN_ne rfl (fun c74 => ?_) (fun c74 => ?_)
      · exact absurd c74 (by first | decide | omega)
      skip
      have hF' : FrW V0 V1 := FrQ.W hF hF1
      have hc : V1 67 4 = nI L.length := by rw [hF1.row 67 (by omega) (by omega) (by omega) (by omega)]; exact hL.1
      have hf : ∀ i x, L[i]? = some x → V1 68 i = nI x := by rw [hF1.row 68 (by omega) (by omega) (by omega) (by omega)]; exact hL.2
      refine x_aload_n rfl rfl ?_
      refine x_getR (u := .ref _) rfl rfl rfl rfl ?_
      refine x_aload_n rfl rfl ?_
      refine x_getE (y := 4) rfl rfl rfl hc ?_
      refine x_iload rfl rfl ?_
      refine x_iasN (j := L.length) rfl rfl (rfl) (by omega) ?_
      refine x_aload_n rfl rfl ?_
      refine x_dup rfl rfl ?_
      refine x_getE (y := 4) rfl rfl rfl ((up_ne2 (by omega)).trans hc) ?_
      refine x_iconstN (q := 1) rfl ?_
      refine x_iaddN rfl ?_
      refine x_putI rfl rfl rfl rfl ?_
      refine x_iincN (q := 1) (ls' := [_, _, _, _, _, _]) rfl rfl rfl rfl ?_
      refine x_goto rfl ?_
      skip
      refine ih (r + 1) _ (L ++ [r]) (by omega) (fun a k q1 q2 q3 q4 q5 q6 q7 q8 => by rw [up_ne q6, up_ne q7]; exact hF' a k q1 q2 q3 q4 q5 q6 q7 q8) (hA1.set hW (fun a k q => by rw [up_ne (by omega), up_ne (by omega)])) ⟨?_, fun i x hx => ?_⟩ (by simp only [List.length_append, List.length_cons, List.length_nil]; omega) (by rw [List.append_assoc, List.singleton_append, ← er]; exact he)
      · rw [up_at]; simp
      · rw [up_ne (by omega)]
        by_cases c : i < L.length
        · rw [List.getElem?_append_left c] at hx
          rw [up_at' (by omega)]
          exact hf i x hx
        · have c2 : i = L.length := by
            have := (List.getElem?_eq_some_iff.mp hx).1
            simp only [List.length_append, List.length_cons, List.length_nil] at this
            omega
          subst c2
          rw [List.getElem?_append_right (Nat.le_refl _), Nat.sub_self] at hx
          rw [up_at, ← Option.some.inj hx]
    | false =>
      have etb : ¬ tbK K dy (K 95) 0 r = row0 K dy := beq_eq_false_iff_ne.mp ho
      have er : rwF K dy (m + 1) r = rwF K dy m (r + 1) := if_neg (by rw [ho]; decide)
      rw [er] at he
      refine x_iload rfl rfl ?_
      refine x_iload rfl rfl ?_
      refine x_icmpN_ge rfl (fun c54 => ?_) (fun c54 => ?_)
      · exact absurd c54 (by first | decide | omega)
      refine x_iload rfl rfl ?_
      refine x_iload_n rfl rfl ?_
      refine x_ixorN rfl ?_
      refine x_iload_n rfl rfl ?_
      refine x_iandN rfl ?_
      refine x_ifN_ne rfl (fun c63 => ?_) (fun c63 => ?_)
      · refine x_iincN (q := 1) (ls' := [_, _, _, _, _, _]) rfl rfl rfl rfl ?_
        refine x_goto rfl ?_
        exact ih (r + 1) V L (by omega) hF hA hL (by omega) he
      · refine x_aload_n rfl rfl ?_
        refine x_iload rfl rfl ?_
        refine x_iload_n rfl rfl ?_
        refine x_callV (M' := mi69) (As := [_, _]) (bc1 := 0) (bs1 := 0) (bc2 := 0) (bs2 := 0) rfl rfl rfl rfl ok69 rfl rfl (by decide) rfl rfl rfl rfl rfl rfl ?_
        refine s_rowBehindTold hA hW hd4 hrl (fun V1 hF1 hA1 => ?_)
        refine x_iload_n rfl rfl ?_
        refine x_icmpN_ne rfl (fun c74 => ?_) (fun c74 => ?_)
        rotate_left
        · exact absurd c74 (by first | decide | omega)
        refine x_iincN (q := 1) (ls' := [_, _, _, _, _, _]) rfl rfl rfl rfl ?_
        refine x_goto rfl ?_
        exact ih (r + 1) V1 L (by omega) (FrQ.W hF hF1) hA1 ⟨by rw [hF1.row 67 (by omega) (by omega) (by omega) (by omega)]; exact hL.1, by rw [hF1.row 68 (by omega) (by omega) (by omega) (by omega)]; exact hL.2⟩ (by omega) he
set_option maxRecDepth 20000 in
theorem min_n {a b : Nat} (ha : a < 2147483648) (hb : b < 2147483648) (h : a ≤ b) : (if nI b < nI a then nI b else nI a) = nI a := if_neg (fun z => by
  rw [Int32.lt_iff_toInt_lt, nI_toInt hb, nI_toInt ha] at z
  omega)
set_option maxRecDepth 20000 in
theorem s_gather (hX : RW 3 K V) (hW : WF K) (hL : Laws K 13 (LY ++ ext) V (vr G)) (hd4 : dy < 4) (hP : ∀ V' : VIT, FrW V V' → RW 3 K V' → FndL V' (RwA K dy) → P none (LY ++ ext) V' VL (vr G)) : Ex (d + 6) mi64 0 (entL [.ref 67, .int (nI dy)] 6) [] (LY ++ ext) V VL (vr G) 0 0 P := by
  have h6 := hW.n
  have h4 := pow4_6 h6
  have hp := pow2n h6
  have e1 : 1 * 2 ^ (2 * K 93) = 4 ^ K 93 := by rw [Nat.one_mul, ← pow4_2]
  refine x_aload_n rfl rfl ?_
  refine x_getR (u := .ref _) rfl rfl rfl rfl ?_
  refine x_iload_n rfl rfl ?_
  refine x_callV (M' := mi35) (As := [_]) (bc1 := 0) (bs1 := 0) (bc2 := 0) (bs2 := 0) rfl rfl rfl rfl ok35 rfl rfl (by decide) rfl rfl rfl rfl rfl rfl ?_
  refine s_open (dy := dy) hX hW hL (fun V1 hF1 hA1 => ?_)
  have hA2 : PaX K dy ext G (up V1 67 4 (nI 0)) := hA1.set hW (fun a k q => up_ne2 (by omega))
  refine x_aload_n rfl rfl ?_
  refine x_iconstN (q := 0) rfl ?_
  refine x_putI rfl rfl rfl rfl ?_
  refine x_aload_n rfl rfl ?_
  refine x_getR (u := .ref _) rfl rfl rfl rfl ?_
  refine x_iload_n rfl rfl ?_
  refine x_callV (M' := mi105) (As := [_]) (bc1 := 0) (bs1 := 0) (bc2 := 0) (bs2 := 0) rfl rfl rfl rfl ok105 rfl rfl (by decide) rfl rfl rfl rfl rfl rfl ?_
  refine s_rowOf (f := fun p => K (4 * p + dy)) hA2.1.n h6 hd4 (fun p hp => ⟨hA2.1.mark hp hd4, hW.mark hp hd4⟩) ?_
  refine x_istore_n (ls' := [_, _, _, _, _, _]) rfl rfl rfl ?_
  refine x_aload_n rfl rfl ?_
  refine x_iload_n rfl rfl ?_
  refine x_callV (M' := mi68) (As := [_]) (bc1 := 0) (bs1 := 0) (bc2 := 0) (bs2 := 0) rfl rfl rfl rfl ok68 rfl rfl (by decide) rfl rfl rfl rfl rfl rfl ?_
  refine s_digitsOfSilent hA2.1 hW hd4 ?_
  refine x_istore_n (ls' := [_, _, _, _, _, _]) rfl rfl rfl ?_
  refine x_iconstN (q := 1) rfl ?_
  refine x_iconstN (q := 2) rfl ?_
  refine x_aload_n rfl rfl ?_
  refine x_getR (u := .ref _) rfl rfl rfl rfl ?_
  refine x_getE (y := 0) rfl rfl rfl (hA2.1.n) ?_
  refine x_imulN rfl ?_
  refine x_ishlN rfl ?_
  refine x_sipushN (q := 4096) rfl ?_
  refine x_min rfl rfl ?_
  rw [e1, min_n (by omega) (by omega) h4]
  refine x_istore (ls' := [_, _, _, _, _, _]) rfl rfl rfl ?_
  refine x_iconstN (q := 0) rfl ?_
  refine x_istore (ls' := [_, _, _, _, _, _]) rfl rfl rfl ?_
  exact g_loop hW hd4 hP (4 ^ K 93) 0 _ [] (by omega) (fun a k q1 q2 q3 q4 q5 q6 q7 q8 => by rw [up_ne q6]; exact hF1 a k q5 (by omega)) hA2 ⟨up_at, fun i x hx => by simp at hx⟩ (Nat.le_refl _) (List.nil_append _)
set_option maxRecDepth 20000 in
theorem s_mi_out {i w : Int32} {L : List Nat} (hX : RW 3 K V) (hW : WF K) (hL : FndL V L) (hl : L.length ≤ 4096) (h : i < 0 ∨ nI L.length ≤ i) (hP : P (some (.int (-1))) (LY ++ ext) V VL (vr G)) : Ex (d + 2) mi65 0 (entL [.ref 67, .int i, .int w] 3) [] (LY ++ ext) V VL (vr G) 0 0 P := by
  refine x_iload_n rfl rfl ?_
  refine x_if_lt rfl (fun c1 => ?_) (fun c1 => ?_)
  · refine x_iconst rfl ?_
    refine x_iret rfl rfl ?_
    exact hP
  · refine x_iload_n rfl rfl ?_
    refine x_aload_n rfl rfl ?_
    refine x_getE (y := 4) rfl rfl rfl hL.1 ?_
    refine x_icmp_ge rfl (fun c9 => ?_) (fun c9 => ?_)
    · refine x_iconst rfl ?_
      refine x_iret rfl rfl ?_
      exact hP
    · exact absurd h (fun z => z.elim c1 (fun z => c9 z))
set_option maxRecDepth 20000 in
theorem s_mi_bad {i x : Nat} {w : Int32} {L : List Nat} (hX : RW 3 K V) (hW : WF K) (hL : FndL V L) (hl : L.length ≤ 4096) (hi : L[i]? = some x) (hw : hasF (nI (K 93)) w = 0) (hP : P (some (.int (-1))) (LY ++ ext) V VL (vr G)) : Ex (d + 2) mi65 0 (entL [.ref 67, .int (nI i), .int w] 3) [] (LY ++ ext) V VL (vr G) 0 0 P := by
  have hil := (List.getElem?_eq_some_iff.mp hi).1
  refine x_iload_n rfl rfl ?_
  refine x_ifN_lt rfl ?_
  refine x_iload_n rfl rfl ?_
  refine x_aload_n rfl rfl ?_
  refine x_getE (y := 4) rfl rfl rfl hL.1 ?_
  refine x_icmpN_ge rfl (fun c9 => ?_) (fun c9 => ?_)
  · exact absurd c9 (by first | decide | omega)
  refine x_aload_n rfl rfl ?_
  refine x_getR (u := .ref _) rfl rfl rfl rfl ?_
  refine x_aload_n rfl rfl ?_
  refine x_getR (u := .ref _) rfl rfl rfl rfl ?_
  refine x_iload_n rfl rfl ?_
  refine x_ialE (j := i) rfl rfl (rfl) (by omega) (hL.2 i x hi) ?_
  refine x_iload_n rfl rfl ?_
  refine x_callV (M' := mi104) (As := [_, _]) (bc1 := 0) (bs1 := 0) (bc2 := 0) (bs2 := 0) rfl rfl rfl rfl ok104 rfl rfl (by decide) rfl rfl rfl rfl rfl rfl ?_
  refine s_markInRow_out (by rw [hX.n]; exact hw) ?_
  refine x_goto rfl ?_
  refine x_iret rfl rfl ?_
  exact hP
set_option maxRecDepth 20000 in
theorem s_mi_in {i x p : Nat} {L : List Nat} (hX : RW 3 K V) (hW : WF K) (hL : FndL V L) (hl : L.length ≤ 4096) (hi : L[i]? = some x) (hx : x < 4096) (hp : p < K 93) (hP : P (some (.int (nI (dg (K 93) x p)))) (LY ++ ext) V VL (vr G)) : Ex (d + 2) mi65 0 (entL [.ref 67, .int (nI i), .int (nI p)] 3) [] (LY ++ ext) V VL (vr G) 0 0 P := by
  have hil := (List.getElem?_eq_some_iff.mp hi).1
  refine x_iload_n rfl rfl ?_
  refine x_ifN_lt rfl ?_
  refine x_iload_n rfl rfl ?_
  refine x_aload_n rfl rfl ?_
  refine x_getE (y := 4) rfl rfl rfl hL.1 ?_
  refine x_icmpN_ge rfl (fun c9 => ?_) (fun c9 => ?_)
  · exact absurd c9 (by first | decide | omega)
  refine x_aload_n rfl rfl ?_
  refine x_getR (u := .ref _) rfl rfl rfl rfl ?_
  refine x_aload_n rfl rfl ?_
  refine x_getR (u := .ref _) rfl rfl rfl rfl ?_
  refine x_iload_n rfl rfl ?_
  refine x_ialE (j := i) rfl rfl (rfl) (by omega) (hL.2 i x hi) ?_
  refine x_iload_n rfl rfl ?_
  refine x_callV (M' := mi104) (As := [_, _]) (bc1 := 0) (bs1 := 0) (bc2 := 0) (bs2 := 0) rfl rfl rfl rfl ok104 rfl rfl (by decide) rfl rfl rfl rfl rfl rfl ?_
  refine s_markInRow_in hX.n hp hW.n hx ?_
  refine x_goto rfl ?_
  refine x_iret rfl rfl ?_
  exact hP
set_option maxRecDepth 20000 in
theorem x_were_bad {c i w : Int32} (h : hasF 4 c = 0) (hP : P (some (.int (-1))) (LY ++ ext) V VL (vr G)) : Ex (d + 7) mi135 0 (entL [.ref 0, .int c, .int i, .int w] 4) [] (LY ++ ext) V VL (vr G) 0 0 P := by
  refine x_iload_n rfl rfl ?_
  refine x_callS (M' := mi150) (As := [_]) (bc1 := 0) (bs1 := 0) (bc2 := 0) (bs2 := 0) rfl rfl rfl rfl ok150 rfl rfl rfl rfl rfl rfl ?_
  refine s_isDay ?_
  refine x_if_ne rfl (fun c4 => ?_) (fun c4 => ?_)
  · exact absurd h c4
  refine x_iconst rfl ?_
  refine x_iret rfl rfl ?_
  exact hP
set_option maxRecDepth 20000 in
theorem x_were_n {w : Int32} (hX : RW 3 K V) (hW : WF K) (hL : Laws K 13 (LY ++ ext) V (vr G)) (hd4 : dy < 4) (hP : ∀ V' : VIT, FrW V V' → P (some (.int (nI (RwA K dy).length))) (LY ++ ext) V' VL (vr G)) : Ex (d + 7) mi135 0 (entL [.ref 0, .int (nI dy), .int (-1), .int w] 4) [] (LY ++ ext) V VL (vr G) 0 0 P := by
  refine x_iload_n rfl rfl ?_
  refine x_callS (M' := mi150) (As := [_]) (bc1 := 0) (bs1 := 0) (bc2 := 0) (bs2 := 0) rfl rfl rfl rfl ok150 rfl rfl rfl rfl rfl rfl ?_
  refine s_isDay_in hd4 ?_
  refine x_if_ne rfl (fun c4 => ?_) (fun c4 => ?_)
  rotate_left
  · exact absurd c4 (by first | decide | omega)
  refine x_aload_n rfl rfl ?_
  refine x_getR (u := .ref _) rfl rfl rfl rfl ?_
  refine x_iload_n rfl rfl ?_
  refine x_callV (M' := mi64) (As := [_]) (bc1 := 0) (bs1 := 0) (bc2 := 0) (bs2 := 0) rfl rfl rfl rfl ok64 rfl rfl (by decide) rfl rfl rfl rfl rfl rfl ?_
  refine s_gather hX hW hL hd4 (fun V1 hF hX1 hL1 => ?_)
  refine x_iload_n rfl rfl ?_
  refine x_iconst rfl ?_
  refine x_icmp_ne rfl (fun c19 => ?_) (fun c19 => ?_)
  · exact absurd rfl c19
  refine x_aload_n rfl rfl ?_
  refine x_getR (u := .ref _) rfl rfl rfl rfl ?_
  refine x_getE (y := 4) rfl rfl rfl hL1.1 ?_
  refine x_goto rfl ?_
  refine x_iret rfl rfl ?_
  exact hP V1 hF
set_option maxRecDepth 20000 in
theorem x_were_i {i w a : Int32} (hi : ¬ i = -1) (hX : RW 3 K V) (hW : WF K) (hL : Laws K 13 (LY ++ ext) V (vr G)) (hd4 : dy < 4) (h : ∀ (V' : VIT) (P' : Post), RW 3 K V' → FndL V' (RwA K dy) → P' (some (.int a)) (LY ++ ext) V' VL (vr G) → Ex (d + 2) mi65 0 (entL [.ref 67, .int i, .int w] 3) [] (LY ++ ext) V' VL (vr G) 0 0 P') (hP : ∀ V' : VIT, FrW V V' → P (some (.int a)) (LY ++ ext) V' VL (vr G)) : Ex (d + 7) mi135 0 (entL [.ref 0, .int (nI dy), .int i, .int w] 4) [] (LY ++ ext) V VL (vr G) 0 0 P := by
  refine x_iload_n rfl rfl ?_
  refine x_callS (M' := mi150) (As := [_]) (bc1 := 0) (bs1 := 0) (bc2 := 0) (bs2 := 0) rfl rfl rfl rfl ok150 rfl rfl rfl rfl rfl rfl ?_
  refine s_isDay_in hd4 ?_
  refine x_if_ne rfl (fun c4 => ?_) (fun c4 => ?_)
  rotate_left
  · exact absurd c4 (by first | decide | omega)
  refine x_aload_n rfl rfl ?_
  refine x_getR (u := .ref _) rfl rfl rfl rfl ?_
  refine x_iload_n rfl rfl ?_
  refine x_callV (M' := mi64) (As := [_]) (bc1 := 0) (bs1 := 0) (bc2 := 0) (bs2 := 0) rfl rfl rfl rfl ok64 rfl rfl (by decide) rfl rfl rfl rfl rfl rfl ?_
  refine s_gather hX hW hL hd4 (fun V1 hF hX1 hL1 => ?_)
  refine x_iload_n rfl rfl ?_
  refine x_iconst rfl ?_
  refine x_icmp_ne rfl (fun c19 => ?_) (fun c19 => ?_)
  rotate_left
  · exact absurd c19 hi
  refine x_aload_n rfl rfl ?_
  refine x_getR (u := .ref _) rfl rfl rfl rfl ?_
  refine x_iload_n rfl rfl ?_
  refine x_iload_n rfl rfl ?_
  refine x_callV (M' := mi65) (As := [_, _]) (bc1 := 0) (bs1 := 0) (bc2 := 0) (bs2 := 0) rfl rfl rfl rfl ok65 rfl rfl (by decide) rfl rfl rfl rfl rfl rfl ?_
  refine (h V1 _ hX1 hL1 ?_).mono (by omega)
  refine x_iret rfl rfl ?_
  exact hP V1 hF
/-! the model -/
set_option maxRecDepth 20000 in
theorem m_stepOf (hM : RK (V 76) K) (hW : WF K) (hP : P (some (.int (nI (4 ^ (6 - K 93))))) (LY ++ ext) V VL (vr G)) : Ex d mi261 0 (entL [.ref 74] 1) [] (LY ++ ext) V VL (vr G) 0 0 P := by
  have h6 := hW.n
  have e1 : 1 * 2 ^ (2 * (6 - K 93)) = 4 ^ (6 - K 93) := by rw [Nat.one_mul, ← pow4_2]
  have e2 : 2 ^ (2 * (6 - K 93)) ≤ 4096 := pow2n (by omega)
  refine x_iconstN (q := 1) rfl ?_
  refine x_iconstN (q := 2) rfl ?_
  refine x_bipushN (q := 6) rfl ?_
  refine x_aload_n rfl rfl ?_
  refine x_getR (u := .ref _) rfl rfl rfl rfl ?_
  refine x_bipushN (q := 93) rfl ?_
  refine x_ialE (j := 93) rfl rfl (rfl) (by omega) (hM.at 93) ?_
  refine x_isubN rfl ?_
  refine x_imulN rfl ?_
  refine x_ishlN rfl ?_
  refine x_iret rfl rfl ?_
  rw [e1]
  exact hP
set_option maxRecDepth 20000 in
theorem end6 {n r : Nat} (hn : n ≤ 6) (h : r = 4 ^ n) : r * 4 ^ (6 - n) = 4096 := by
  rw [h, ← Nat.pow_add, show n + (6 - n) = 6 by omega]
set_option maxRecDepth 20000 in
theorem step6 {n r : Nat} : r * 4 ^ (6 - n) + 4 ^ (6 - n) = (r + 1) * 4 ^ (6 - n) := (Nat.succ_mul _ _).symm
set_option maxRecDepth 20000 in
theorem mw_n {w : Int32} (hO : OutM K dy V) (hM : RK (V 76) K) (hW : WF K) (hd4 : dy < 4) : ∀ (m r c x : Nat), x = r * 4 ^ (6 - K 93) → r + m = 4 ^ K 93 → c ≤ r → P (some (.int (nI (c + (rwF K dy m r).length)))) (LY ++ ext) V VL (vr G) → Ex (d + 46) mi262 38 [.ref 74, .int (nI dy), .int (-1), .int w, .int (nI c), .int (nI x)] [] (LY ++ ext) V VL (vr G) 0 0 P := by
  have h6 := hW.n
  have h4 := pow4_6 h6
  intro m
  induction m with
  | zero =>
    intro r c x hx hr hc hP
    subst hx
    have he := end6 h6 (show r = 4 ^ K 93 by omega)
    refine x_iload rfl rfl ?_
    refine x_sipushN (q := 4096) rfl ?_
    refine x_icmpN_ge rfl (fun c43 => ?_) (fun c43 => ?_)
    rotate_left
    · exact absurd c43 (by first | decide | omega)
    refine x_iload_n rfl rfl ?_
    refine x_iconst rfl ?_
    refine x_icmp_ne rfl (fun c89 => ?_) (fun c89 => ?_)
    · exact absurd rfl c89
    refine x_iload rfl rfl ?_
    refine x_goto rfl ?_
    refine x_iret rfl rfl ?_
    exact hP | succ m ih =>
    intro r c x hx hr hc hP
    subst hx
    have hl := r6_lt h6 (show r < 4 ^ K 93 by omega)
    unfold rwF at hP
    cases ho : okR K dy r with
    | true =>
      rw [if_pos ho, List.length_cons] at hP
      refine x_iload rfl rfl ?_
      refine x_sipushN (q := 4096) rfl ?_
      refine x_icmpN_ge rfl (fun c43 => ?_) (fun c43 => ?_)
      · exact absurd c43 (by first | decide | omega)
      refine x_aload_n rfl rfl ?_
      refine x_iload rfl rfl ?_
      refine x_iload_n rfl rfl ?_
      refine x_callV (M' := mi260) (As := [_, _]) (bc1 := 0) (bs1 := 0) (bc2 := 0) (bs2 := 0) rfl rfl rfl rfl ok260 rfl rfl (by decide) rfl rfl rfl rfl rfl rfl ?_
      refine m_canHaveBeen hO hM hW hd4 (by omega) ?_
      rw [ho]
      refine x_if_ne rfl (fun c53 => ?_) (fun c53 => ?_)
      rotate_left
      · exact absurd c53 (by first | decide | omega)
      refine x_iload rfl rfl ?_
      refine x_iload_n rfl rfl ?_
      refine x_icmp_ne rfl (fun c62 => ?_) (fun c62 => ?_)
      rotate_left
      · exact absurd c62 (nI_m1 (by omega))
      refine x_iincN (q := 1) (ls' := [_, _, _, _, _, _]) rfl rfl rfl rfl ?_
      refine x_iload rfl rfl ?_
      refine x_aload_n rfl rfl ?_
      refine x_callV (M' := mi261) (As := []) (bc1 := 0) (bs1 := 0) (bc2 := 0) (bs2 := 0) rfl rfl rfl rfl ok261 rfl rfl (by decide) rfl rfl rfl rfl rfl rfl ?_
      refine m_stepOf hM hW ?_
      refine x_iaddN rfl ?_
      rw [step6]
      refine x_istore (ls' := [_, _, _, _, _, _]) rfl rfl rfl ?_
      refine x_goto rfl ?_
      exact ih (r + 1) (c + 1) _ rfl (by omega) (by omega) (by rw [show c + 1 + (rwF K dy m (r + 1)).length = c + ((rwF K dy m (r + 1)).length + 1) by omega]; exact hP) | false =>
      rw [if_neg (by rw [ho]; decide)] at hP
      refine x_iload rfl rfl ?_
      refine x_sipushN (q := 4096) rfl ?_
      refine x_icmpN_ge rfl (fun c43 => ?_) (fun c43 => ?_)
      · exact absurd c43 (by first | decide | omega)
      refine x_aload_n rfl rfl ?_
      refine x_iload rfl rfl ?_
      refine x_iload_n rfl rfl ?_
      refine x_callV (M' := mi260) (As := [_, _]) (bc1 := 0) (bs1 := 0) (bc2 := 0) (bs2 := 0) rfl rfl rfl rfl ok260 rfl rfl (by decide) rfl rfl rfl rfl rfl rfl ?_
      refine m_canHaveBeen hO hM hW hd4 (by omega) ?_
      rw [ho]
      refine x_if_ne rfl (fun c53 => ?_) (fun c53 => ?_)
      · exact absurd c53 (by first | decide | omega)
      refine x_goto rfl ?_
      refine x_iload rfl rfl ?_
      refine x_aload_n rfl rfl ?_
      refine x_callV (M' := mi261) (As := []) (bc1 := 0) (bs1 := 0) (bc2 := 0) (bs2 := 0) rfl rfl rfl rfl ok261 rfl rfl (by decide) rfl rfl rfl rfl rfl rfl ?_
      refine m_stepOf hM hW ?_
      refine x_iaddN rfl ?_
      rw [step6]
      refine x_istore (ls' := [_, _, _, _, _, _]) rfl rfl rfl ?_
      refine x_goto rfl ?_
      exact ih (r + 1) c _ rfl (by omega) (by omega) hP
set_option maxRecDepth 20000 in
theorem mw_i {p i : Nat} (hi : i < 2147483648) (hO : OutM K dy V) (hM : RK (V 76) K) (hW : WF K) (hd4 : dy < 4) (hp : p < K 93) : ∀ (m r c x : Nat), x = r * 4 ^ (6 - K 93) → r + m = 4 ^ K 93 → c ≤ r → c ≤ i → P (some (.int (agI ((rwF K dy m r)[i - c]?.map (fun x => dg (K 93) x p))))) (LY ++ ext) V VL (vr G) → Ex (d + 46) mi262 38 [.ref 74, .int (nI dy), .int (nI i), .int (nI p), .int (nI c), .int (nI x)] [] (LY ++ ext) V VL (vr G) 0 0 P := by
  have h6 := hW.n
  have h4 := pow4_6 h6
  intro m
  induction m with
  | zero =>
    intro r c x hx hr hc hci hP
    subst hx
    have he := end6 h6 (show r = 4 ^ K 93 by omega)
    refine x_iload rfl rfl ?_
    refine x_sipushN (q := 4096) rfl ?_
    refine x_icmpN_ge rfl (fun c43 => ?_) (fun c43 => ?_)
    rotate_left
    · exact absurd c43 (by first | decide | omega)
    refine x_iload_n rfl rfl ?_
    refine x_iconst rfl ?_
    refine x_icmp_ne rfl (fun c89 => ?_) (fun c89 => ?_)
    rotate_left
    · exact absurd c89 (nI_m1 (by omega))
    refine x_iconst rfl ?_
    refine x_iret rfl rfl ?_
    exact hP | succ m ih =>
    intro r c x hx hr hc hci hP
    subst hx
    have hl := r6_lt h6 (show r < 4 ^ K 93 by omega)
    unfold rwF at hP
    cases ho : okR K dy r with
    | true =>
      rw [if_pos ho] at hP
      by_cases e : c = i
      · have e2 : dg 6 (r * 4 ^ (6 - K 93)) p = dg (K 93) r p := dg6 h6 hp
        rw [e, Nat.sub_self] at hP
        refine x_iload rfl rfl ?_
        refine x_sipushN (q := 4096) rfl ?_
        refine x_icmpN_ge rfl (fun c43 => ?_) (fun c43 => ?_)
        · exact absurd c43 (by first | decide | omega)
        refine x_aload_n rfl rfl ?_
        refine x_iload rfl rfl ?_
        refine x_iload_n rfl rfl ?_
        refine x_callV (M' := mi260) (As := [_, _]) (bc1 := 0) (bs1 := 0) (bc2 := 0) (bs2 := 0) rfl rfl rfl rfl ok260 rfl rfl (by decide) rfl rfl rfl rfl rfl rfl ?_
        refine m_canHaveBeen hO hM hW hd4 (by omega) ?_
        rw [ho]
        refine x_if_ne rfl (fun c53 => ?_) (fun c53 => ?_)
        rotate_left
        · exact absurd c53 (by first | decide | omega)
        refine x_iload rfl rfl ?_
        refine x_iload_n rfl rfl ?_
        refine x_icmpN_ne rfl (fun c62 => ?_) (fun c62 => ?_)
        · exact absurd c62 (by first | decide | omega)
        refine x_iload rfl rfl ?_
        refine x_iload_n rfl rfl ?_
        refine x_callS (M' := mi179) (As := [_, _]) (bc1 := 0) (bs1 := 0) (bc2 := 0) (bs2 := 0) rfl rfl rfl rfl ok179 rfl rfl rfl rfl rfl rfl ?_
        refine m_markIn hl (by omega) ?_
        rw [e2]
        refine x_iret rfl rfl ?_
        exact hP
      · rw [show i - c = i - (c + 1) + 1 by omega, List.getElem?_cons_succ] at hP
        refine x_iload rfl rfl ?_
        refine x_sipushN (q := 4096) rfl ?_
        refine x_icmpN_ge rfl (fun c43 => ?_) (fun c43 => ?_)
        · exact absurd c43 (by first | decide | omega)
        refine x_aload_n rfl rfl ?_
        refine x_iload rfl rfl ?_
        refine x_iload_n rfl rfl ?_
        refine x_callV (M' := mi260) (As := [_, _]) (bc1 := 0) (bs1 := 0) (bc2 := 0) (bs2 := 0) rfl rfl rfl rfl ok260 rfl rfl (by decide) rfl rfl rfl rfl rfl rfl ?_
        refine m_canHaveBeen hO hM hW hd4 (by omega) ?_
        rw [ho]
        refine x_if_ne rfl (fun c53 => ?_) (fun c53 => ?_)
        rotate_left
        · exact absurd c53 (by first | decide | omega)
        refine x_iload rfl rfl ?_
        refine x_iload_n rfl rfl ?_
        refine x_icmpN_ne rfl (fun c62 => ?_) (fun c62 => ?_)
        rotate_left
        · exact absurd c62 (by first | decide | omega)
        refine x_iincN (q := 1) (ls' := [_, _, _, _, _, _]) rfl rfl rfl rfl ?_
        refine x_iload rfl rfl ?_
        refine x_aload_n rfl rfl ?_
        refine x_callV (M' := mi261) (As := []) (bc1 := 0) (bs1 := 0) (bc2 := 0) (bs2 := 0) rfl rfl rfl rfl ok261 rfl rfl (by decide) rfl rfl rfl rfl rfl rfl ?_
        refine m_stepOf hM hW ?_
        refine x_iaddN rfl ?_
        rw [step6]
        refine x_istore (ls' := [_, _, _, _, _, _]) rfl rfl rfl ?_
        refine x_goto rfl ?_
        exact ih (r + 1) (c + 1) _ rfl (by omega) (by omega) (by omega) hP | false =>
      rw [if_neg (by rw [ho]; decide)] at hP
      refine x_iload rfl rfl ?_
      refine x_sipushN (q := 4096) rfl ?_
      refine x_icmpN_ge rfl (fun c43 => ?_) (fun c43 => ?_)
      · exact absurd c43 (by first | decide | omega)
      refine x_aload_n rfl rfl ?_
      refine x_iload rfl rfl ?_
      refine x_iload_n rfl rfl ?_
      refine x_callV (M' := mi260) (As := [_, _]) (bc1 := 0) (bs1 := 0) (bc2 := 0) (bs2 := 0) rfl rfl rfl rfl ok260 rfl rfl (by decide) rfl rfl rfl rfl rfl rfl ?_
      refine m_canHaveBeen hO hM hW hd4 (by omega) ?_
      rw [ho]
      refine x_if_ne rfl (fun c53 => ?_) (fun c53 => ?_)
      · exact absurd c53 (by first | decide | omega)
      refine x_goto rfl ?_
      refine x_iload rfl rfl ?_
      refine x_aload_n rfl rfl ?_
      refine x_callV (M' := mi261) (As := []) (bc1 := 0) (bs1 := 0) (bc2 := 0) (bs2 := 0) rfl rfl rfl rfl ok261 rfl rfl (by decide) rfl rfl rfl rfl rfl rfl ?_
      refine m_stepOf hM hW ?_
      refine x_iaddN rfl ?_
      rw [step6]
      refine x_istore (ls' := [_, _, _, _, _, _]) rfl rfl rfl ?_
      refine x_goto rfl ?_
      exact ih (r + 1) c _ rfl (by omega) (by omega) (by omega) hP
set_option maxRecDepth 20000 in
theorem m_were_bad {c i w : Int32} (hM : RK (V 76) K) (hW : WF K) (h : hasF 4 c = 0 ∨ i < -1 ∨ (-1 < i ∧ hasF (nI (K 93)) w = 0)) (hP : P (some (.int (-1))) (LY ++ ext) V VL (vr G)) : Ex (d + 46) mi262 0 (entL [.ref 74, .int c, .int i, .int w] 6) [] (LY ++ ext) V VL (vr G) 0 0 P := by
  refine x_iload_n rfl rfl ?_
  refine x_callS (M' := mi166) (As := [_]) (bc1 := 0) (bs1 := 0) (bc2 := 0) (bs2 := 0) rfl rfl rfl rfl ok166 rfl rfl rfl rfl rfl rfl ?_
  refine m_isDayK ?_
  refine x_if_eq rfl (fun c4 => ?_) (fun c4 => ?_)
  · refine x_iconst rfl ?_
    refine x_iret rfl rfl ?_
    exact hP
  · refine x_iload_n rfl rfl ?_
    refine x_iconst rfl ?_
    refine x_icmp_lt rfl (fun c9 => ?_) (fun c9 => ?_)
    · refine x_iconst rfl ?_
      refine x_iret rfl rfl ?_
      exact hP
    · refine x_iload_n rfl rfl ?_
      refine x_iconst rfl ?_
      refine x_icmp_le rfl (fun c14 => ?_) (fun c14 => ?_)
      · exact absurd h (fun z => z.elim c4 (fun z => z.elim c9 (fun z => absurd c14 (Int32.not_le.mpr z.1))))
      · refine x_aload_n rfl rfl ?_
        refine x_iload_n rfl rfl ?_
        refine x_callV (M' := mi164) (As := [_]) (bc1 := 0) (bs1 := 0) (bc2 := 0) (bs2 := 0) rfl rfl rfl rfl ok164 rfl rfl (by decide) rfl rfl rfl rfl rfl rfl ?_
        refine m_isPersonK hM hW ?_
        refine x_if_ne rfl (fun c22 => ?_) (fun c22 => ?_)
        · exact absurd h (fun z => z.elim c4 (fun z => z.elim c9 (fun z => c22 z.2)))
        · refine x_iconst rfl ?_
          refine x_iret rfl rfl ?_
          exact hP
set_option maxRecDepth 20000 in
theorem m_were_n {w : Int32} (hM : RK (V 76) K) (hW : WF K) (hL : LwK K) (hd4 : dy < 4) (hP : ∀ V' : VIT, FrL V V' → P (some (.int (nI (RwA K dy).length))) (LY ++ ext) V' VL (vr G)) : Ex (d + 46) mi262 0 (entL [.ref 74, .int (nI dy), .int (-1), .int w] 6) [] (LY ++ ext) V VL (vr G) 0 0 P := by
  refine x_iload_n rfl rfl ?_
  refine x_callS (M' := mi166) (As := [_]) (bc1 := 0) (bs1 := 0) (bc2 := 0) (bs2 := 0) rfl rfl rfl rfl ok166 rfl rfl rfl rfl rfl rfl ?_
  refine m_isDayK ?_
  rw [show (4 : Int32) = nI 4 from rfl, hasF_in hd4 (by omega)]
  refine x_if_eq rfl (fun c4 => ?_) (fun c4 => ?_)
  · exact absurd c4 (by first | decide | omega)
  refine x_iload_n rfl rfl ?_
  refine x_iconst rfl ?_
  refine x_icmp_lt rfl (fun c9 => ?_) (fun c9 => ?_)
  · exact absurd c9 (by first | decide | omega)
  refine x_iload_n rfl rfl ?_
  refine x_iconst rfl ?_
  refine x_icmp_le rfl (fun c14 => ?_) (fun c14 => ?_)
  rotate_left
  · exact absurd (by decide : (-1 : Int32) ≤ -1) c14
  refine x_aload_n rfl rfl ?_
  refine x_iload_n rfl rfl ?_
  refine x_callV (M' := mi233) (As := [_]) (bc1 := 0) (bs1 := 0) (bc2 := 0) (bs2 := 0) rfl rfl rfl rfl ok233 rfl rfl (by decide) rfl rfl rfl rfl rfl rfl ?_
  refine m_laysTalks hM hW hL hd4 (fun V1 hF hO => ?_)
  have hM1 : RK (V1 76) K := by rw [hF.row 76 (by omega) (by omega) (by omega)]; exact hM
  refine x_iconstN (q := 0) rfl ?_
  refine x_istore (ls' := [_, _, _, _, _, _]) rfl rfl rfl ?_
  refine x_iconstN (q := 0) rfl ?_
  refine x_istore (ls' := [_, _, _, _, _, _]) rfl rfl rfl ?_
  refine mw_n hO hM1 hW hd4 (4 ^ K 93) 0 0 0 (Nat.zero_mul _).symm (by omega) (by omega) ?_
  rw [Nat.zero_add]
  exact hP V1 hF
set_option maxRecDepth 20000 in
theorem m_were_i {i p : Nat} (hi : i < 2147483648) (hp : p < K 93) (hM : RK (V 76) K) (hW : WF K) (hL : LwK K) (hd4 : dy < 4) (hP : ∀ V' : VIT, FrL V V' → P (some (.int (agI ((RwA K dy)[i]?.map (fun x => dg (K 93) x p))))) (LY ++ ext) V' VL (vr G)) : Ex (d + 46) mi262 0 (entL [.ref 74, .int (nI dy), .int (nI i), .int (nI p)] 6) [] (LY ++ ext) V VL (vr G) 0 0 P := by
  have h6 := hW.n
  have g0 : ¬ nI i < -1 := fun z => by
    rw [Int32.lt_iff_toInt_lt, nI_toInt hi, show ((-1 : Int32)).toInt = -1 from rfl] at z
    omega
  have g1 : ¬ nI i ≤ -1 := fun z => by
    rw [Int32.le_iff_toInt_le, nI_toInt hi, show ((-1 : Int32)).toInt = -1 from rfl] at z
    omega
  refine x_iload_n rfl rfl ?_
  refine x_callS (M' := mi166) (As := [_]) (bc1 := 0) (bs1 := 0) (bc2 := 0) (bs2 := 0) rfl rfl rfl rfl ok166 rfl rfl rfl rfl rfl rfl ?_
  refine m_isDayK ?_
  rw [show (4 : Int32) = nI 4 from rfl, hasF_in hd4 (by omega)]
  refine x_if_eq rfl (fun c4 => ?_) (fun c4 => ?_)
  · exact absurd c4 (by first | decide | omega)
  refine x_iload_n rfl rfl ?_
  refine x_iconst rfl ?_
  refine x_icmp_lt rfl (fun c9 => ?_) (fun c9 => ?_)
  · exact absurd c9 g0
  refine x_iload_n rfl rfl ?_
  refine x_iconst rfl ?_
  refine x_icmp_le rfl (fun c14 => ?_) (fun c14 => ?_)
  · exact absurd c14 g1
  refine x_aload_n rfl rfl ?_
  refine x_iload_n rfl rfl ?_
  refine x_callV (M' := mi164) (As := [_]) (bc1 := 0) (bs1 := 0) (bc2 := 0) (bs2 := 0) rfl rfl rfl rfl ok164 rfl rfl (by decide) rfl rfl rfl rfl rfl rfl ?_
  refine m_isPersonK hM hW ?_
  rw [hasF_in hp (by omega)]
  refine x_if_ne rfl (fun c22 => ?_) (fun c22 => ?_)
  rotate_left
  · exact absurd c22 (by first | decide | omega)
  refine x_aload_n rfl rfl ?_
  refine x_iload_n rfl rfl ?_
  refine x_callV (M' := mi233) (As := [_]) (bc1 := 0) (bs1 := 0) (bc2 := 0) (bs2 := 0) rfl rfl rfl rfl ok233 rfl rfl (by decide) rfl rfl rfl rfl rfl rfl ?_
  refine m_laysTalks hM hW hL hd4 (fun V1 hF hO => ?_)
  have hM1 : RK (V1 76) K := by rw [hF.row 76 (by omega) (by omega) (by omega)]; exact hM
  refine x_iconstN (q := 0) rfl ?_
  refine x_istore (ls' := [_, _, _, _, _, _]) rfl rfl rfl ?_
  refine x_iconstN (q := 0) rfl ?_
  refine x_istore (ls' := [_, _, _, _, _, _]) rfl rfl rfl ?_
  refine mw_i hi hO hM1 hW hd4 hp (4 ^ K 93) 0 0 0 (Nat.zero_mul _).symm (by omega) (by omega) (by omega) ?_
  exact hP V1 hF
end Gather
section Join15
variable {j : Nat} {lay : HL} {VI : VIT} {VL : VLT} {VR : VRT}
set_option maxRecDepth 20000 in
theorem j_were {c i w : Int32} (h : Inv j lay VI VL VR) : Pr 100 mi135 mi262 [.int c, .int i, .int w] lay VI VL VR (Inv (j + 1)) := by
  obtain ⟨ext, G, K, tn, T, u, US, lg, rfl, rfl, hS⟩ := h
  have hI := hS.next.inv (VL := VL)
  have hW := hS.1
  have hX := hS.2.1
  have hM := hS.2.2.1
  have hL := hS.2.2.2.2.2.2.2.2.2.1
  have h6 := hW.n
  have hM' : ∀ V1 : VIT, FrW VI V1 → RK (V1 76) K := fun V1 hF => by rw [show V1 76 = VI 76 from funext (fun k => hF.kp 76 k (by unfold kpP; omega))]; exact hM
  have hf1 : ∀ V1 : VIT, FrW VI V1 → Inv (j + 1) (LY ++ ext) V1 VL (vr G) := fun V1 h1 => (hS.scratch h1.kp).inv
  have hfin : ∀ V1 V2 : VIT, FrW VI V1 → FrL V1 V2 → Inv (j + 1) (LY ++ ext) V2 VL (vr G) := fun V1 V2 h1 h2 => (hS.scratch (fun a k q => (h2.kp a k q).trans (h1.kp a k q))).inv
  have hln : ∀ {dy : Nat}, (RwA K dy).length ≤ 4096 := fun {dy} => RwA_len hW
  rcases has_cases (n := 4) (by omega) c with h1 | ⟨dy, hd4, rfl⟩
  · exact Pr_read (-1) (fun P q => x_were_bad h1 q) (fun P q => m_were_bad hM hW (Or.inl h1) q) hI
  by_cases i1 : i = -1
  · subst i1
    exact ExS.budget (bc := 0) (bs := 0) (x_were_n hX hW hL hd4 (fun V1 hF => ⟨_, ext, rfl, rfl, m_were_n (hM' V1 hF) hW hL.K hd4 (fun V2 hT => ⟨rfl, hfin V1 V2 hF hT⟩)⟩)) (by omega) (by omega)
  by_cases i0 : i < 0
  · have i2 : i < -1 := by
      rw [Int32.lt_iff_toInt_lt] at i0 ⊢
      have e0 : (0 : Int32).toInt = 0 := rfl
      have e1 : (-1 : Int32).toInt = -1 := rfl
      have : i.toInt ≠ -1 := fun z => i1 (Int32.toInt_inj.mp (z.trans e1.symm))
      omega
    exact ExS.budget (bc := 0) (bs := 0) (x_were_i i1 hX hW hL hd4 (fun V' P' z1 z2 z3 => s_mi_out z1 hW z2 hln (Or.inl i0) z3) (fun V1 hF => ⟨_, ext, rfl, rfl, m_were_bad (hM' V1 hF) hW (Or.inr (Or.inl i2)) ⟨rfl, hf1 V1 hF⟩⟩)) (by omega) (by omega)
  obtain ⟨k, rfl, hk⟩ := nI_back i0
  have hkl : k < 2147483648 := by have := (nI k).toInt_lt; omega
  have i2 : (-1 : Int32) < nI k := by
    rw [Int32.lt_iff_toInt_lt, nI_toInt hkl, show ((-1 : Int32)).toInt = -1 from rfl]
    omega
  rcases has_cases (n := K 93) (by omega) w with h1 | ⟨p, hp, rfl⟩
  · have hx : ∀ (V' : VIT) (P' : Post), RW 3 K V' → FndL V' (RwA K dy) → P' (some (.int (-1))) (LY ++ ext) V' VL (vr G) → Ex (0 + 2) mi65 0 (entL [.ref 67, .int (nI k), .int w] 3) [] (LY ++ ext) V' VL (vr G) 0 0 P' := by
      intro V' P' z1 z2 z3
      cases hx : (RwA K dy)[k]? with
      | none => exact s_mi_out (d := 0) z1 hW z2 hln (Or.inr (nI_le (List.getElem?_eq_none_iff.mp hx) hkl)) z3
      | some x => exact s_mi_bad (d := 0) z1 hW z2 hln hx h1 z3
    exact ExS.budget (bc := 0) (bs := 0) (x_were_i i1 hX hW hL hd4 (fun V' P' z1 z2 z3 => (hx V' P' z1 z2 z3).mono (by omega)) (fun V1 hF => ⟨_, ext, rfl, rfl, m_were_bad (hM' V1 hF) hW (Or.inr (Or.inr ⟨i2, h1⟩)) ⟨rfl, hf1 V1 hF⟩⟩)) (by omega) (by omega)
  · have hx : ∀ (V' : VIT) (P' : Post), RW 3 K V' → FndL V' (RwA K dy) → P' (some (.int (agI ((RwA K dy)[k]?.map (fun x => dg (K 93) x p))))) (LY ++ ext) V' VL (vr G) → Ex (0 + 2) mi65 0 (entL [.ref 67, .int (nI k), .int (nI p)] 3) [] (LY ++ ext) V' VL (vr G) 0 0 P' := by
      intro V' P' z1 z2 z3
      cases hx : (RwA K dy)[k]? with
      | none =>
        rw [hx] at z3
        exact s_mi_out (d := 0) z1 hW z2 hln (Or.inr (nI_le (List.getElem?_eq_none_iff.mp hx) hkl)) z3
      | some x =>
        rw [hx] at z3
        exact s_mi_in (d := 0) z1 hW z2 hln hx (Nat.lt_of_lt_of_le (RwA_lt (List.mem_of_getElem? hx)) (pow4_6 h6)) hp z3
    exact ExS.budget (bc := 0) (bs := 0) (x_were_i i1 hX hW hL hd4 (fun V' P' z1 z2 z3 => (hx V' P' z1 z2 z3).mono (by omega)) (fun V1 hF => ⟨_, ext, rfl, rfl, m_were_i hkl hp (hM' V1 hF) hW hL.K hd4 (fun V2 hT => ⟨rfl, hfin V1 V2 hF hT⟩)⟩)) (by omega) (by omega)
end Join15
