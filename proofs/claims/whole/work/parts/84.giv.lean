/-! ===== givings: the commonest mark of a heap ===== -/
def cnt (K : KT) (q h k : Nat) : Nat → Nat
  | 0 => 0
  | i + 1 => cnt K q h k i + (if h / 2 ^ i % 2 = 1 ∧ K (4 * i + q) = k then 1 else 0)
set_option maxRecDepth 20000 in
theorem cnt_le {K : KT} {q h k : Nat} : ∀ i, cnt K q h k i ≤ i
  | 0 => Nat.le_refl _
  | i + 1 => by
    have ih := cnt_le (K := K) (q := q) (h := h) (k := k) i
    show cnt K q h k i + _ ≤ i + 1
    split <;> omega
set_option maxRecDepth 20000 in
theorem cnt_pos {K : KT} {q h p : Nat} (hb : h.testBit p = true) : ∀ i, p < i → 0 < cnt K q h (K (4 * p + q)) i
  | 0, hi => absurd hi (by omega)
  | i + 1, hi => by
    show 0 < cnt K q h (K (4 * p + q)) i + _
    by_cases e : p = i
    · subst e
      rw [Nat.testBit_eq_decide_div_mod_eq, decide_eq_true_eq] at hb
      rw [if_pos ⟨hb, rfl⟩]; omega
    · have := cnt_pos hb i (by omega) (K := K) (q := q)
      omega
def bM (c : Nat → Nat) : Nat → Nat
  | 0 => 0
  | t + 1 => if c (bM c t) < c (t + 1) then t + 1 else bM c t
def bX (c : Nat → Nat) (own : Nat) : Nat → Nat × Nat
  | 0 => (own, 0)
  | t + 1 => if (bX c own t).2 < c t then (t, c t) else bX c own t
set_option maxRecDepth 20000 in
theorem bM_le (c : Nat → Nat) : ∀ t, bM c t ≤ t
  | 0 => Nat.le_refl _
  | t + 1 => by
    have ih := bM_le c t
    show (if c (bM c t) < c (t + 1) then t + 1 else bM c t) ≤ t + 1
    split <;> omega
set_option maxRecDepth 20000 in
theorem bM_max (c : Nat → Nat) : ∀ t k, k ≤ t → c k ≤ c (bM c t)
  | 0, k, hk => by rw [show k = 0 by omega]; exact Nat.le_refl _
  | t + 1, k, hk => by
    show c k ≤ c (if c (bM c t) < c (t + 1) then t + 1 else bM c t)
    by_cases h : c (bM c t) < c (t + 1)
    · rw [if_pos h]
      by_cases e : k = t + 1
      · rw [e]; exact Nat.le_refl _
      · have := bM_max c t k (by omega); omega
    · rw [if_neg h]
      by_cases e : k = t + 1
      · rw [e]; omega
      · exact bM_max c t k (by omega)
set_option maxRecDepth 20000 in
theorem bX_bM (c : Nat → Nat) (own : Nat) : ∀ t, (bX c own (t + 1)).2 = c (bM c t) ∧ (0 < c (bM c t) → (bX c own (t + 1)).1 = bM c t)
  | 0 => by
    show (if 0 < c 0 then ((0, c 0) : Nat × Nat) else (own, 0)).2 = c 0 ∧ (0 < c 0 → (if 0 < c 0 then ((0, c 0) : Nat × Nat) else (own, 0)).1 = 0)
    by_cases h : 0 < c 0
    · rw [if_pos h]; exact ⟨rfl, fun _ => rfl⟩
    · rw [if_neg h]; exact ⟨show 0 = c 0 by omega, fun z => absurd z h⟩
  | t + 1 => by
    obtain ⟨h1, h2⟩ := bX_bM c own t
    show (if (bX c own (t + 1)).2 < c (t + 1) then (t + 1, c (t + 1)) else bX c own (t + 1)).2 = c (if c (bM c t) < c (t + 1) then t + 1 else bM c t) ∧ (0 < c (if c (bM c t) < c (t + 1) then t + 1 else bM c t) → (if (bX c own (t + 1)).2 < c (t + 1) then (t + 1, c (t + 1)) else bX c own (t + 1)).1 = (if c (bM c t) < c (t + 1) then t + 1 else bM c t))
    rw [h1]
    by_cases h : c (bM c t) < c (t + 1)
    · rw [if_pos h, if_pos h]; exact ⟨rfl, fun _ => rfl⟩
    · rw [if_neg h, if_neg h]; exact ⟨h1, h2⟩
set_option maxRecDepth 20000 in
theorem b_same {c : Nat → Nat} {own : Nat} (ho : own < 4) (h : 0 < c own) : (bX c own 4).1 = bM c 3 := (bX_bM c own 3).2 (Nat.lt_of_lt_of_le h (bM_max c 3 own (by omega)))
set_option maxRecDepth 20000 in
theorem bX_le {c : Nat → Nat} {own : Nat} (ho : own < 4) (hc : ∀ k, c k ≤ 6) : ∀ t, t ≤ 4 → (bX c own t).1 < 4 ∧ (bX c own t).2 ≤ 6
  | 0, _ => ⟨ho, Nat.zero_le _⟩
  | t + 1, ht => by
    have ih := bX_le ho hc t (by omega)
    show (if (bX c own t).2 < c t then (t, c t) else bX c own t).1 < 4 ∧ (if (bX c own t).2 < c t then (t, c t) else bX c own t).2 ≤ 6
    by_cases h : (bX c own t).2 < c t
    · rw [if_pos h]; exact ⟨show t < 4 by omega, hc t⟩
    · rw [if_neg h]; exact ih
-- what p would be given of day q
def gv (K : KT) (p q : Nat) : Nat := if K (24 + p) = 1 then bM (fun k => cnt K q (hit K q p 6) k (K 93)) 3 else K (4 * p + q)
def gcnt (K : KT) : Nat → Nat
  | 0 => 0
  | i + 1 => gcnt K i + (if gv K (i / 4) (i % 4) = K (4 * (i / 4) + i % 4) then 0 else 1)
set_option maxRecDepth 20000 in
theorem gcnt_le {K : KT} : ∀ i, gcnt K i ≤ i
  | 0 => Nat.le_refl _
  | i + 1 => by
    have ih := gcnt_le (K := K) i
    show gcnt K i + _ ≤ i + 1
    split <;> omega
set_option maxRecDepth 20000 in
theorem gcnt_step {K : KT} {p q : Nat} (hq : q < 4) : gcnt K (4 * p + q + 1) = gcnt K (4 * p + q) + (if gv K p q = K (4 * p + q) then 0 else 1) := by
  show gcnt K (4 * p + q) + (if gv K ((4 * p + q) / 4) ((4 * p + q) % 4) = K (4 * ((4 * p + q) / 4) + (4 * p + q) % 4) then 0 else 1) = _
  rw [show (4 * p + q) / 4 = p by omega, show (4 * p + q) % 4 = q by omega]
set_option maxRecDepth 20000 in
theorem gv_lt {K : KT} (hW : WF K) {p q : Nat} (hp : p < K 93) (hq : q < 4) : gv K p q < 4 := by
  unfold gv
  have := bM_le (fun k => cnt K q (hit K q p 6) k (K 93)) 3
  have := hW.mark hp hq
  split <;> omega
section Giv
variable {d : Nat} {VI : VIT} {VL : VLT} {G : VRT} {P : Post} {ext : HL} {K : KT} {p q h : Nat}
set_option maxRecDepth 20000 in
theorem x_cnt_loop {own b mo k : Nat} (hX : RW 3 K VI) (hW : WF K) (hh : h < 64) (hq : q < 4) (hk4 : k < 4) (hP : ∀ z : Value, Ex (d + 3) mi26 106 [.ref 70, .int (nI p), .int (nI q), .int (nI own), .int (nI h), .int (nI b), .int (nI mo), .int (nI k), .int (nI (cnt K q h k (K 93))), z] [] (LY ++ ext) VI VL (vr G) 0 0 P) : ∀ (m i : Nat), i + m = K 93 → Ex (d + 3) mi26 52 [.ref 70, .int (nI p), .int (nI q), .int (nI own), .int (nI h), .int (nI b), .int (nI mo), .int (nI k), .int (nI (cnt K q h k i)), .int (nI i)] [] (LY ++ ext) VI VL (vr G) 0 0 P := by
  have h6 := hW.n
  intro m
  induction m with
  | zero =>
    intro i hi
    have e : i = K 93 := by omega
    subst e
    refine x_iload rfl rfl ?_
    refine x_aload_n rfl rfl ?_
    refine x_getR (u := .ref _) rfl rfl rfl rfl ?_
    refine x_getE (y := 0) rfl rfl rfl (hX.n) ?_
    refine x_icmpN_ge rfl (fun c61 => ?_) (fun c61 => ?_)
    rotate_left
    · exact absurd c61 (by first | decide | omega)
    exact hP _ | succ m ih =>
    intro i hi
    have hc := cnt_le (K := K) (q := q) (h := h) (k := k) i
    have hm := hW.mark (show i < K 93 by omega) hq
    have hk := ih (i + 1) (by omega)
    by_cases c : h / 2 ^ i % 2 = 1 ∧ K (4 * i + q) = k
    · rw [show cnt K q h k (i + 1) = cnt K q h k i + 1 by show _ + (if _ then _ else _) = _; rw [if_pos c]] at hk
      refine x_iload rfl rfl ?_
      refine x_aload_n rfl rfl ?_
      refine x_getR (u := .ref _) rfl rfl rfl rfl ?_
      refine x_getE (y := 0) rfl rfl rfl (hX.n) ?_
      refine x_icmpN_ge rfl (fun c61 => ?_) (fun c61 => ?_)
      · exact absurd c61 (by first | decide | omega)
      refine x_iload rfl rfl ?_
      refine x_iload rfl rfl ?_
      refine x_iload rfl rfl ?_
      refine x_ishrN rfl ?_
      refine x_iconstN (q := 1) rfl ?_
      refine x_iandM1 rfl ?_
      refine x_iconstN (q := 1) rfl ?_
      refine x_icmpN_ne rfl (fun c74 => ?_) (fun c74 => ?_)
      · exact absurd c74 (by first | decide | omega)
      refine x_aload_n rfl rfl ?_
      refine x_getR (u := .ref _) rfl rfl rfl rfl ?_
      refine x_iload rfl rfl ?_
      refine x_iload_n rfl rfl ?_
      refine x_callV (M' := mi101) (As := [_, _]) (bc1 := 0) (bs1 := 0) (bc2 := 0) (bs2 := 0) rfl rfl rfl rfl ok101 rfl rfl (by decide) rfl rfl rfl rfl rfl rfl ?_
      refine s_markOf_in hX.n (by omega) h6 hq ?_
      rw [hX.mark (by omega) hq]
      refine x_iload rfl rfl ?_
      refine x_icmpN_ne rfl (fun c89 => ?_) (fun c89 => ?_)
      · exact absurd c89 (by first | decide | omega)
      refine x_iconstN (q := 1) rfl ?_
      refine x_goto rfl ?_
      refine x_iaddN rfl ?_
      refine x_istore (ls' := [_, _, _, _, _, _, _, _, _, _]) rfl rfl rfl ?_
      refine x_iincN (q := 1) (ls' := [_, _, _, _, _, _, _, _, _, _]) rfl rfl rfl rfl ?_
      refine x_goto rfl ?_
      exact hk
    · rw [show cnt K q h k (i + 1) = cnt K q h k i + 0 by show _ + (if _ then _ else _) = _; rw [if_neg c]] at hk
      refine x_iload rfl rfl ?_
      refine x_aload_n rfl rfl ?_
      refine x_getR (u := .ref _) rfl rfl rfl rfl ?_
      refine x_getE (y := 0) rfl rfl rfl (hX.n) ?_
      refine x_icmpN_ge rfl (fun c61 => ?_) (fun c61 => ?_)
      · exact absurd c61 (by first | decide | omega)
      refine x_iload rfl rfl ?_
      refine x_iload rfl rfl ?_
      refine x_iload rfl rfl ?_
      refine x_ishrN rfl ?_
      refine x_iconstN (q := 1) rfl ?_
      refine x_iandM1 rfl ?_
      refine x_iconstN (q := 1) rfl ?_
      refine x_icmpN_ne rfl (fun c74 => ?_) (fun c74 => ?_)
      · refine x_iconstN (q := 0) rfl ?_
        refine x_iaddN rfl ?_
        refine x_istore (ls' := [_, _, _, _, _, _, _, _, _, _]) rfl rfl rfl ?_
        refine x_iincN (q := 1) (ls' := [_, _, _, _, _, _, _, _, _, _]) rfl rfl rfl rfl ?_
        refine x_goto rfl ?_
        exact hk
      · refine x_aload_n rfl rfl ?_
        refine x_getR (u := .ref _) rfl rfl rfl rfl ?_
        refine x_iload rfl rfl ?_
        refine x_iload_n rfl rfl ?_
        refine x_callV (M' := mi101) (As := [_, _]) (bc1 := 0) (bs1 := 0) (bc2 := 0) (bs2 := 0) rfl rfl rfl rfl ok101 rfl rfl (by decide) rfl rfl rfl rfl rfl rfl ?_
        refine s_markOf_in hX.n (by omega) h6 hq ?_
        rw [hX.mark (by omega) hq]
        refine x_iload rfl rfl ?_
        refine x_icmpN_ne rfl (fun c89 => ?_) (fun c89 => ?_)
        · refine x_iconstN (q := 0) rfl ?_
          refine x_iaddN rfl ?_
          refine x_istore (ls' := [_, _, _, _, _, _, _, _, _, _]) rfl rfl rfl ?_
          refine x_iincN (q := 1) (ls' := [_, _, _, _, _, _, _, _, _, _]) rfl rfl rfl rfl ?_
          refine x_goto rfl ?_
          exact hk
        · exact absurd ⟨by omega, by omega⟩ c
set_option maxRecDepth 20000 in
theorem x_best_loop {own : Nat} (hX : RW 3 K VI) (hW : WF K) (hh : h < 64) (hq : q < 4) (ho : own < 4) (hP : P (some (.int (nI (bX (fun k => cnt K q h k (K 93)) own 4).1))) (LY ++ ext) VI VL (vr G)) : ∀ (m t : Nat) (z w : Value), t + m = 4 → Ex (d + 3) mi26 40 [.ref 70, .int (nI p), .int (nI q), .int (nI own), .int (nI h), .int (nI (bX (fun k => cnt K q h k (K 93)) own t).1), .int (nI (bX (fun k => cnt K q h k (K 93)) own t).2), .int (nI t), z, w] [] (LY ++ ext) VI VL (vr G) 0 0 P := by
  have h6 := hW.n
  intro m
  induction m with
  | zero =>
    intro t z w ht
    have e : t = 4 := by omega
    subst e
    refine x_iload rfl rfl ?_
    refine x_iconstN (q := 3) rfl ?_
    refine x_icmpN_gt rfl (fun c43 => ?_) (fun c43 => ?_)
    rotate_left
    · exact absurd c43 (by first | decide | omega)
    refine x_iload rfl rfl ?_
    refine x_iret rfl rfl ?_
    exact hP | succ m ih =>
    intro t z w ht
    have hb := bX_le (c := (fun k => cnt K q h k (K 93))) ho (fun k => Nat.le_trans (cnt_le _) h6) t (by omega)
    have hc := cnt_le (K := K) (q := q) (h := h) (k := t) (K 93)
    have hk := fun z w => ih (t + 1) z w (by omega)
    refine x_iload rfl rfl ?_
    refine x_iconstN (q := 3) rfl ?_
    refine x_icmpN_gt rfl (fun c43 => ?_) (fun c43 => ?_)
    · exact absurd c43 (by first | decide | omega)
    refine x_iconstN (q := 0) rfl ?_
    refine x_istore (ls' := [_, _, _, _, _, _, _, _, _, _]) rfl rfl rfl ?_
    refine x_iconstN (q := 0) rfl ?_
    refine x_istore (ls' := [_, _, _, _, _, _, _, _, _, _]) rfl rfl rfl ?_
    skip
    refine x_cnt_loop hX hW hh hq (by omega) (fun z => ?_) (K 93) 0 (by omega)
    by_cases c : (bX (fun k => cnt K q h k (K 93)) own t).2 < cnt K q h t (K 93)
    · rw [show bX (fun k => cnt K q h k (K 93)) own (t + 1) = (t, cnt K q h t (K 93)) from if_pos c] at hk
      refine x_iload rfl rfl ?_
      refine x_iload rfl rfl ?_
      refine x_icmpN_le rfl (fun c110 => ?_) (fun c110 => ?_)
      · exact absurd c110 (by first | decide | omega)
      refine x_iload rfl rfl ?_
      refine x_istore (ls' := [_, _, _, _, _, _, _, _, _, _]) rfl rfl rfl ?_
      refine x_iload rfl rfl ?_
      refine x_istore (ls' := [_, _, _, _, _, _, _, _, _, _]) rfl rfl rfl ?_
      refine x_iincN (q := 1) (ls' := [_, _, _, _, _, _, _, _, _, _]) rfl rfl rfl rfl ?_
      refine x_goto rfl ?_
      exact hk _ _
    · rw [show bX (fun k => cnt K q h k (K 93)) own (t + 1) = bX (fun k => cnt K q h k (K 93)) own t from if_neg c] at hk
      refine x_iload rfl rfl ?_
      refine x_iload rfl rfl ?_
      refine x_icmpN_le rfl (fun c110 => ?_) (fun c110 => ?_)
      rotate_left
      · exact absurd c110 (by first | decide | omega)
      refine x_iincN (q := 1) (ls' := [_, _, _, _, _, _, _, _, _, _]) rfl rfl rfl rfl ?_
      refine x_goto rfl ?_
      exact hk _ _
set_option maxRecDepth 20000 in
theorem x_markGiven (hX : RW 3 K VI) (hW : WF K) (hp : p < K 93) (hq : q < 4) (hP : P (some (.int (nI (gv K p q)))) (LY ++ ext) VI VL (vr G)) : Ex (d + 3) mi26 0 (entL [.ref 70, .int (nI p), .int (nI q)] 10) [] (LY ++ ext) VI VL (vr G) 0 0 P := by
  have h6 := hW.n
  have hlv := hW.life hp
  have hm := hW.mark hp hq
  have hlm : lmK K < 64 := Nat.lt_of_lt_of_le (mskN_lt (fun i hi => hW.life hi)) (pow6 h6)
  by_cases c : K (24 + p) = 1
  · have e := b_same (c := (fun k => cnt K q (hit K q p 6) k (K 93))) (own := K (4 * p + q)) hm (cnt_pos (hit_bit hW (by omega) 6) (K 93) hp)
    rw [show gv K p q = bM (fun k => cnt K q (hit K q p 6) k (K 93)) 3 from if_pos c, ← e] at hP
    refine x_aload_n rfl rfl ?_
    refine x_getR (u := .ref _) rfl rfl rfl rfl ?_
    refine x_iload_n rfl rfl ?_
    refine x_iload_n rfl rfl ?_
    refine x_callV (M' := mi101) (As := [_, _]) (bc1 := 0) (bs1 := 0) (bc2 := 0) (bs2 := 0) rfl rfl rfl rfl ok101 rfl rfl (by decide) rfl rfl rfl rfl rfl rfl ?_
    refine s_markOf_in hX.n hp h6 hq ?_
    rw [hX.mark hp hq]
    refine x_istore_n (ls' := [_, _, _, _, _, _, _, _, _, _]) rfl rfl rfl ?_
    refine x_aload_n rfl rfl ?_
    refine x_getR (u := .ref _) rfl rfl rfl rfl ?_
    refine x_iload_n rfl rfl ?_
    refine x_callV (M' := mi98) (As := [_]) (bc1 := 0) (bs1 := 0) (bc2 := 0) (bs2 := 0) rfl rfl rfl rfl ok98 rfl rfl (by decide) rfl rfl rfl rfl rfl rfl ?_
    refine s_lives_in hX.n hX.lm hp h6 hlm ?_
    rw [lm_bit hW hp]
    refine x_ifN_ne rfl (fun c18 => ?_) (fun c18 => ?_)
    rotate_left
    · exact absurd c18 (by first | decide | omega)
    refine x_aload_n rfl rfl ?_
    refine x_iload_n rfl rfl ?_
    refine x_iload_n rfl rfl ?_
    refine x_callV (M' := mi27) (As := [_, _]) (bc1 := 0) (bs1 := 0) (bc2 := 0) (bs2 := 0) rfl rfl rfl rfl ok27 rfl rfl (by decide) rfl rfl rfl rfl rfl rfl ?_
    refine x_heapOf hX hW (by omega) hq ?_
    refine x_istore (ls' := [_, _, _, _, _, _, _, _, _, _]) rfl rfl rfl ?_
    refine x_iload_n rfl rfl ?_
    refine x_istore (ls' := [_, _, _, _, _, _, _, _, _, _]) rfl rfl rfl ?_
    refine x_iconstN (q := 0) rfl ?_
    refine x_istore (ls' := [_, _, _, _, _, _, _, _, _, _]) rfl rfl rfl ?_
    refine x_iconstN (q := 0) rfl ?_
    refine x_istore (ls' := [_, _, _, _, _, _, _, _, _, _]) rfl rfl rfl ?_
    exact x_best_loop hX hW (hit_lt hW (by omega) 6) hq hm hP 4 0 _ _ rfl
  · rw [show gv K p q = K (4 * p + q) from if_neg c] at hP
    refine x_aload_n rfl rfl ?_
    refine x_getR (u := .ref _) rfl rfl rfl rfl ?_
    refine x_iload_n rfl rfl ?_
    refine x_iload_n rfl rfl ?_
    refine x_callV (M' := mi101) (As := [_, _]) (bc1 := 0) (bs1 := 0) (bc2 := 0) (bs2 := 0) rfl rfl rfl rfl ok101 rfl rfl (by decide) rfl rfl rfl rfl rfl rfl ?_
    refine s_markOf_in hX.n hp h6 hq ?_
    rw [hX.mark hp hq]
    refine x_istore_n (ls' := [_, _, _, _, _, _, _, _, _, _]) rfl rfl rfl ?_
    refine x_aload_n rfl rfl ?_
    refine x_getR (u := .ref _) rfl rfl rfl rfl ?_
    refine x_iload_n rfl rfl ?_
    refine x_callV (M' := mi98) (As := [_]) (bc1 := 0) (bs1 := 0) (bc2 := 0) (bs2 := 0) rfl rfl rfl rfl ok98 rfl rfl (by decide) rfl rfl rfl rfl rfl rfl ?_
    refine s_lives_in hX.n hX.lm hp h6 hlm ?_
    rw [lm_bit hW hp]
    refine x_ifN_ne rfl (fun c18 => ?_) (fun c18 => ?_)
    · exact absurd c18 (by first | decide | omega)
    refine x_iload_n rfl rfl ?_
    refine x_iret rfl rfl ?_
    exact hP
set_option maxRecDepth 20000 in
theorem x_gin_loop (hX : RW 3 K VI) (hW : WF K) (hp : p < K 93) (hP : ∀ z : Value, Ex (d + 4) mi25 54 [.ref 70, .int (nI (gcnt K (4 * p + 4))), .int (nI p), z] [] (LY ++ ext) VI VL (vr G) 0 0 P) : ∀ (m q : Nat), q + m = 4 → Ex (d + 4) mi25 17 [.ref 70, .int (nI (gcnt K (4 * p + q))), .int (nI p), .int (nI q)] [] (LY ++ ext) VI VL (vr G) 0 0 P := by
  have h6 := hW.n
  intro m
  induction m with
  | zero =>
    intro q hq
    have e : q = 4 := by omega
    subst e
    refine x_iload_n rfl rfl ?_
    refine x_iconstN (q := 4) rfl ?_
    refine x_icmpN_ge rfl (fun c19 => ?_) (fun c19 => ?_)
    rotate_left
    · exact absurd c19 (by first | decide | omega)
    exact hP _ | succ m ih =>
    intro q hq
    have hm := hW.mark hp (show q < 4 by omega)
    have hg := gv_lt hW hp (show q < 4 by omega)
    have hgl := gcnt_le (K := K) (4 * p + q)
    have hk := ih (q + 1) (by omega)
    rw [show 4 * p + (q + 1) = 4 * p + q + 1 by omega, gcnt_step (by omega)] at hk
    by_cases c : gv K p q = K (4 * p + q)
    · rw [if_pos c] at hk
      refine x_iload_n rfl rfl ?_
      refine x_iconstN (q := 4) rfl ?_
      refine x_icmpN_ge rfl (fun c19 => ?_) (fun c19 => ?_)
      · exact absurd c19 (by first | decide | omega)
      refine x_iload_n rfl rfl ?_
      refine x_aload_n rfl rfl ?_
      refine x_iload_n rfl rfl ?_
      refine x_iload_n rfl rfl ?_
      refine x_callV (M' := mi26) (As := [_, _]) (bc1 := 0) (bs1 := 0) (bc2 := 0) (bs2 := 0) rfl rfl rfl rfl ok26 rfl rfl (by decide) rfl rfl rfl rfl rfl rfl ?_
      refine x_markGiven hX hW hp (by omega) ?_
      refine x_aload_n rfl rfl ?_
      refine x_getR (u := .ref _) rfl rfl rfl rfl ?_
      refine x_iload_n rfl rfl ?_
      refine x_iload_n rfl rfl ?_
      refine x_callV (M' := mi101) (As := [_, _]) (bc1 := 0) (bs1 := 0) (bc2 := 0) (bs2 := 0) rfl rfl rfl rfl ok101 rfl rfl (by decide) rfl rfl rfl rfl rfl rfl ?_
      refine s_markOf_in hX.n hp h6 (by omega) ?_
      rw [hX.mark hp (by omega)]
      refine x_icmpN_eq rfl (fun c38 => ?_) (fun c38 => ?_)
      rotate_left
      · exact absurd c38 (by first | decide | omega)
      refine x_iconstN (q := 0) rfl ?_
      refine x_iaddN rfl ?_
      refine x_istore_n (ls' := [_, _, _, _]) rfl rfl rfl ?_
      refine x_iincN (q := 1) (ls' := [_, _, _, _]) rfl rfl rfl rfl ?_
      refine x_goto rfl ?_
      exact hk
    · rw [if_neg c] at hk
      refine x_iload_n rfl rfl ?_
      refine x_iconstN (q := 4) rfl ?_
      refine x_icmpN_ge rfl (fun c19 => ?_) (fun c19 => ?_)
      · exact absurd c19 (by first | decide | omega)
      refine x_iload_n rfl rfl ?_
      refine x_aload_n rfl rfl ?_
      refine x_iload_n rfl rfl ?_
      refine x_iload_n rfl rfl ?_
      refine x_callV (M' := mi26) (As := [_, _]) (bc1 := 0) (bs1 := 0) (bc2 := 0) (bs2 := 0) rfl rfl rfl rfl ok26 rfl rfl (by decide) rfl rfl rfl rfl rfl rfl ?_
      refine x_markGiven hX hW hp (by omega) ?_
      refine x_aload_n rfl rfl ?_
      refine x_getR (u := .ref _) rfl rfl rfl rfl ?_
      refine x_iload_n rfl rfl ?_
      refine x_iload_n rfl rfl ?_
      refine x_callV (M' := mi101) (As := [_, _]) (bc1 := 0) (bs1 := 0) (bc2 := 0) (bs2 := 0) rfl rfl rfl rfl ok101 rfl rfl (by decide) rfl rfl rfl rfl rfl rfl ?_
      refine s_markOf_in hX.n hp h6 (by omega) ?_
      rw [hX.mark hp (by omega)]
      refine x_icmpN_eq rfl (fun c38 => ?_) (fun c38 => ?_)
      · exact absurd c38 (by first | decide | omega)
      refine x_iconstN (q := 1) rfl ?_
      refine x_goto rfl ?_
      refine x_iaddN rfl ?_
      refine x_istore_n (ls' := [_, _, _, _]) rfl rfl rfl ?_
      refine x_iincN (q := 1) (ls' := [_, _, _, _]) rfl rfl rfl rfl ?_
      refine x_goto rfl ?_
      exact hk
set_option maxRecDepth 20000 in
theorem x_gout_loop (hX : RW 3 K VI) (hW : WF K) (hP : P (some (.int (nI (gcnt K (4 * K 93))))) (LY ++ ext) VI VL (vr G)) : ∀ (m p : Nat) (z : Value), p + m = K 93 → Ex (d + 4) mi25 4 [.ref 70, .int (nI (gcnt K (4 * p))), .int (nI p), z] [] (LY ++ ext) VI VL (vr G) 0 0 P := by
  have h6 := hW.n
  intro m
  induction m with
  | zero =>
    intro p z hp
    have e : p = K 93 := by omega
    subst e
    refine x_iload_n rfl rfl ?_
    refine x_aload_n rfl rfl ?_
    refine x_getR (u := .ref _) rfl rfl rfl rfl ?_
    refine x_getE (y := 0) rfl rfl rfl (hX.n) ?_
    refine x_icmpN_ge rfl (fun c12 => ?_) (fun c12 => ?_)
    rotate_left
    · exact absurd c12 (by first | decide | omega)
    refine x_iload_n rfl rfl ?_
    refine x_iret rfl rfl ?_
    exact hP | succ m ih =>
    intro p z hp
    refine x_iload_n rfl rfl ?_
    refine x_aload_n rfl rfl ?_
    refine x_getR (u := .ref _) rfl rfl rfl rfl ?_
    refine x_getE (y := 0) rfl rfl rfl (hX.n) ?_
    refine x_icmpN_ge rfl (fun c12 => ?_) (fun c12 => ?_)
    · exact absurd c12 (by first | decide | omega)
    refine x_iconstN (q := 0) rfl ?_
    refine x_istore_n (ls' := [_, _, _, _]) rfl rfl rfl ?_
    skip
    refine x_gin_loop hX hW (by omega) (fun z => ?_) 4 0 rfl
    refine x_iincN (q := 1) (ls' := [_, _, _, _]) rfl rfl rfl rfl ?_
    refine x_goto rfl ?_
    exact ih (p + 1) _ (by omega)
set_option maxRecDepth 20000 in
theorem x_countGivings (hX : RW 3 K VI) (hW : WF K) (hP : P (some (.int (nI (gcnt K (4 * K 93))))) (LY ++ ext) VI VL (vr G)) : Ex (d + 4) mi25 0 (entL [.ref 70] 4) [] (LY ++ ext) VI VL (vr G) 0 0 P := by
  refine x_iconstN (q := 0) rfl ?_
  refine x_istore_n (ls' := [_, _, _, _]) rfl rfl rfl ?_
  refine x_iconstN (q := 0) rfl ?_
  refine x_istore_n (ls' := [_, _, _, _]) rfl rfl rfl ?_
  exact x_gout_loop hX hW hP (K 93) 0 _ (by omega)
set_option maxRecDepth 20000 in
theorem x_givings0 (hX : RW 3 K VI) (hW : WF K) (hP : P (some (.int (nI (gcnt K (4 * K 93))))) (LY ++ ext) VI VL (vr G)) : Ex (d + 5) mi132 0 (entL [.ref 0, .int (nI 0)] 2) [] (LY ++ ext) VI VL (vr G) 0 0 P := by
  refine x_iload_n rfl rfl ?_
  refine x_ifN_ne rfl (fun c1 => ?_) (fun c1 => ?_)
  · exact absurd c1 (by first | decide | omega)
  refine x_aload_n rfl rfl ?_
  refine x_getR (u := .ref _) rfl rfl rfl rfl ?_
  refine x_callV (M' := mi25) (As := []) (bc1 := 0) (bs1 := 0) (bc2 := 0) (bs2 := 0) rfl rfl rfl rfl ok25 rfl rfl (by decide) rfl rfl rfl rfl rfl rfl ?_
  refine x_countGivings hX hW ?_
  refine x_iret rfl rfl ?_
  exact hP
set_option maxRecDepth 20000 in
theorem x_givings {w : Nat} (hX : RW 3 K VI) (hW : WF K) (h0 : 0 < w) (hw : w ≤ 4 * K 93) (hP : P (some (.int (nI (gv K ((w - 1) / 4) ((w - 1) % 4))))) (LY ++ ext) VI VL (vr G)) : Ex (d + 5) mi132 0 (entL [.ref 0, .int (nI w)] 2) [] (LY ++ ext) VI VL (vr G) 0 0 P := by
  have h6 := hW.n
  refine x_iload_n rfl rfl ?_
  refine x_ifN_ne rfl (fun c1 => ?_) (fun c1 => ?_)
  rotate_left
  · exact absurd c1 (by first | decide | omega)
  refine x_iload_n rfl rfl ?_
  refine x_ifN_lt rfl ?_
  refine x_aload_n rfl rfl ?_
  refine x_getR (u := .ref _) rfl rfl rfl rfl ?_
  refine x_iload_n rfl rfl ?_
  refine x_iconstN (q := 1) rfl ?_
  refine x_isubN rfl ?_
  refine x_iconstN (q := 4) rfl ?_
  refine x_idivN rfl ?_
  refine x_callV (M' := mi95) (As := [_]) (bc1 := 0) (bs1 := 0) (bc2 := 0) (bs2 := 0) rfl rfl rfl rfl ok95 rfl rfl (by decide) rfl rfl rfl rfl rfl rfl ?_
  refine s_hasPersonK hX ?_
  rw [hasF_in (by omega) (by omega)]
  refine x_if_ne rfl (fun c28 => ?_) (fun c28 => ?_)
  rotate_left
  · exact absurd c28 (by first | decide | omega)
  refine x_aload_n rfl rfl ?_
  refine x_getR (u := .ref _) rfl rfl rfl rfl ?_
  refine x_iload_n rfl rfl ?_
  refine x_iconstN (q := 1) rfl ?_
  refine x_isubN rfl ?_
  refine x_iconstN (q := 4) rfl ?_
  refine x_idivN rfl ?_
  refine x_iload_n rfl rfl ?_
  refine x_iconstN (q := 1) rfl ?_
  refine x_isubN rfl ?_
  refine x_iconstN (q := 4) rfl ?_
  refine x_iremN rfl ?_
  refine x_callV (M' := mi26) (As := [_, _]) (bc1 := 0) (bs1 := 0) (bc2 := 0) (bs2 := 0) rfl rfl rfl rfl ok26 rfl rfl (by decide) rfl rfl rfl rfl rfl rfl ?_
  refine x_markGiven hX hW (by omega) (by omega) ?_
  refine x_iret rfl rfl ?_
  exact hP
set_option maxRecDepth 20000 in
theorem x_givings_n {w : Int32} (hw : w < 0) (hP : P (some (.int (-1))) (LY ++ ext) VI VL (vr G)) : Ex (d + 5) mi132 0 (entL [.ref 0, .int w] 2) [] (LY ++ ext) VI VL (vr G) 0 0 P := by
  have e : ¬ w = 0 := fun e => by rw [e] at hw; exact absurd hw (by decide)
  refine x_iload_n rfl rfl ?_
  refine x_if_ne rfl (fun c1 => ?_) (fun c1 => ?_)
  rotate_left
  · exact absurd c1 e
  refine x_iload_n rfl rfl ?_
  refine x_if_lt rfl (fun c13 => ?_) (fun c13 => ?_)
  rotate_left
  · exact absurd hw c13
  refine x_iconst rfl ?_
  refine x_iret rfl rfl ?_
  exact hP
set_option maxRecDepth 20000 in
theorem x_givings_b {w : Nat} (hX : RW 3 K VI) (hW : WF K) (h0 : 4 * K 93 < w) (hw : w < 2147483648) (hP : P (some (.int (-1))) (LY ++ ext) VI VL (vr G)) : Ex (d + 5) mi132 0 (entL [.ref 0, .int (nI w)] 2) [] (LY ++ ext) VI VL (vr G) 0 0 P := by
  have h6 := hW.n
  refine x_iload_n rfl rfl ?_
  refine x_ifN_ne rfl (fun c1 => ?_) (fun c1 => ?_)
  rotate_left
  · exact absurd c1 (by first | decide | omega)
  refine x_iload_n rfl rfl ?_
  refine x_ifN_lt rfl ?_
  refine x_aload_n rfl rfl ?_
  refine x_getR (u := .ref _) rfl rfl rfl rfl ?_
  refine x_iload_n rfl rfl ?_
  refine x_iconstN (q := 1) rfl ?_
  refine x_isubN rfl ?_
  refine x_iconstN (q := 4) rfl ?_
  refine x_idivN rfl ?_
  refine x_callV (M' := mi95) (As := [_]) (bc1 := 0) (bs1 := 0) (bc2 := 0) (bs2 := 0) rfl rfl rfl rfl ok95 rfl rfl (by decide) rfl rfl rfl rfl rfl rfl ?_
  refine s_hasPersonK hX ?_
  rw [hasF_big (by rw [Int32.le_iff_toInt_le, nI_toInt (by omega), nI_toInt (by omega)]; omega)]
  refine x_if_ne rfl (fun c28 => ?_) (fun c28 => ?_)
  · exact absurd c28 (by first | decide | omega)
  refine x_iconst rfl ?_
  refine x_iret rfl rfl ?_
  exact hP
end Giv
