/-! ===== givings: the model, joined ===== -/
def FrC (V0 V : VIT) : Prop := ∀ a k, a ≠ 96 → V a k = V0 a k
def FrG (V0 V : VIT) : Prop := ∀ a k, a ≠ 96 → a ≠ 95 → V a k = V0 a k
set_option maxRecDepth 20000 in
theorem FrG.row {V0 V : VIT} (h : FrG V0 V) : V 76 = V0 76 := funext (fun k => h 76 k (by omega) (by omega))
section Giv2
variable {d : Nat} {V0 : VIT} {VL : VLT} {G : VRT} {P : Post} {ext : HL} {K : KT} {p q h : Nat}
set_option maxRecDepth 20000 in
theorem m_c0_loop (hP : ∀ V : VIT, FrC V0 V → (∀ k, k < 4 → V 96 k = nI 0) → ∀ z y : Value, Ex (d + 1) mi255 20 [.ref 74, .int (nI h), .int (nI q), z, .retAddr 9] [] (LY ++ ext) V VL (vr G) 0 0 P) : ∀ (m i : Nat) (V : VIT), i + m = 4 → FrC V0 V → (∀ k, k < i → V 96 k = nI 0) → Ex (d + 1) mi255 2 [.ref 74, .int (nI h), .int (nI q), .int (nI i), .retAddr 9] [] (LY ++ ext) V VL (vr G) 0 0 P := by
  intro m
  induction m with
  | zero =>
    intro i V hi hF h0
    have e : i = 4 := by omega
    subst e
    refine x_iload_n rfl rfl ?_
    refine x_iconstN (q := 4) rfl ?_
    refine x_icmpN_ge rfl (fun c4 => ?_) (fun c4 => ?_)
    rotate_left
    · exact absurd c4 (by first | decide | omega)
    exact hP V hF h0 _ .null | succ m ih =>
    intro i V hi hF h0
    refine x_iload_n rfl rfl ?_
    refine x_iconstN (q := 4) rfl ?_
    refine x_icmpN_ge rfl (fun c4 => ?_) (fun c4 => ?_)
    · exact absurd c4 (by first | decide | omega)
    refine x_aload_n rfl rfl ?_
    refine x_getR (u := .ref _) rfl rfl rfl rfl ?_
    refine x_iload_n rfl rfl ?_
    refine x_iconstN (q := 0) rfl ?_
    refine x_iasN (j := i) rfl rfl (rfl) (by omega) ?_
    refine x_iincN (q := 1) (ls' := [_, _, _, _, _]) rfl rfl rfl rfl ?_
    refine x_goto rfl ?_
    skip
    refine ih (i + 1) _ (by omega) (fun a k ha => by rw [up_ne ha]; exact hF a k ha) (fun k hk => ?_)
    by_cases c : k = i
    · subst c; exact up_at
    · rw [up_at' c]; exact h0 k (by omega)
set_option maxRecDepth 20000 in
theorem m_c1_loop (hM : RK (V0 76) K) (hW : WF K) (hh : h < 64) (hq : q < 4) (hP : ∀ V : VIT, FrC V0 V → (∀ k, k < 4 → V 96 k = nI (cnt K q h k (K 93))) → ∀ z : Value, Ex (d + 1) mi255 62 [.ref 74, .int (nI h), .int (nI q), z, .retAddr 9] [] (LY ++ ext) V VL (vr G) 0 0 P) : ∀ (m i : Nat) (V : VIT), i + m = K 93 → FrC V0 V → (∀ k, k < 4 → V 96 k = nI (cnt K q h k i)) → Ex (d + 1) mi255 22 [.ref 74, .int (nI h), .int (nI q), .int (nI i), .retAddr 9] [] (LY ++ ext) V VL (vr G) 0 0 P := by
  have h6 := hW.n
  intro m
  induction m with
  | zero =>
    intro i V hi hF h0
    have e : i = K 93 := by omega
    have hM1 : RK (V 76) K := by rw [show V 76 = V0 76 from funext (fun k => hF 76 k (by omega))]; exact hM
    subst e
    refine x_iload_n rfl rfl ?_
    refine x_aload_n rfl rfl ?_
    refine x_getR (u := .ref _) rfl rfl rfl rfl ?_
    refine x_bipushN (q := 93) rfl ?_
    refine x_ialE (j := 93) rfl rfl (rfl) (by omega) (hM1.at 93) ?_
    refine x_icmpN_ge rfl (fun c30 => ?_) (fun c30 => ?_)
    rotate_left
    · exact absurd c30 (by first | decide | omega)
    exact hP V hF h0 _ | succ m ih =>
    intro i V hi hF h0
    have hM1 : RK (V 76) K := by rw [show V 76 = V0 76 from funext (fun k => hF 76 k (by omega))]; exact hM
    have hm := hW.mark (show i < K 93 by omega) hq
    have hc := cnt_le (K := K) (q := q) (h := h) (k := K (4 * i + q)) i
    rcases hb : h.testBit i with _ | _
    · have hk := ih (i + 1) V (by omega) hF (fun k hk => by
        rw [Nat.testBit_eq_decide_div_mod_eq, decide_eq_false_iff_not] at hb
        show _ = nI (cnt K q h k i + (if _ then _ else _))
        rw [if_neg (fun z => hb z.1)]; exact h0 k hk)
      refine x_iload_n rfl rfl ?_
      refine x_aload_n rfl rfl ?_
      refine x_getR (u := .ref _) rfl rfl rfl rfl ?_
      refine x_bipushN (q := 93) rfl ?_
      refine x_ialE (j := 93) rfl rfl (rfl) (by omega) (hM1.at 93) ?_
      refine x_icmpN_ge rfl (fun c30 => ?_) (fun c30 => ?_)
      · exact absurd c30 (by first | decide | omega)
      refine x_iload_n rfl rfl ?_
      refine x_iload_n rfl rfl ?_
      refine x_callS (M' := mi157) (As := [_, _]) (bc1 := 0) (bs1 := 0) (bc2 := 0) (bs2 := 0) rfl rfl rfl rfl ok157 rfl rfl rfl rfl rfl rfl ?_
      refine m_isIn (by omega) (by omega) ?_
      rw [hb]
      refine x_if_eq rfl (fun c38 => ?_) (fun c38 => ?_)
      rotate_left
      · exact absurd c38 (by first | decide | omega)
      refine x_iincN (q := 1) (ls' := [_, _, _, _, _]) rfl rfl rfl rfl ?_
      refine x_goto rfl ?_
      exact hk
    · have hk := ih (i + 1) (up V 96 (K (4 * i + q)) (nI (cnt K q h (K (4 * i + q)) i + 1))) (by omega) (fun a k ha => by rw [up_ne ha]; exact hF a k ha) (fun k hk => by
        rw [Nat.testBit_eq_decide_div_mod_eq, decide_eq_true_eq] at hb
        show _ = nI (cnt K q h k i + (if _ then _ else _))
        by_cases c : k = K (4 * i + q)
        · subst c; rw [up_at, if_pos ⟨hb, rfl⟩]
        · rw [up_at' c, if_neg (fun z => c z.2.symm)]; exact h0 k hk)
      refine x_iload_n rfl rfl ?_
      refine x_aload_n rfl rfl ?_
      refine x_getR (u := .ref _) rfl rfl rfl rfl ?_
      refine x_bipushN (q := 93) rfl ?_
      refine x_ialE (j := 93) rfl rfl (rfl) (by omega) (hM1.at 93) ?_
      refine x_icmpN_ge rfl (fun c30 => ?_) (fun c30 => ?_)
      · exact absurd c30 (by first | decide | omega)
      refine x_iload_n rfl rfl ?_
      refine x_iload_n rfl rfl ?_
      refine x_callS (M' := mi157) (As := [_, _]) (bc1 := 0) (bs1 := 0) (bc2 := 0) (bs2 := 0) rfl rfl rfl rfl ok157 rfl rfl rfl rfl rfl rfl ?_
      refine m_isIn (by omega) (by omega) ?_
      rw [hb]
      refine x_if_eq rfl (fun c38 => ?_) (fun c38 => ?_)
      · exact absurd c38 (by first | decide | omega)
      refine x_aload_n rfl rfl ?_
      refine x_getR (u := .ref _) rfl rfl rfl rfl ?_
      refine x_aload_n rfl rfl ?_
      refine x_iload_n rfl rfl ?_
      refine x_iload_n rfl rfl ?_
      refine x_callV (M' := mi168) (As := [_, _]) (bc1 := 0) (bs1 := 0) (bc2 := 0) (bs2 := 0) rfl rfl rfl rfl ok168 rfl rfl (by decide) rfl rfl rfl rfl rfl rfl ?_
      refine m_markOf (by omega) hq ?_
      rw [hM1.at (4 * i + q)]
      refine x_dup2 rfl rfl rfl ?_
      refine x_ialE (j := K (4 * i + q)) rfl rfl (rfl) (by omega) (h0 _ hm) ?_
      refine x_iconstN (q := 1) rfl ?_
      refine x_iaddN rfl ?_
      refine x_iasN (j := K (4 * i + q)) rfl rfl (rfl) (by omega) ?_
      refine x_iincN (q := 1) (ls' := [_, _, _, _, _]) rfl rfl rfl rfl ?_
      refine x_goto rfl ?_
      exact hk
set_option maxRecDepth 20000 in
theorem m_c2_loop {c : Nat → Nat} {V : VIT} (hc6 : ∀ k, c k ≤ 6) (h0 : ∀ k, k < 4 → V 96 k = nI (c k)) (hP : P (some (.int (nI (bM c 3)))) (LY ++ ext) V VL (vr G)) : ∀ (m t : Nat), t + m = 3 → Ex (d + 1) mi255 67 [.ref 74, .int (nI h), .int (nI q), .int (nI (bM c t)), .int (nI (t + 1))] [] (LY ++ ext) V VL (vr G) 0 0 P := by
  intro m
  induction m with
  | zero =>
    intro t ht
    have e : t = 3 := by omega
    subst e
    refine x_iload rfl rfl ?_
    refine x_iconstN (q := 4) rfl ?_
    refine x_icmpN_ge rfl (fun c70 => ?_) (fun c70 => ?_)
    rotate_left
    · exact absurd c70 (by first | decide | omega)
    refine x_iload_n rfl rfl ?_
    refine x_iret rfl rfl ?_
    exact hP | succ m ih =>
    intro t ht
    have hb := bM_le c t
    have q1 := hc6 (t + 1)
    have q2 := hc6 (bM c t)
    have hk := ih (t + 1) (by omega)
    by_cases e : c (bM c t) < c (t + 1)
    · rw [show bM c (t + 1) = t + 1 from if_pos e] at hk
      refine x_iload rfl rfl ?_
      refine x_iconstN (q := 4) rfl ?_
      refine x_icmpN_ge rfl (fun c70 => ?_) (fun c70 => ?_)
      · exact absurd c70 (by first | decide | omega)
      refine x_aload_n rfl rfl ?_
      refine x_getR (u := .ref _) rfl rfl rfl rfl ?_
      refine x_iload rfl rfl ?_
      refine x_ialE (j := t + 1) rfl rfl (rfl) (by omega) (h0 (t + 1) (by omega)) ?_
      refine x_aload_n rfl rfl ?_
      refine x_getR (u := .ref _) rfl rfl rfl rfl ?_
      refine x_iload_n rfl rfl ?_
      refine x_ialE (j := bM c t) rfl rfl (rfl) (by omega) (h0 (bM c t) (by omega)) ?_
      refine x_icmpN_le rfl (fun c86 => ?_) (fun c86 => ?_)
      · exact absurd c86 (by first | decide | omega)
      refine x_iload rfl rfl ?_
      refine x_istore_n (ls' := [_, _, _, _, _]) rfl rfl rfl ?_
      refine x_iincN (q := 1) (ls' := [_, _, _, _, _]) rfl rfl rfl rfl ?_
      refine x_goto rfl ?_
      exact hk
    · rw [show bM c (t + 1) = bM c t from if_neg e] at hk
      refine x_iload rfl rfl ?_
      refine x_iconstN (q := 4) rfl ?_
      refine x_icmpN_ge rfl (fun c70 => ?_) (fun c70 => ?_)
      · exact absurd c70 (by first | decide | omega)
      refine x_aload_n rfl rfl ?_
      refine x_getR (u := .ref _) rfl rfl rfl rfl ?_
      refine x_iload rfl rfl ?_
      refine x_ialE (j := t + 1) rfl rfl (rfl) (by omega) (h0 (t + 1) (by omega)) ?_
      refine x_aload_n rfl rfl ?_
      refine x_getR (u := .ref _) rfl rfl rfl rfl ?_
      refine x_iload_n rfl rfl ?_
      refine x_ialE (j := bM c t) rfl rfl (rfl) (by omega) (h0 (bM c t) (by omega)) ?_
      refine x_icmpN_le rfl (fun c86 => ?_) (fun c86 => ?_)
      rotate_left
      · exact absurd c86 (by first | decide | omega)
      refine x_iincN (q := 1) (ls' := [_, _, _, _, _]) rfl rfl rfl rfl ?_
      refine x_goto rfl ?_
      exact hk
set_option maxRecDepth 20000 in
theorem m_commonest (hM : RK (V0 76) K) (hW : WF K) (hh : h < 64) (hq : q < 4) (hP : ∀ V : VIT, FrC V0 V → P (some (.int (nI (bM (fun k => cnt K q h k (K 93)) 3)))) (LY ++ ext) V VL (vr G)) : Ex (d + 1) mi255 0 (entL [.ref 74, .int (nI h), .int (nI q)] 5) [] (LY ++ ext) V0 VL (vr G) 0 0 P := by
  have h6 := hW.n
  refine x_iconstN (q := 0) rfl ?_
  refine x_istore_n (ls' := [_, _, _, _, _]) rfl rfl rfl ?_
  skip
  refine m_c0_loop (fun V hF h0 z y => ?_) 4 0 V0 rfl (fun _ _ _ => rfl) (fun k hk => absurd hk (by omega))
  refine x_iconstN (q := 0) rfl ?_
  refine x_istore_n (ls' := [_, _, _, _, _]) rfl rfl rfl ?_
  skip
  refine m_c1_loop (V0 := V0) hM hW hh hq (fun V hF h0 z => ?_) (K 93) 0 V (by omega) hF h0
  refine x_iconstN (q := 0) rfl ?_
  refine x_istore_n (ls' := [_, _, _, _, _]) rfl rfl rfl ?_
  refine x_iconstN (q := 1) rfl ?_
  refine x_istore (ls' := [_, _, _, _, _]) rfl rfl rfl ?_
  exact m_c2_loop (c := (fun k => cnt K q h k (K 93))) (fun k => Nat.le_trans (cnt_le _) h6) h0 (hP V hF) 3 0 rfl
def GA (K : KT) (i : Nat) (V : VIT) : Prop := ∀ k, k < i → V 95 k = nI (gv K (k / 4) (k % 4))
set_option maxRecDepth 20000 in
theorem m_gin_loop (hM : RK (V0 76) K) (hW : WF K) (hp : p < K 93) (hP : ∀ (V : VIT) (z y : Value), FrG V0 V → GA K (4 * p + 4) V → Ex (d + 4) mi256 89 [.ref 74, .int (nI (gcnt K (4 * p + 4))), .int (nI p), z, y] [] (LY ++ ext) V VL (vr G) 0 0 P) : ∀ (m q : Nat) (V : VIT) (y : Value), q + m = 4 → FrG V0 V → GA K (4 * p + q) V → Ex (d + 4) mi256 17 [.ref 74, .int (nI (gcnt K (4 * p + q))), .int (nI p), .int (nI q), y] [] (LY ++ ext) V VL (vr G) 0 0 P := by
  have h6 := hW.n
  intro m
  induction m with
  | zero =>
    intro q V y hq hF hA
    have e : q = 4 := by omega
    subst e
    refine x_iload_n rfl rfl ?_
    refine x_iconstN (q := 4) rfl ?_
    refine x_icmpN_ge rfl (fun c19 => ?_) (fun c19 => ?_)
    rotate_left
    · exact absurd c19 (by first | decide | omega)
    exact hP V _ _ hF hA | succ m ih =>
    intro q V y hq hF hA
    have hm := hW.mark hp (show q < 4 by omega)
    have hg := gv_lt hW hp (show q < 4 by omega)
    have hgl := gcnt_le (K := K) (4 * p + q)
    have hlv := hW.life hp
    have hM1 : RK (V 76) K := by rw [hF.row]; exact hM
    have hk : ∀ (W : VIT) (y : Value), FrG V0 W → GA K (4 * p + q) W → _ := fun W y w1 w2 => ih (q + 1) (up W 95 (4 * p + q) (nI (gv K p q))) y (by omega) (fun a k q1 q2 => by rw [up_ne q2]; exact w1 a k q1 q2) (fun k hk => by
      by_cases c : k = 4 * p + q
      · subst c; rw [up_at, show (4 * p + q) / 4 = p by omega, show (4 * p + q) % 4 = q by omega]
      · rw [up_at' c]; exact w2 k (by omega))
    rw [show 4 * p + (q + 1) = 4 * p + q + 1 by omega, gcnt_step (by omega)] at hk
    by_cases cl : K (24 + p) = 1
    · have eg : gv K p q = bM (fun k => cnt K q (hit K q p 6) k (K 93)) 3 := if_pos cl
      refine x_iload_n rfl rfl ?_
      refine x_iconstN (q := 4) rfl ?_
      refine x_icmpN_ge rfl (fun c19 => ?_) (fun c19 => ?_)
      · exact absurd c19 (by first | decide | omega)
      refine x_aload_n rfl rfl ?_
      refine x_iload_n rfl rfl ?_
      refine x_callV (M' := mi167) (As := [_]) (bc1 := 0) (bs1 := 0) (bc2 := 0) (bs2 := 0) rfl rfl rfl rfl ok167 rfl rfl (by decide) rfl rfl rfl rfl rfl rfl ?_
      refine m_lives (by omega) ?_
      rw [b1_life (hM1.at (24 + p)) hlv]
      refine x_ifN_eq rfl (fun c27 => ?_) (fun c27 => ?_)
      · exact absurd c27 (by first | decide | omega)
      refine x_aload_n rfl rfl ?_
      refine x_aload_n rfl rfl ?_
      refine x_iload_n rfl rfl ?_
      refine x_iload_n rfl rfl ?_
      refine x_callV (M' := mi254) (As := [_, _]) (bc1 := 0) (bs1 := 0) (bc2 := 0) (bs2 := 0) rfl rfl rfl rfl ok254 rfl rfl (by decide) rfl rfl rfl rfl rfl rfl ?_
      refine m_heapOf hM1 hW (by omega) (by omega) ?_
      refine x_iload_n rfl rfl ?_
      refine x_callV (M' := mi255) (As := [_, _]) (bc1 := 0) (bs1 := 0) (bc2 := 0) (bs2 := 0) rfl rfl rfl rfl ok255 rfl rfl (by decide) rfl rfl rfl rfl rfl rfl ?_
      refine m_commonest hM1 hW (hit_lt hW (by omega) 6) (by omega) (fun W hC => ?_)
      refine x_goto rfl ?_
      skip
      have hF2 : FrG V0 W := fun a k q1 q2 => (hC a k q1).trans (hF a k q1 q2)
      have hA2 : GA K (4 * p + q) W := fun k hk => (hC 95 k (by omega)).trans (hA k hk)
      have hM2 : RK (W 76) K := by rw [hF2.row]; exact hM
      have hk2 := fun y => hk W y hF2 hA2
      rw [← eg]
      by_cases c : gv K p q = K (4 * p + q)
      · rw [if_pos c] at hk2
        refine x_istore (ls' := [_, _, _, _, _]) rfl rfl rfl ?_
        refine x_iload_n rfl rfl ?_
        refine x_iload rfl rfl ?_
        refine x_aload_n rfl rfl ?_
        refine x_iload_n rfl rfl ?_
        refine x_iload_n rfl rfl ?_
        refine x_callV (M' := mi168) (As := [_, _]) (bc1 := 0) (bs1 := 0) (bc2 := 0) (bs2 := 0) rfl rfl rfl rfl ok168 rfl rfl (by decide) rfl rfl rfl rfl rfl rfl ?_
        refine m_markOf (by omega) (by omega) ?_
        rw [hM2.at (4 * p + q)]
        refine x_icmpN_ne rfl (fun c61 => ?_) (fun c61 => ?_)
        · exact absurd c61 (by first | decide | omega)
        refine x_iconstN (q := 0) rfl ?_
        refine x_goto rfl ?_
        refine x_iaddN rfl ?_
        refine x_istore_n (ls' := [_, _, _, _, _]) rfl rfl rfl ?_
        refine x_aload_n rfl rfl ?_
        refine x_getR (u := .ref _) rfl rfl rfl rfl ?_
        refine x_iconstN (q := 4) rfl ?_
        refine x_iload_n rfl rfl ?_
        refine x_imulN rfl ?_
        refine x_iload_n rfl rfl ?_
        refine x_iaddN rfl ?_
        refine x_iload rfl rfl ?_
        refine x_iasN (j := 4 * p + q) rfl rfl (rfl) (by omega) ?_
        refine x_iincN (q := 1) (ls' := [_, _, _, _, _]) rfl rfl rfl rfl ?_
        refine x_goto rfl ?_
        exact hk2 _
      · rw [if_neg c] at hk2
        refine x_istore (ls' := [_, _, _, _, _]) rfl rfl rfl ?_
        refine x_iload_n rfl rfl ?_
        refine x_iload rfl rfl ?_
        refine x_aload_n rfl rfl ?_
        refine x_iload_n rfl rfl ?_
        refine x_iload_n rfl rfl ?_
        refine x_callV (M' := mi168) (As := [_, _]) (bc1 := 0) (bs1 := 0) (bc2 := 0) (bs2 := 0) rfl rfl rfl rfl ok168 rfl rfl (by decide) rfl rfl rfl rfl rfl rfl ?_
        refine m_markOf (by omega) (by omega) ?_
        rw [hM2.at (4 * p + q)]
        refine x_icmpN_ne rfl (fun c61 => ?_) (fun c61 => ?_)
        rotate_left
        · exact absurd c61 (by first | decide | omega)
        refine x_iconstN (q := 1) rfl ?_
        refine x_iaddN rfl ?_
        refine x_istore_n (ls' := [_, _, _, _, _]) rfl rfl rfl ?_
        refine x_aload_n rfl rfl ?_
        refine x_getR (u := .ref _) rfl rfl rfl rfl ?_
        refine x_iconstN (q := 4) rfl ?_
        refine x_iload_n rfl rfl ?_
        refine x_imulN rfl ?_
        refine x_iload_n rfl rfl ?_
        refine x_iaddN rfl ?_
        refine x_iload rfl rfl ?_
        refine x_iasN (j := 4 * p + q) rfl rfl (rfl) (by omega) ?_
        refine x_iincN (q := 1) (ls' := [_, _, _, _, _]) rfl rfl rfl rfl ?_
        refine x_goto rfl ?_
        exact hk2 _
    · have eg : gv K p q = K (4 * p + q) := if_neg cl
      have hk2 := fun y => hk V y hF hA
      rw [if_pos eg, eg] at hk2
      refine x_iload_n rfl rfl ?_
      refine x_iconstN (q := 4) rfl ?_
      refine x_icmpN_ge rfl (fun c19 => ?_) (fun c19 => ?_)
      · exact absurd c19 (by first | decide | omega)
      refine x_aload_n rfl rfl ?_
      refine x_iload_n rfl rfl ?_
      refine x_callV (M' := mi167) (As := [_]) (bc1 := 0) (bs1 := 0) (bc2 := 0) (bs2 := 0) rfl rfl rfl rfl ok167 rfl rfl (by decide) rfl rfl rfl rfl rfl rfl ?_
      refine m_lives (by omega) ?_
      rw [b1_life (hM1.at (24 + p)) hlv]
      refine x_ifN_eq rfl (fun c27 => ?_) (fun c27 => ?_)
      rotate_left
      · exact absurd c27 (by first | decide | omega)
      refine x_aload_n rfl rfl ?_
      refine x_iload_n rfl rfl ?_
      refine x_iload_n rfl rfl ?_
      refine x_callV (M' := mi168) (As := [_, _]) (bc1 := 0) (bs1 := 0) (bc2 := 0) (bs2 := 0) rfl rfl rfl rfl ok168 rfl rfl (by decide) rfl rfl rfl rfl rfl rfl ?_
      refine m_markOf (by omega) (by omega) ?_
      rw [hM1.at (4 * p + q)]
      refine x_istore (ls' := [_, _, _, _, _]) rfl rfl rfl ?_
      refine x_iload_n rfl rfl ?_
      refine x_iload rfl rfl ?_
      refine x_aload_n rfl rfl ?_
      refine x_iload_n rfl rfl ?_
      refine x_iload_n rfl rfl ?_
      refine x_callV (M' := mi168) (As := [_, _]) (bc1 := 0) (bs1 := 0) (bc2 := 0) (bs2 := 0) rfl rfl rfl rfl ok168 rfl rfl (by decide) rfl rfl rfl rfl rfl rfl ?_
      refine m_markOf (by omega) (by omega) ?_
      rw [hM1.at (4 * p + q)]
      refine x_icmpN_ne rfl (fun c61 => ?_) (fun c61 => ?_)
      · exact absurd c61 (by first | decide | omega)
      refine x_iconstN (q := 0) rfl ?_
      refine x_goto rfl ?_
      refine x_iaddN rfl ?_
      refine x_istore_n (ls' := [_, _, _, _, _]) rfl rfl rfl ?_
      refine x_aload_n rfl rfl ?_
      refine x_getR (u := .ref _) rfl rfl rfl rfl ?_
      refine x_iconstN (q := 4) rfl ?_
      refine x_iload_n rfl rfl ?_
      refine x_imulN rfl ?_
      refine x_iload_n rfl rfl ?_
      refine x_iaddN rfl ?_
      refine x_iload rfl rfl ?_
      refine x_iasN (j := 4 * p + q) rfl rfl (rfl) (by omega) ?_
      refine x_iincN (q := 1) (ls' := [_, _, _, _, _]) rfl rfl rfl rfl ?_
      refine x_goto rfl ?_
      exact hk2 _
set_option maxRecDepth 20000 in
theorem m_gout_loop (hM : RK (V0 76) K) (hW : WF K) (hP : ∀ V : VIT, FrG V0 V → GA K (4 * K 93) V → P (some (.int (nI (gcnt K (4 * K 93))))) (LY ++ ext) V VL (vr G)) : ∀ (m p : Nat) (V : VIT) (z y : Value), p + m = K 93 → FrG V0 V → GA K (4 * p) V → Ex (d + 4) mi256 4 [.ref 74, .int (nI (gcnt K (4 * p))), .int (nI p), z, y] [] (LY ++ ext) V VL (vr G) 0 0 P := by
  have h6 := hW.n
  intro m
  induction m with
  | zero =>
    intro p V z y hp hF hA
    have e : p = K 93 := by omega
    have hM1 : RK (V 76) K := by rw [hF.row]; exact hM
    subst e
    refine x_iload_n rfl rfl ?_
    refine x_aload_n rfl rfl ?_
    refine x_getR (u := .ref _) rfl rfl rfl rfl ?_
    refine x_bipushN (q := 93) rfl ?_
    refine x_ialE (j := 93) rfl rfl (rfl) (by omega) (hM1.at 93) ?_
    refine x_icmpN_ge rfl (fun c12 => ?_) (fun c12 => ?_)
    rotate_left
    · exact absurd c12 (by first | decide | omega)
    refine x_iload_n rfl rfl ?_
    refine x_iret rfl rfl ?_
    exact hP V hF hA | succ m ih =>
    intro p V z y hp hF hA
    have hM1 : RK (V 76) K := by rw [hF.row]; exact hM
    refine x_iload_n rfl rfl ?_
    refine x_aload_n rfl rfl ?_
    refine x_getR (u := .ref _) rfl rfl rfl rfl ?_
    refine x_bipushN (q := 93) rfl ?_
    refine x_ialE (j := 93) rfl rfl (rfl) (by omega) (hM1.at 93) ?_
    refine x_icmpN_ge rfl (fun c12 => ?_) (fun c12 => ?_)
    · exact absurd c12 (by first | decide | omega)
    refine x_iconstN (q := 0) rfl ?_
    refine x_istore_n (ls' := [_, _, _, _, _]) rfl rfl rfl ?_
    skip
    refine m_gin_loop (V0 := V0) hM hW (by omega) (fun V z y hF hA => ?_) 4 0 V _ rfl hF hA
    refine x_iincN (q := 1) (ls' := [_, _, _, _, _]) rfl rfl rfl rfl ?_
    refine x_goto rfl ?_
    exact ih (p + 1) V _ _ (by omega) hF hA
set_option maxRecDepth 20000 in
theorem m_laysGiven (hM : RK (V0 76) K) (hW : WF K) (hP : ∀ V : VIT, FrG V0 V → GA K (4 * K 93) V → P (some (.int (nI (gcnt K (4 * K 93))))) (LY ++ ext) V VL (vr G)) : Ex (d + 4) mi256 0 (entL [.ref 74] 5) [] (LY ++ ext) V0 VL (vr G) 0 0 P := by
  refine x_iconstN (q := 0) rfl ?_
  refine x_istore_n (ls' := [_, _, _, _, _]) rfl rfl rfl ?_
  refine x_iconstN (q := 0) rfl ?_
  refine x_istore_n (ls' := [_, _, _, _, _]) rfl rfl rfl ?_
  exact m_gout_loop hM hW hP (K 93) 0 V0 _ _ (by omega) (fun _ _ _ _ => rfl) (fun k hk => absurd hk (by omega))
set_option maxRecDepth 20000 in
theorem lies_nat {w n : Nat} (hw : w < 2147483648) (hn : n < 2147483648) : liesF (nI w) 0 (nI n) = decide (w ≤ n) := by
  by_cases c : w ≤ n
  · rw [decide_eq_true c]
    simp only [liesF, decide_eq_true_eq]
    exact ⟨nI_pos hw, fun z => by rw [Int32.lt_iff_toInt_lt, nI_toInt hw, nI_toInt hn] at z; omega⟩
  · rw [decide_eq_false c]
    simp only [liesF, decide_eq_false_iff_not, not_and, Decidable.not_not]
    intro _
    rw [Int32.lt_iff_toInt_lt, nI_toInt hw, nI_toInt hn]; omega
set_option maxRecDepth 20000 in
theorem m_givings {w : Nat} (hM : RK (V0 76) K) (hW : WF K) (hw : w ≤ 4 * K 93) (hP : ∀ V : VIT, FrG V0 V → P (some (.int (nI (if w = 0 then gcnt K (4 * K 93) else gv K ((w - 1) / 4) ((w - 1) % 4))))) (LY ++ ext) V VL (vr G)) : Ex (d + 5) mi257 0 (entL [.ref 74, .int (nI w)] 3) [] (LY ++ ext) V0 VL (vr G) 0 0 P := by
  have h6 := hW.n
  by_cases c : w = 0
  · subst c
    rw [if_pos rfl] at hP
    refine x_iload_n rfl rfl ?_
    refine x_iconst rfl ?_
    refine x_iconstN (q := 4) rfl ?_
    refine x_aload_n rfl rfl ?_
    refine x_getR (u := .ref _) rfl rfl rfl rfl ?_
    refine x_bipushN (q := 93) rfl ?_
    refine x_ialE (j := 93) rfl rfl (rfl) (by omega) (hM.at 93) ?_
    refine x_imulN rfl ?_
    refine x_callS (M' := mi152) (As := [_, _, _]) (bc1 := 0) (bs1 := 0) (bc2 := 0) (bs2 := 0) rfl rfl rfl rfl ok152 rfl rfl rfl rfl rfl rfl ?_
    refine m_lies ?_
    rw [lies_nat (by omega) (by omega), decide_eq_true hw]
    refine x_if_ne rfl (fun c14 => ?_) (fun c14 => ?_)
    rotate_left
    · exact absurd c14 (by first | decide | omega)
    refine x_aload_n rfl rfl ?_
    refine x_callV (M' := mi256) (As := []) (bc1 := 0) (bs1 := 0) (bc2 := 0) (bs2 := 0) rfl rfl rfl rfl ok256 rfl rfl (by decide) rfl rfl rfl rfl rfl rfl ?_
    refine m_laysGiven hM hW (fun V hF hA => ?_)
    refine x_istore_n (ls' := [_, _, _]) rfl rfl rfl ?_
    refine x_iload_n rfl rfl ?_
    refine x_ifN_ne rfl (fun c25 => ?_) (fun c25 => ?_)
    · exact absurd c25 (by first | decide | omega)
    refine x_iload_n rfl rfl ?_
    refine x_goto rfl ?_
    refine x_iret rfl rfl ?_
    exact hP V hF
  · rw [if_neg c] at hP
    refine x_iload_n rfl rfl ?_
    refine x_iconst rfl ?_
    refine x_iconstN (q := 4) rfl ?_
    refine x_aload_n rfl rfl ?_
    refine x_getR (u := .ref _) rfl rfl rfl rfl ?_
    refine x_bipushN (q := 93) rfl ?_
    refine x_ialE (j := 93) rfl rfl (rfl) (by omega) (hM.at 93) ?_
    refine x_imulN rfl ?_
    refine x_callS (M' := mi152) (As := [_, _, _]) (bc1 := 0) (bs1 := 0) (bc2 := 0) (bs2 := 0) rfl rfl rfl rfl ok152 rfl rfl rfl rfl rfl rfl ?_
    refine m_lies ?_
    rw [lies_nat (by omega) (by omega), decide_eq_true hw]
    refine x_if_ne rfl (fun c14 => ?_) (fun c14 => ?_)
    rotate_left
    · exact absurd c14 (by first | decide | omega)
    refine x_aload_n rfl rfl ?_
    refine x_callV (M' := mi256) (As := []) (bc1 := 0) (bs1 := 0) (bc2 := 0) (bs2 := 0) rfl rfl rfl rfl ok256 rfl rfl (by decide) rfl rfl rfl rfl rfl rfl ?_
    refine m_laysGiven hM hW (fun V hF hA => ?_)
    refine x_istore_n (ls' := [_, _, _]) rfl rfl rfl ?_
    refine x_iload_n rfl rfl ?_
    refine x_ifN_ne rfl (fun c25 => ?_) (fun c25 => ?_)
    rotate_left
    · exact absurd c25 (by first | decide | omega)
    refine x_aload_n rfl rfl ?_
    refine x_getR (u := .ref _) rfl rfl rfl rfl ?_
    refine x_iload_n rfl rfl ?_
    refine x_iconstN (q := 1) rfl ?_
    refine x_isubN rfl ?_
    refine x_ialE (j := w - 1) rfl rfl (rfl) (by omega) (hA (w - 1) (by omega)) ?_
    refine x_iret rfl rfl ?_
    exact hP V hF
set_option maxRecDepth 20000 in
theorem m_givings_d {w : Int32} (hM : RK (V0 76) K) (hW : WF K) (h : liesF w 0 (nI (4 * K 93)) = false) (hP : P (some (.int (-1))) (LY ++ ext) V0 VL (vr G)) : Ex (d + 5) mi257 0 (entL [.ref 74, .int w] 3) [] (LY ++ ext) V0 VL (vr G) 0 0 P := by
  have h6 := hW.n
  refine x_iload_n rfl rfl ?_
  refine x_iconst rfl ?_
  refine x_iconstN (q := 4) rfl ?_
  refine x_aload_n rfl rfl ?_
  refine x_getR (u := .ref _) rfl rfl rfl rfl ?_
  refine x_bipushN (q := 93) rfl ?_
  refine x_ialE (j := 93) rfl rfl (rfl) (by omega) (hM.at 93) ?_
  refine x_imulN rfl ?_
  refine x_callS (M' := mi152) (As := [_, _, _]) (bc1 := 0) (bs1 := 0) (bc2 := 0) (bs2 := 0) rfl rfl rfl rfl ok152 rfl rfl rfl rfl rfl rfl ?_
  refine m_lies ?_
  rw [h]
  refine x_if_ne rfl (fun c14 => ?_) (fun c14 => ?_)
  · exact absurd c14 (by first | decide | omega)
  refine x_iconst rfl ?_
  refine x_iret rfl rfl ?_
  exact hP
end Giv2
section Join11
variable {j : Nat} {lay : HL} {VI : VIT} {VL : VLT} {VR : VRT}
set_option maxRecDepth 20000 in
theorem j_givings {w : Int32} (h : Inv j lay VI VL VR) : Pr 100 mi132 mi257 [.int w] lay VI VL VR (Inv (j + 1)) := by
  obtain ⟨ext, G, K, tn, T, u, US, lg, rfl, rfl, hS⟩ := h
  have hI := hS.next.inv (VL := VL)
  have hW := hS.1
  have hX := hS.2.1
  have hM := hS.2.2.1
  have h6 := hW.n
  have hf : ∀ V : VIT, FrG VI V → Inv (j + 1) (LY ++ ext) V VL (vr G) := fun V hF => (hS.scratch (fun a k hk => by
    unfold kpP at hk
    exact hF a k (by omega) (by omega))).inv
  by_cases hw : w < 0
  · have hl : liesF w 0 (nI (4 * K 93)) = false := by
      simp only [liesF, decide_eq_false_iff_not, not_and]
      exact fun z => absurd hw z
    exact Pr_read (-1) (fun P q => x_givings_n hw q) (fun P q => m_givings_d hM hW hl q) hI
  · obtain ⟨i, q1, rfl⟩ := nI_of2 (M := 2147483647) (n := 2147483647) rfl hw (by rw [Int32.le_iff_toInt_le]; have := w.toInt_le; exact this)
    by_cases h1 : i ≤ 4 * K 93
    · by_cases h0 : i = 0
      · subst h0
        exact ExS.budget (bc := 0) (bs := 0) (x_givings0 hX hW ⟨_, ext, rfl, rfl, m_givings (w := 0) hM hW (by omega) (fun V hF => ⟨rfl, hf V hF⟩)⟩) (by omega) (by omega)
      · exact ExS.budget (bc := 0) (bs := 0) (x_givings hX hW (by omega) h1 ⟨_, ext, rfl, rfl, m_givings hM hW h1 (fun V hF => ⟨by rw [if_neg h0], hf V hF⟩)⟩) (by omega) (by omega)
    · have hl : liesF (nI i) 0 (nI (4 * K 93)) = false := by rw [lies_nat (by omega) (by omega), decide_eq_false h1]
      exact Pr_read (-1) (fun P q => x_givings_b hX hW (by omega) (by omega) q) (fun P q => m_givings_d hM hW hl q) hI
end Join11
