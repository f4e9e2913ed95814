/-! ===== the rows that can have been ahead of what was told ===== -/
def tbS (K : KT) (dy k r : Nat) : Nat := if K (69 + 3 * k) = dy then (raK K dy r (K (67 + 3 * k)) (K (68 + 3 * k))).getD r else r
def tbK (K : KT) (dy : Nat) : Nat → Nat → Nat → Nat
  | 0, _, r => r
  | m + 1, k, r => tbK K dy m (k + 1) (tbS K dy k r)
set_option maxRecDepth 20000 in
theorem WF.told {K : KT} (h : WF K) {k : Nat} (hk : k < K 95) : K (67 + 3 * k) < K (68 + 3 * k) ∧ K (68 + 3 * k) < K 93 ∧ K (69 + 3 * k) < 4 := h.2.2.2.2.2.2.2.2.2.2.2 k hk
set_option maxRecDepth 20000 in
theorem RW.told {w : Nat} {K : KT} {V : VIT} (h : RW w K V) {k : Nat} (hk : k < K 95) : ((V (w + 6) k = nI (K (67 + 3 * k)) ∧ V (w + 7) k = nI (K (68 + 3 * k))) ∨ (V (w + 6) k = nI (K (68 + 3 * k)) ∧ V (w + 7) k = nI (K (67 + 3 * k)))) ∧ V (w + 8) k = nI (K (69 + 3 * k)) := h.2.2.2.2.2.2.2.2.2.2.1 k hk
set_option maxRecDepth 20000 in
theorem tbS_lt {K : KT} (hW : WF K) {dy k r : Nat} (hk : k < K 95) (hr : r < 4 ^ K 93) : tbS K dy k r < 4 ^ K 93 := by
  obtain ⟨t1, t2, t3⟩ := hW.told hk
  unfold tbS
  split
  · cases h : raK K dy r (K (67 + 3 * k)) (K (68 + 3 * k)) with
    | none => exact hr
    | some t => exact raK_lt hW (by omega) t2 hr h
  · exact hr
set_option maxRecDepth 20000 in
theorem tbK_lt {K : KT} (hW : WF K) {dy : Nat} : ∀ (m k r : Nat), k + m = K 95 → r < 4 ^ K 93 → tbK K dy m k r < 4 ^ K 93
  | 0, _, _, _, h => h
  | m + 1, k, r, e, h => tbK_lt hW m (k + 1) _ (by omega) (tbS_lt hW (by omega) h)
def okR (K : KT) (dy r : Nat) : Bool := tbK K dy (K 95) 0 r == row0 K dy
/-- which digits nobody was told to have talked about -/
def fxK (K : KT) (dy : Nat) : Nat → Nat → Nat → Nat
  | 0, _, F => F
  | m + 1, k, F => fxK K dy m (k + 1) (if K (69 + 3 * k) = dy then F &&& (4294967295 ^^^ (3 * 2 ^ (2 * (K 93 - 1 - K (67 + 3 * k))))) &&& (4294967295 ^^^ (3 * 2 ^ (2 * (K 93 - 1 - K (68 + 3 * k))))) else F)
set_option maxRecDepth 20000 in
theorem and_self_l {F A G : Nat} (h : G &&& F = G) (hA : F &&& A = F) : G &&& A = G := by
  rw [← h, Nat.and_assoc, hA]
set_option maxRecDepth 20000 in
theorem fxK_sub {K : KT} {dy : Nat} : ∀ (m k F : Nat), fxK K dy m k F &&& F = fxK K dy m k F
  | 0, _, F => Nat.and_self F
  | m + 1, k, F => by
    have ih := fxK_sub (K := K) (dy := dy) m (k + 1)
    unfold fxK
    split
    · refine and_self_l (ih _) ?_
      apply Nat.eq_of_testBit_eq
      intro i
      simp only [Nat.testBit_and]
      cases F.testBit i <;> simp
    · exact ih F
set_option maxRecDepth 20000 in
theorem fxK_tok {K : KT} {dy : Nat} : ∀ (m k F j : Nat), k ≤ j → j < k + m → K (69 + 3 * j) = dy → fxK K dy m k F &&& (4294967295 ^^^ (3 * 2 ^ (2 * (K 93 - 1 - K (67 + 3 * j))))) = fxK K dy m k F ∧ fxK K dy m k F &&& (4294967295 ^^^ (3 * 2 ^ (2 * (K 93 - 1 - K (68 + 3 * j))))) = fxK K dy m k F
  | 0, _, _, _, h1, h2, _ => absurd h2 (by omega)
  | m + 1, k, F, j, h1, h2, h3 => by
    unfold fxK
    by_cases c : j = k
    · subst c
      rw [if_pos h3]
      refine ⟨and_self_l (fxK_sub m (j + 1) _) ?_, and_self_l (fxK_sub m (j + 1) _) ?_⟩
      · apply Nat.eq_of_testBit_eq
        intro i
        simp only [Nat.testBit_and]
        cases F.testBit i <;> cases (4294967295 ^^^ 3 * 2 ^ (2 * (K 93 - 1 - K (67 + 3 * j)))).testBit i <;> simp
      · rw [Nat.and_assoc, Nat.and_self]
    · exact fxK_tok m (k + 1) _ j (by omega) (by omega) h3
set_option maxRecDepth 20000 in
theorem dis0 : ∀ k, k < 6 → ∀ m, m < 4 → m * 2 ^ (2 * k) &&& (4294967295 ^^^ (3 * 2 ^ (2 * k))) = 0 := by decide +kernel
set_option maxRecDepth 20000 in
theorem or_F {r A B F x y : Nat} (hA : F &&& A = F) (hB : F &&& B = F) (hx : x &&& A = 0) (hy : y &&& B = 0) : ((r &&& A &&& B) ||| x ||| y) &&& F = r &&& F := by
  apply Nat.eq_of_testBit_eq
  intro i
  have a1 := congrArg (fun z => z.testBit i) hA
  have a2 := congrArg (fun z => z.testBit i) hB
  have a3 := congrArg (fun z => z.testBit i) hx
  have a4 := congrArg (fun z => z.testBit i) hy
  simp only [Nat.testBit_and, Nat.testBit_or, Nat.zero_testBit] at a1 a2 a3 a4 ⊢
  revert a1 a2 a3 a4
  cases r.testBit i <;> cases A.testBit i <;> cases B.testBit i <;> cases F.testBit i <;> cases x.testBit i <;> cases y.testBit i <;> decide
set_option maxRecDepth 20000 in
theorem raK_F {K : KT} (hW : WF K) {dy r p q t F : Nat} (hp : p < K 93) (hq : q < K 93) (hpq : p ≠ q) (hr : r < 4 ^ K 93) (hA : F &&& (4294967295 ^^^ (3 * 2 ^ (2 * (K 93 - 1 - p)))) = F) (hB : F &&& (4294967295 ^^^ (3 * 2 ^ (2 * (K 93 - 1 - q)))) = F) (h : raK K dy r p q = some t) : t &&& F = r &&& F := by
  have h6 := hW.n
  have h4 : r < 4096 := Nat.lt_of_lt_of_le hr (pow4_6 h6)
  unfold raK at h
  cases ho : outK K p q dy (dg (K 93) r p) (dg (K 93) r q) (K 38) with
  | none => rw [ho] at h; cases h
  | some c =>
    rw [ho] at h
    have hc := outK_lt dg_lt dg_lt ho
    simp only [Option.map_some, Option.some.injEq] at h
    rw [← h, set2_and (k := K 93 - 1 - p) (l := K 93 - 1 - q) (by omega) (by omega) (by omega) h4 (by omega) (by omega)]
    exact or_F hA hB (dis0 _ (by omega) _ (by omega)) (dis0 _ (by omega) _ (by omega))
set_option maxRecDepth 20000 in
theorem tbS_F {K : KT} (hW : WF K) {dy k r F : Nat} (hk : k < K 95) (hr : r < 4 ^ K 93) (hA : K (69 + 3 * k) = dy → F &&& (4294967295 ^^^ (3 * 2 ^ (2 * (K 93 - 1 - K (67 + 3 * k))))) = F ∧ F &&& (4294967295 ^^^ (3 * 2 ^ (2 * (K 93 - 1 - K (68 + 3 * k))))) = F) : tbS K dy k r &&& F = r &&& F := by
  obtain ⟨t1, t2, t3⟩ := hW.told hk
  unfold tbS
  split
  · rename_i hd
    cases h : raK K dy r (K (67 + 3 * k)) (K (68 + 3 * k)) with
    | none => rfl
    | some t => exact raK_F hW (by omega) t2 (by omega) hr (hA hd).1 (hA hd).2 h
  · rfl
set_option maxRecDepth 20000 in
theorem tbK_F {K : KT} (hW : WF K) {dy F : Nat} (hA : ∀ k, k < K 95 → K (69 + 3 * k) = dy → F &&& (4294967295 ^^^ (3 * 2 ^ (2 * (K 93 - 1 - K (67 + 3 * k))))) = F ∧ F &&& (4294967295 ^^^ (3 * 2 ^ (2 * (K 93 - 1 - K (68 + 3 * k))))) = F) : ∀ (m k r : Nat), k + m = K 95 → r < 4 ^ K 93 → tbK K dy m k r &&& F = r &&& F
  | 0, _, _, _, _ => rfl
  | m + 1, k, r, e, h => by
    have ih := tbK_F hW hA m (k + 1) (tbS K dy k r) (by omega) (tbS_lt hW (by omega) h)
    exact ih.trans (tbS_F hW (by omega) h (hA k (by omega)))
abbrev FxK (K : KT) (dy : Nat) : Nat := fxK K dy (K 95) 0 (2 ^ (2 * K 93) - 1)
set_option maxRecDepth 20000 in
theorem FxK_pre {K : KT} (hW : WF K) {dy r : Nat} (hr : r < 4 ^ K 93) (h : okR K dy r = true) : (r ^^^ row0 K dy) &&& FxK K dy = 0 := by
  have e := tbK_F hW (dy := dy) (F := FxK K dy) (fun k hk hd => fxK_tok (K 95) 0 _ k (by omega) (by omega) hd) (K 95) 0 r (by omega) hr
  unfold okR at h
  rw [beq_iff_eq.mp h] at e
  apply Nat.eq_of_testBit_eq
  intro i
  have a1 := congrArg (fun z => z.testBit i) e
  simp only [Nat.testBit_and, Nat.testBit_xor, Nat.zero_testBit] at a1 ⊢
  revert a1
  cases r.testBit i <;> cases (row0 K dy).testBit i <;> cases (FxK K dy).testBit i <;> decide
set_option maxRecDepth 20000 in
theorem fxK_le {K : KT} {dy m k F : Nat} : fxK K dy m k F ≤ F := by
  rw [← fxK_sub (K := K) (dy := dy) m k F]
  exact Nat.and_le_right
section Told
variable {d : Nat} {V0 V : VIT} {VL : VLT} {G : VRT} {P : Post} {ext : HL} {K : KT} {dy : Nat}
set_option maxRecDepth 20000 in
theorem told_ab (hX : RW 3 K V) (hW : WF K) {k : Nat} (hk : k < K 95) : ∃ a b, V 9 k = nI a ∧ V 10 k = nI b ∧ a < K 93 ∧ b < K 93 ∧ a ≠ b ∧ (∀ dy r, r < 4 ^ K 93 → raK K dy r a b = raK K dy r (K (67 + 3 * k)) (K (68 + 3 * k))) ∧ ((a = K (67 + 3 * k) ∧ b = K (68 + 3 * k)) ∨ (a = K (68 + 3 * k) ∧ b = K (67 + 3 * k))) := by
  obtain ⟨t1, t2, t3⟩ := hW.told hk
  rcases (hX.told hk).1 with ⟨a, b⟩ | ⟨a, b⟩
  · exact ⟨_, _, a, b, by omega, t2, by omega, fun _ _ _ => rfl, Or.inl ⟨rfl, rfl⟩⟩
  · exact ⟨_, _, a, b, t2, by omega, by omega, fun dy r hr => raK_sym hW (by omega) (by omega) t2 hr, Or.inr ⟨rfl, rfl⟩⟩
set_option maxRecDepth 20000 in
theorem s_rbt (hW : WF K) (hd4 : dy < 4) {r0 : Nat} : ∀ (m k : Nat) (V : VIT) (r : Nat) (z5 : Value), k + m = K 95 → FrQ V0 V → PaX K dy ext G V → r < 4 ^ K 93 → (∀ V' : VIT, FrQ V0 V' → PaX K dy ext G V' → P (some (.int (nI (tbK K dy m k r)))) (LY ++ ext) V' VL (vr G)) → Ex (d + 5) mi69 5 [.ref 67, .int (nI r0), .int (nI dy), .int (nI r), .int (nI k), z5] [] (LY ++ ext) V VL (vr G) 0 0 P := by
  have h6 := hW.n
  have h8 : K 95 ≤ 8 := hW.2.2.1
  intro m
  induction m with
  | zero =>
    intro k V r z5 hk hF hA hr hP
    have hX := hA.1
    refine x_iload rfl rfl ?_
    refine x_aload_n rfl rfl ?_
    refine x_getR (u := .ref _) rfl rfl rfl rfl ?_
    refine x_getE (y := 9) rfl rfl rfl (hX.tn) ?_
    refine x_icmpN_ge rfl (fun c14 => ?_) (fun c14 => ?_)
    rotate_left
    · exact absurd c14 (by first | decide | omega)
    refine x_iload_n rfl rfl ?_
    refine x_iret rfl rfl ?_
    exact hP V hF hA | succ m ih =>
    intro k V r z5 hk hF hA hr hP
    have hX := hA.1
    have hkl : k < K 95 := by omega
    obtain ⟨t1, t2, t3⟩ := hW.told hkl
    obtain ⟨a, b, ea, eb, la, lb, hab, hra, -⟩ := told_ab hX hW hkl
    have ed : V 11 k = nI (K (69 + 3 * k)) := (hX.told hkl).2
    by_cases c : K (69 + 3 * k) = dy
    · have hsl := tbS_lt hW (dy := dy) hkl hr
      have es : tbS K dy k r = (raK K dy r (K (67 + 3 * k)) (K (68 + 3 * k))).getD r := if_pos c
      refine x_iload rfl rfl ?_
      refine x_aload_n rfl rfl ?_
      refine x_getR (u := .ref _) rfl rfl rfl rfl ?_
      refine x_getE (y := 9) rfl rfl rfl (hX.tn) ?_
      refine x_icmpN_ge rfl (fun c14 => ?_) (fun c14 => ?_)
      · exact absurd c14 (by first | decide | omega)
      refine x_aload_n rfl rfl ?_
      refine x_getR (u := .ref _) rfl rfl rfl rfl ?_
      refine x_getR (u := .ref _) rfl rfl rfl rfl ?_
      refine x_iload rfl rfl ?_
      refine x_ialE (j := k) rfl rfl (rfl) (by omega) (ed) ?_
      refine x_iload_n rfl rfl ?_
      refine x_icmpN_ne rfl (fun c28 => ?_) (fun c28 => ?_)
      · exact absurd c28 (by first | decide | omega)
      refine x_aload_n rfl rfl ?_
      refine x_getR (u := .ref _) rfl rfl rfl rfl ?_
      refine x_iload_n rfl rfl ?_
      refine x_aload_n rfl rfl ?_
      refine x_getR (u := .ref _) rfl rfl rfl rfl ?_
      refine x_getR (u := .ref _) rfl rfl rfl rfl ?_
      refine x_iload rfl rfl ?_
      refine x_ialE (j := k) rfl rfl (rfl) (by omega) (ea) ?_
      refine x_aload_n rfl rfl ?_
      refine x_getR (u := .ref _) rfl rfl rfl rfl ?_
      refine x_getR (u := .ref _) rfl rfl rfl rfl ?_
      refine x_iload rfl rfl ?_
      refine x_ialE (j := k) rfl rfl (rfl) (by omega) (eb) ?_
      refine x_callV (M' := mi36) (As := [_, _, _]) (bc1 := 0) (bs1 := 0) (bc2 := 0) (bs2 := 0) rfl rfl rfl rfl ok36 rfl rfl (by decide) rfl rfl rfl rfl rfl rfl ?_
      refine s_rowAfter hA hW hd4 la lb hab hr (fun V1 hF1 hA1 => ?_)
      skip
      rw [hra dy r hr]
      have hk' : ∀ (x : Nat) (z5 : Value), x = tbS K dy k r → Ex (d + 5) mi69 74 [.ref 67, .int (nI r0), .int (nI dy), .int (nI x), .int (nI k), z5] [] (LY ++ ext) V1 VL (vr G) 0 0 P := by
        intro x z5 hx
        subst hx
        refine x_iincN (q := 1) (ls' := [_, _, _, _, _, _]) rfl rfl rfl rfl ?_
        refine x_goto rfl ?_
        exact ih (k + 1) V1 _ _ (by omega) (hF.trans hF1) hA1 hsl hP
      cases hr2 : raK K dy r (K (67 + 3 * k)) (K (68 + 3 * k)) with
      | none =>
        rw [hr2] at es
        refine x_istore (ls' := [_, _, _, _, _, _]) rfl rfl rfl ?_
        refine x_iload rfl rfl ?_
        refine x_iconst rfl ?_
        refine x_icmp_ne rfl (fun c64 => ?_) (fun c64 => ?_)
        · exact absurd rfl c64
        refine x_iload_n rfl rfl ?_
        refine x_goto rfl ?_
        refine x_istore_n (ls' := [_, _, _, _, _, _]) rfl rfl rfl ?_
        exact hk' r _ es.symm | some t =>
        have ht := Nat.lt_of_lt_of_le (raK_lt hW (by omega) t2 hr hr2) (pow4_6 h6)
        rw [hr2] at es
        refine x_istore (ls' := [_, _, _, _, _, _]) rfl rfl rfl ?_
        refine x_iload rfl rfl ?_
        refine x_iconst rfl ?_
        refine x_icmp_ne rfl (fun c64 => ?_) (fun c64 => ?_)
        rotate_left
        · exact absurd c64 (nI_m1 (by omega))
        refine x_iload rfl rfl ?_
        refine x_istore_n (ls' := [_, _, _, _, _, _]) rfl rfl rfl ?_
        exact hk' t _ es.symm
    · have es : tbS K dy k r = r := if_neg c
      have hk2 := fun z5 => ih (k + 1) V r z5 (by omega) hF hA hr (fun V' q1 q2 => by have := hP V' q1 q2; rw [show tbK K dy (m + 1) k r = tbK K dy m (k + 1) r by show tbK K dy m (k + 1) (tbS K dy k r) = _; rw [es]] at this; exact this)
      refine x_iload rfl rfl ?_
      refine x_aload_n rfl rfl ?_
      refine x_getR (u := .ref _) rfl rfl rfl rfl ?_
      refine x_getE (y := 9) rfl rfl rfl (hX.tn) ?_
      refine x_icmpN_ge rfl (fun c14 => ?_) (fun c14 => ?_)
      · exact absurd c14 (by first | decide | omega)
      refine x_aload_n rfl rfl ?_
      refine x_getR (u := .ref _) rfl rfl rfl rfl ?_
      refine x_getR (u := .ref _) rfl rfl rfl rfl ?_
      refine x_iload rfl rfl ?_
      refine x_ialE (j := k) rfl rfl (rfl) (by omega) (ed) ?_
      refine x_iload_n rfl rfl ?_
      refine x_icmpN_ne rfl (fun c28 => ?_) (fun c28 => ?_)
      rotate_left
      · exact absurd c28 (by first | decide | omega)
      refine x_iincN (q := 1) (ls' := [_, _, _, _, _, _]) rfl rfl rfl rfl ?_
      refine x_goto rfl ?_
      exact hk2 _
set_option maxRecDepth 20000 in
theorem s_rowBehindTold (hA : PaX K dy ext G V) (hW : WF K) (hd4 : dy < 4) {r : Nat} (hr : r < 4 ^ K 93) (hP : ∀ V' : VIT, FrQ V V' → PaX K dy ext G V' → P (some (.int (nI (tbK K dy (K 95) 0 r)))) (LY ++ ext) V' VL (vr G)) : Ex (d + 5) mi69 0 (entL [.ref 67, .int (nI r), .int (nI dy)] 6) [] (LY ++ ext) V VL (vr G) 0 0 P := by
  refine x_iload_n rfl rfl ?_
  refine x_istore_n (ls' := [_, _, _, _, _, _]) rfl rfl rfl ?_
  refine x_iconstN (q := 0) rfl ?_
  refine x_istore (ls' := [_, _, _, _, _, _]) rfl rfl rfl ?_
  exact s_rbt hW hd4 (K 95) 0 V r _ (by omega) FrQ.refl hA hr hP
set_option maxRecDepth 20000 in
theorem s_dos (hX : RW 3 K V) (hW : WF K) (hd4 : dy < 4) : ∀ (m k F : Nat), k + m = K 95 → F < 4096 → P (some (.int (nI (fxK K dy m k F)))) (LY ++ ext) V VL (vr G) → Ex (d + 1) mi68 16 [.ref 67, .int (nI dy), .int (nI F), .int (nI k)] [] (LY ++ ext) V VL (vr G) 0 0 P := by
  have h6 := hW.n
  have h8 : K 95 ≤ 8 := hW.2.2.1
  intro m
  induction m with
  | zero =>
    intro k F hk hF hP
    refine x_iload_n rfl rfl ?_
    refine x_aload_n rfl rfl ?_
    refine x_getR (u := .ref _) rfl rfl rfl rfl ?_
    refine x_getE (y := 9) rfl rfl rfl (hX.tn) ?_
    refine x_icmpN_ge rfl (fun c24 => ?_) (fun c24 => ?_)
    rotate_left
    · exact absurd c24 (by first | decide | omega)
    refine x_iload_n rfl rfl ?_
    refine x_iret rfl rfl ?_
    exact hP | succ m ih =>
    intro k F hk hF hP
    have hkl : k < K 95 := by omega
    obtain ⟨t1, t2, t3⟩ := hW.told hkl
    obtain ⟨a, b, ea, eb, la, lb, hab, -, hor⟩ := told_ab hX hW hkl
    have ed : V 11 k = nI (K (69 + 3 * k)) := (hX.told hkl).2
    have p1 : 2 ^ (2 * (K 93 - 1 - a)) ≤ 1024 := Nat.le_trans (Nat.pow_le_pow_right (by omega) (show 2 * (K 93 - 1 - a) ≤ 10 by omega)) (by decide)
    have p2 : 2 ^ (2 * (K 93 - 1 - b)) ≤ 1024 := Nat.le_trans (Nat.pow_le_pow_right (by omega) (show 2 * (K 93 - 1 - b) ≤ 10 by omega)) (by decide)
    by_cases c : K (69 + 3 * k) = dy
    · have hF1 : clrD (2 * (K 93 - 1 - a)) F < 4096 := by rw [← clr_and (by omega) hF]; exact Nat.lt_of_le_of_lt Nat.and_le_left hF
      have hF2 : clrD (2 * (K 93 - 1 - b)) (clrD (2 * (K 93 - 1 - a)) F) < 4096 := by rw [← clr_and (by omega) hF1]; exact Nat.lt_of_le_of_lt Nat.and_le_left hF1
      have es : clrD (2 * (K 93 - 1 - b)) (clrD (2 * (K 93 - 1 - a)) F) = F &&& (4294967295 ^^^ (3 * 2 ^ (2 * (K 93 - 1 - K (67 + 3 * k))))) &&& (4294967295 ^^^ (3 * 2 ^ (2 * (K 93 - 1 - K (68 + 3 * k))))) := by
        rw [← clr_and (by omega) hF1, ← clr_and (by omega) hF]
        rcases hor with ⟨rfl, rfl⟩ | ⟨rfl, rfl⟩
        · rfl
        · rw [Nat.and_assoc, Nat.and_assoc, Nat.and_comm (4294967295 ^^^ _)]
      have hP2 : P (some (.int (nI (fxK K dy m (k + 1) (clrD (2 * (K 93 - 1 - b)) (clrD (2 * (K 93 - 1 - a)) F)))))) (LY ++ ext) V VL (vr G) := by
        rw [es]
        unfold fxK at hP
        rw [if_pos c] at hP
        exact hP
      refine x_iload_n rfl rfl ?_
      refine x_aload_n rfl rfl ?_
      refine x_getR (u := .ref _) rfl rfl rfl rfl ?_
      refine x_getE (y := 9) rfl rfl rfl (hX.tn) ?_
      refine x_icmpN_ge rfl (fun c24 => ?_) (fun c24 => ?_)
      · exact absurd c24 (by first | decide | omega)
      refine x_aload_n rfl rfl ?_
      refine x_getR (u := .ref _) rfl rfl rfl rfl ?_
      refine x_getR (u := .ref _) rfl rfl rfl rfl ?_
      refine x_iload_n rfl rfl ?_
      refine x_ialE (j := k) rfl rfl (rfl) (by omega) (ed) ?_
      refine x_iload_n rfl rfl ?_
      refine x_icmpN_ne rfl (fun c37 => ?_) (fun c37 => ?_)
      · exact absurd c37 (by first | decide | omega)
      refine x_iload_n rfl rfl ?_
      refine x_iconstN (q := 3) rfl ?_
      refine x_aload_n rfl rfl ?_
      refine x_getR (u := .ref _) rfl rfl rfl rfl ?_
      refine x_aload_n rfl rfl ?_
      refine x_getR (u := .ref _) rfl rfl rfl rfl ?_
      refine x_getR (u := .ref _) rfl rfl rfl rfl ?_
      refine x_iload_n rfl rfl ?_
      refine x_ialE (j := k) rfl rfl (rfl) (by omega) (ea) ?_
      refine x_callV (M' := mi103) (As := [_]) (bc1 := 0) (bs1 := 0) (bc2 := 0) (bs2 := 0) rfl rfl rfl rfl ok103 rfl rfl (by decide) rfl rfl rfl rfl rfl rfl ?_
      refine s_shiftOf_in hX.n la h6 ?_
      refine x_ishlN rfl ?_
      refine x_iconst rfl ?_
      refine x_ixor rfl ?_
      refine x_iand rfl ?_
      rw [clrI (by omega) hF]
      refine x_istore_n (ls' := [_, _, _, _]) rfl rfl rfl ?_
      refine x_iload_n rfl rfl ?_
      refine x_iconstN (q := 3) rfl ?_
      refine x_aload_n rfl rfl ?_
      refine x_getR (u := .ref _) rfl rfl rfl rfl ?_
      refine x_aload_n rfl rfl ?_
      refine x_getR (u := .ref _) rfl rfl rfl rfl ?_
      refine x_getR (u := .ref _) rfl rfl rfl rfl ?_
      refine x_iload_n rfl rfl ?_
      refine x_ialE (j := k) rfl rfl (rfl) (by omega) (eb) ?_
      refine x_callV (M' := mi103) (As := [_]) (bc1 := 0) (bs1 := 0) (bc2 := 0) (bs2 := 0) rfl rfl rfl rfl ok103 rfl rfl (by decide) rfl rfl rfl rfl rfl rfl ?_
      refine s_shiftOf_in hX.n lb h6 ?_
      refine x_ishlN rfl ?_
      refine x_iconst rfl ?_
      refine x_ixor rfl ?_
      refine x_iand rfl ?_
      rw [clrI (by omega) hF1]
      refine x_istore_n (ls' := [_, _, _, _]) rfl rfl rfl ?_
      refine x_iincN (q := 1) (ls' := [_, _, _, _]) rfl rfl rfl rfl ?_
      refine x_goto rfl ?_
      exact ih (k + 1) _ (by omega) hF2 hP2
    · have hP2 : P (some (.int (nI (fxK K dy m (k + 1) F)))) (LY ++ ext) V VL (vr G) := by
        unfold fxK at hP
        rw [if_neg c] at hP
        exact hP
      refine x_iload_n rfl rfl ?_
      refine x_aload_n rfl rfl ?_
      refine x_getR (u := .ref _) rfl rfl rfl rfl ?_
      refine x_getE (y := 9) rfl rfl rfl (hX.tn) ?_
      refine x_icmpN_ge rfl (fun c24 => ?_) (fun c24 => ?_)
      · exact absurd c24 (by first | decide | omega)
      refine x_aload_n rfl rfl ?_
      refine x_getR (u := .ref _) rfl rfl rfl rfl ?_
      refine x_getR (u := .ref _) rfl rfl rfl rfl ?_
      refine x_iload_n rfl rfl ?_
      refine x_ialE (j := k) rfl rfl (rfl) (by omega) (ed) ?_
      refine x_iload_n rfl rfl ?_
      refine x_icmpN_ne rfl (fun c37 => ?_) (fun c37 => ?_)
      rotate_left
      · exact absurd c37 (by first | decide | omega)
      refine x_iincN (q := 1) (ls' := [_, _, _, _]) rfl rfl rfl rfl ?_
      refine x_goto rfl ?_
      exact ih (k + 1) F (by omega) hF hP2
set_option maxRecDepth 20000 in
theorem pow2n {n : Nat} (h : n ≤ 6) : 2 ^ (2 * n) ≤ 4096 := by rw [← pow4_2]; exact pow4_6 h
set_option maxRecDepth 20000 in
theorem s_digitsOfSilent (hX : RW 3 K V) (hW : WF K) (hd4 : dy < 4) (hP : P (some (.int (nI (FxK K dy)))) (LY ++ ext) V VL (vr G)) : Ex (d + 1) mi68 0 (entL [.ref 67, .int (nI dy)] 4) [] (LY ++ ext) V VL (vr G) 0 0 P := by
  have h6 := hW.n
  have hp := pow2n h6
  have hp1 : 1 ≤ 2 ^ (2 * K 93) := Nat.one_le_two_pow
  have e1 : 1 * 2 ^ (2 * K 93) = 2 ^ (2 * K 93) := Nat.one_mul _
  refine x_iconstN (q := 1) rfl ?_
  refine x_iconstN (q := 2) rfl ?_
  refine x_aload_n rfl rfl ?_
  refine x_getR (u := .ref _) rfl rfl rfl rfl ?_
  refine x_getE (y := 0) rfl rfl rfl (hX.n) ?_
  refine x_imulN rfl ?_
  refine x_ishlN rfl ?_
  refine x_iconstN (q := 1) rfl ?_
  refine x_isubN rfl ?_
  rw [e1]
  refine x_istore_n (ls' := [_, _, _, _]) rfl rfl rfl ?_
  refine x_iconstN (q := 0) rfl ?_
  refine x_istore_n (ls' := [_, _, _, _]) rfl rfl rfl ?_
  exact s_dos hX hW hd4 (K 95) 0 _ (by omega) (by omega) hP
set_option maxRecDepth 20000 in
theorem m_chb (hO : OutM K dy V) (hM : RK (V 76) K) (hW : WF K) (hd4 : dy < 4) {r0 : Nat} : ∀ (m k r : Nat) (z5 z6 : Value), k + m = K 95 → r < 4 ^ K 93 → (∀ z4 z5 z6 : Value, Ex (d + 3) mi260 85 [.ref 74, .int (nI r0), .int (nI dy), .int (nI (tbK K dy m k r * 4 ^ (6 - K 93))), z4, z5, z6] [] (LY ++ ext) V VL (vr G) 0 0 P) → Ex (d + 3) mi260 5 [.ref 74, .int (nI r0), .int (nI dy), .int (nI (r * 4 ^ (6 - K 93))), .int (nI k), z5, z6] [] (LY ++ ext) V VL (vr G) 0 0 P := by
  have h6 := hW.n
  have h8 : K 95 ≤ 8 := hW.2.2.1
  intro m
  induction m with
  | zero =>
    intro k r z5 z6 hk hr hP
    refine x_iload rfl rfl ?_
    refine x_aload_n rfl rfl ?_
    refine x_getR (u := .ref _) rfl rfl rfl rfl ?_
    refine x_bipushN (q := 95) rfl ?_
    refine x_ialE (j := 95) rfl rfl (rfl) (by omega) (hM.at 95) ?_
    refine x_icmpN_ge rfl (fun c14 => ?_) (fun c14 => ?_)
    rotate_left
    · exact absurd c14 (by first | decide | omega)
    exact hP _ _ _ | succ m ih =>
    intro k r z5 z6 hk hr hP
    have hkl : k < K 95 := by omega
    obtain ⟨t1, t2, t3⟩ := hW.told hkl
    have hsl := tbS_lt hW (dy := dy) hkl hr
    have e67 : V 76 (67 + 3 * k) = nI (K (67 + 3 * k)) := hM.at (67 + 3 * k)
    have e68 : V 76 (67 + 3 * k + 1) = nI (K (68 + 3 * k)) := by rw [hM.at (67 + 3 * k + 1)]; congr 2; omega
    have e69 : V 76 (67 + 3 * k + 2) = nI (K (69 + 3 * k)) := by rw [hM.at (67 + 3 * k + 2)]; congr 2; omega
    have hk' : ∀ (x : Nat) (z5 z6 : Value), x = tbS K dy k r → Ex (d + 3) mi260 79 [.ref 74, .int (nI r0), .int (nI dy), .int (nI (x * 4 ^ (6 - K 93))), .int (nI k), z5, z6] [] (LY ++ ext) V VL (vr G) 0 0 P := by
      intro x z5 z6 hx
      subst hx
      refine x_iincN (q := 1) (ls' := [_, _, _, _, _, _, _]) rfl rfl rfl rfl ?_
      refine x_goto rfl ?_
      exact ih (k + 1) _ _ _ (by omega) hsl hP
    by_cases c : K (69 + 3 * k) = dy
    · have es : tbS K dy k r = (raK K dy r (K (67 + 3 * k)) (K (68 + 3 * k))).getD r := if_pos c
      refine x_iload rfl rfl ?_
      refine x_aload_n rfl rfl ?_
      refine x_getR (u := .ref _) rfl rfl rfl rfl ?_
      refine x_bipushN (q := 95) rfl ?_
      refine x_ialE (j := 95) rfl rfl (rfl) (by omega) (hM.at 95) ?_
      refine x_icmpN_ge rfl (fun c14 => ?_) (fun c14 => ?_)
      · exact absurd c14 (by first | decide | omega)
      refine x_bipushN (q := 67) rfl ?_
      refine x_iconstN (q := 3) rfl ?_
      refine x_iload rfl rfl ?_
      refine x_imulN rfl ?_
      refine x_iaddN rfl ?_
      refine x_istore (ls' := [_, _, _, _, _, _, _]) rfl rfl rfl ?_
      refine x_aload_n rfl rfl ?_
      refine x_getR (u := .ref _) rfl rfl rfl rfl ?_
      refine x_iload rfl rfl ?_
      refine x_iconstN (q := 2) rfl ?_
      refine x_iaddN rfl ?_
      refine x_ialE (j := 67 + 3 * k + 2) rfl rfl (rfl) (by omega) (e69) ?_
      refine x_iload_n rfl rfl ?_
      refine x_icmpN_ne rfl (fun c36 => ?_) (fun c36 => ?_)
      · exact absurd c36 (by first | decide | omega)
      refine x_aload_n rfl rfl ?_
      refine x_iload_n rfl rfl ?_
      refine x_aload_n rfl rfl ?_
      refine x_getR (u := .ref _) rfl rfl rfl rfl ?_
      refine x_iload rfl rfl ?_
      refine x_ialE (j := 67 + 3 * k) rfl rfl (rfl) (by omega) (e67) ?_
      refine x_aload_n rfl rfl ?_
      refine x_getR (u := .ref _) rfl rfl rfl rfl ?_
      refine x_iload rfl rfl ?_
      refine x_iconstN (q := 1) rfl ?_
      refine x_iaddN rfl ?_
      refine x_ialE (j := 67 + 3 * k + 1) rfl rfl (rfl) (by omega) (e68) ?_
      refine x_callV (M' := mi234) (As := [_, _, _]) (bc1 := 0) (bs1 := 0) (bc2 := 0) (bs2 := 0) rfl rfl rfl rfl ok234 rfl rfl (by decide) rfl rfl rfl rfl rfl rfl ?_
      refine m_rowBehind hO hW t1 t2 hr ?_
      refine x_goto rfl ?_
      skip
      unfold sh6
      cases hr2 : raK K dy r (K (67 + 3 * k)) (K (68 + 3 * k)) with
      | none =>
        rw [hr2] at es
        refine x_istore (ls' := [_, _, _, _, _, _, _]) rfl rfl rfl ?_
        refine x_iload rfl rfl ?_
        refine x_iconst rfl ?_
        refine x_icmp_ne rfl (fun c69 => ?_) (fun c69 => ?_)
        · exact absurd rfl c69
        refine x_iload_n rfl rfl ?_
        refine x_goto rfl ?_
        refine x_istore_n (ls' := [_, _, _, _, _, _, _]) rfl rfl rfl ?_
        exact hk' r _ _ es.symm | some t =>
        simp only [Option.map_some]
        have ht := r6_lt h6 (raK_lt hW (by omega) t2 hr hr2)
        rw [hr2] at es
        refine x_istore (ls' := [_, _, _, _, _, _, _]) rfl rfl rfl ?_
        refine x_iload rfl rfl ?_
        refine x_iconst rfl ?_
        refine x_icmp_ne rfl (fun c69 => ?_) (fun c69 => ?_)
        rotate_left
        · exact absurd c69 (nI_m1 (by omega))
        refine x_iload rfl rfl ?_
        refine x_istore_n (ls' := [_, _, _, _, _, _, _]) rfl rfl rfl ?_
        exact hk' t _ _ es.symm
    · have es : tbS K dy k r = r := if_neg c
      refine x_iload rfl rfl ?_
      refine x_aload_n rfl rfl ?_
      refine x_getR (u := .ref _) rfl rfl rfl rfl ?_
      refine x_bipushN (q := 95) rfl ?_
      refine x_ialE (j := 95) rfl rfl (rfl) (by omega) (hM.at 95) ?_
      refine x_icmpN_ge rfl (fun c14 => ?_) (fun c14 => ?_)
      · exact absurd c14 (by first | decide | omega)
      refine x_bipushN (q := 67) rfl ?_
      refine x_iconstN (q := 3) rfl ?_
      refine x_iload rfl rfl ?_
      refine x_imulN rfl ?_
      refine x_iaddN rfl ?_
      refine x_istore (ls' := [_, _, _, _, _, _, _]) rfl rfl rfl ?_
      refine x_aload_n rfl rfl ?_
      refine x_getR (u := .ref _) rfl rfl rfl rfl ?_
      refine x_iload rfl rfl ?_
      refine x_iconstN (q := 2) rfl ?_
      refine x_iaddN rfl ?_
      refine x_ialE (j := 67 + 3 * k + 2) rfl rfl (rfl) (by omega) (e69) ?_
      refine x_iload_n rfl rfl ?_
      refine x_icmpN_ne rfl (fun c36 => ?_) (fun c36 => ?_)
      rotate_left
      · exact absurd c36 (by first | decide | omega)
      refine x_iconst rfl ?_
      refine x_istore (ls' := [_, _, _, _, _, _, _]) rfl rfl rfl ?_
      refine x_iload rfl rfl ?_
      refine x_iconst rfl ?_
      refine x_icmp_ne rfl (fun c69 => ?_) (fun c69 => ?_)
      · exact absurd rfl c69
      refine x_iload_n rfl rfl ?_
      refine x_goto rfl ?_
      refine x_istore_n (ls' := [_, _, _, _, _, _, _]) rfl rfl rfl ?_
      exact hk' r _ _ es.symm
set_option maxRecDepth 20000 in
theorem m_canHaveBeen (hO : OutM K dy V) (hM : RK (V 76) K) (hW : WF K) (hd4 : dy < 4) {r : Nat} (hr : r < 4 ^ K 93) (hP : P (some (.int (b1 (okR K dy r)))) (LY ++ ext) V VL (vr G)) : Ex (d + 3) mi260 0 (entL [.ref 74, .int (nI (r * 4 ^ (6 - K 93))), .int (nI dy)] 7) [] (LY ++ ext) V VL (vr G) 0 0 P := by
  have h6 := hW.n
  have hl := tbK_lt hW (dy := dy) (K 95) 0 r (by omega) hr
  have l1 := r6_lt h6 hl
  have l2 : rowN (fun p => K (4 * p + dy)) (K 93) * 4 ^ (6 - K 93) < 4096 := r6_lt h6 (row0_lt hW hd4)
  refine x_iload_n rfl rfl ?_
  refine x_istore_n (ls' := [_, _, _, _, _, _, _]) rfl rfl rfl ?_
  refine x_iconstN (q := 0) rfl ?_
  refine x_istore (ls' := [_, _, _, _, _, _, _]) rfl rfl rfl ?_
  refine m_chb hO hM hW hd4 (K 95) 0 r _ _ (by omega) hr (fun z4 z5 z6 => ?_)
  by_cases c : tbK K dy (K 95) 0 r = row0 K dy
  · have e : okR K dy r = true := beq_iff_eq.mpr c
    rw [e] at hP
    refine x_iload_n rfl rfl ?_
    refine x_aload_n rfl rfl ?_
    refine x_iload_n rfl rfl ?_
    refine x_callV (M' := mi181) (As := [_]) (bc1 := 0) (bs1 := 0) (bc2 := 0) (bs2 := 0) rfl rfl rfl rfl ok181 rfl rfl (by decide) rfl rfl rfl rfl rfl rfl ?_
    refine m_rowNowK hM hW hd4 ?_
    refine x_icmpN_ne rfl (fun c91 => ?_) (fun c91 => ?_)
    · exact absurd (congrArg (fun x => x * 4 ^ (6 - K 93)) c) c91
    refine x_iconstN (q := 1) rfl ?_
    refine x_goto rfl ?_
    refine x_zret rfl rfl (by first | exact Or.inl rfl | exact Or.inr rfl) ?_
    exact hP
  · have e : okR K dy r = false := by
      unfold okR
      exact beq_eq_false_iff_ne.mpr c
    rw [e] at hP
    refine x_iload_n rfl rfl ?_
    refine x_aload_n rfl rfl ?_
    refine x_iload_n rfl rfl ?_
    refine x_callV (M' := mi181) (As := [_]) (bc1 := 0) (bs1 := 0) (bc2 := 0) (bs2 := 0) rfl rfl rfl rfl ok181 rfl rfl (by decide) rfl rfl rfl rfl rfl rfl ?_
    refine m_rowNowK hM hW hd4 ?_
    refine x_icmpN_ne rfl (fun c91 => ?_) (fun c91 => ?_)
    rotate_left
    · exact absurd (mul6_inj c91) c
    refine x_iconstN (q := 0) rfl ?_
    refine x_zret rfl rfl (by first | exact Or.inl rfl | exact Or.inr rfl) ?_
    exact hP
end Told
