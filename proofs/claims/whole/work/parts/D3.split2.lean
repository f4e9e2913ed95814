/-! ===== split and splits ===== -/
set_option maxRecDepth 20000 in
theorem rnE_all {p : Nat → Bool} {T : Nat → Nat} {n : Nat} : ∀ (m k i : Nat), k ≤ i → i < rnE p T n m k → p (T i) = true
  | 0, k, i, h1, h2 => absurd h2 (by show ¬ i < k; omega)
  | m + 1, k, i, h1, h2 => by
    unfold rnE at h2
    split at h2
    · rename_i h
      by_cases e : i = k
      · rw [e]; exact h.2
      · exact rnE_all m (k + 1) i (by omega) h2
    · omega
set_option maxRecDepth 20000 in
theorem dgt_b {t : Nat} (h : dgt t = true) : 48 ≤ t ∧ t ≤ 57 := of_decide_eq_true h
set_option maxRecDepth 20000 in
theorem ltr_b {t : Nat} (h : ltr t = true) : 97 ≤ t ∧ t ≤ 122 := of_decide_eq_true h
def ClT (T : Nat → Nat) (L : List (Nat × Nat)) (V : VIT) : Prop := ∀ i s, L[i]? = some s → ∃ t, CTk T s.1 s.2 t ∧ V 41 i = nI t ∧ V 42 i = nI s.1
def FrRd (V0 V : VIT) : Prop := ∀ a k, a ≠ 41 → a ≠ 42 → ¬ (a = 37 ∧ k = 4) → V a k = V0 a k
set_option maxRecDepth 20000 in
theorem ClT.add {T : Nat → Nat} {L : List (Nat × Nat)} {V : VIT} {a b t : Nat} {x : Int32} (h : ClT T L V) (hc : CTk T a b t) : ClT T (L ++ [(a, b)]) (up (up (up V 41 L.length (nI t)) 42 L.length (nI a)) 37 4 x) := by
  intro i s hs
  by_cases c : i < L.length
  · rw [List.getElem?_append_left c] at hs
    obtain ⟨t', h1, h2, h3⟩ := h i s hs
    refine ⟨t', h1, ?_, ?_⟩
    · rw [up_ne (by omega), up_ne (by omega), up_at' (by omega)]; exact h2
    · rw [up_ne (by omega), up_at' (by omega), up_ne (by omega)]; exact h3
  · have c2 : i = L.length := by
      have := (List.getElem?_eq_some_iff.mp hs).1
      simp only [List.length_append, List.length_cons, List.length_nil] at this
      omega
    subst c2
    rw [List.getElem?_append_right (Nat.le_refl _), Nat.sub_self] at hs
    rw [← Option.some.inj hs]
    refine ⟨t, hc, ?_, ?_⟩
    · rw [up_ne (by omega), up_ne (by omega), up_at]
    · rw [up_ne (by omega), up_at]
section Split2
variable {d : Nat} {V0 V : VIT} {VL : VLT} {G : VRT} {P : Post} {ext : HL} {T : Nat → Nat} {n : Nat}
set_option maxRecDepth 20000 in
theorem xsp_let (hT : ∀ k, k < n → T k < 256 ∧ V 72 k = nI (T k)) (hn : n ≤ 400) {k : Nat} : ∀ (m e : Nat), e + m = n → (∀ x, x = rnE ltr T n m e → Ex (d + 6) mi41 48 [.ref 37, .ref 72, .int (nI n), .int (nI k), .int (nI x)] [] (LY ++ ext) V VL (vr G) 0 0 P) → Ex (d + 6) mi41 26 [.ref 37, .ref 72, .int (nI n), .int (nI k), .int (nI e)] [] (LY ++ ext) V VL (vr G) 0 0 P := by
  intro m
  induction m with
  | zero =>
    intro e he hP
    refine x_iload rfl rfl ?_
    refine x_iload_n rfl rfl ?_
    refine x_icmpN_ge rfl (fun c29 => ?_) (fun c29 => ?_)
    rotate_left
    · exact absurd c29 (by first | decide | omega)
    exact hP e rfl | succ m ih =>
    intro e he hP
    obtain ⟨t1, t2⟩ := hT e (by omega)
    unfold rnE at hP
    cases c : ltr (T e) with
    | true =>
      rw [if_pos ⟨by omega, c⟩] at hP
      refine x_iload rfl rfl ?_
      refine x_iload_n rfl rfl ?_
      refine x_icmpN_ge rfl (fun c29 => ?_) (fun c29 => ?_)
      · exact absurd c29 (by first | decide | omega)
      refine x_aload_n rfl rfl ?_
      refine x_iload rfl rfl ?_
      refine x_ialE (j := e) rfl rfl (rfl) (by omega) (t2) ?_
      refine x_callS (M' := mi46) (As := [_]) (bc1 := 0) (bs1 := 0) (bc2 := 0) (bs2 := 0) rfl rfl rfl rfl ok46 rfl rfl rfl rfl rfl rfl ?_
      refine x_isLetter t1 ?_
      rw [c]
      refine x_if_eq rfl (fun c39 => ?_) (fun c39 => ?_)
      · exact absurd c39 (by decide)
      refine x_iincN (q := 1) (ls' := [_, _, _, _, _]) rfl rfl rfl rfl ?_
      refine x_goto rfl ?_
      exact ih (e + 1) (by omega) hP | false =>
      rw [if_neg (fun z => by rw [c] at z; exact absurd z.2 (by decide))] at hP
      refine x_iload rfl rfl ?_
      refine x_iload_n rfl rfl ?_
      refine x_icmpN_ge rfl (fun c29 => ?_) (fun c29 => ?_)
      · exact absurd c29 (by first | decide | omega)
      refine x_aload_n rfl rfl ?_
      refine x_iload rfl rfl ?_
      refine x_ialE (j := e) rfl rfl (rfl) (by omega) (t2) ?_
      refine x_callS (M' := mi46) (As := [_]) (bc1 := 0) (bs1 := 0) (bc2 := 0) (bs2 := 0) rfl rfl rfl rfl ok46 rfl rfl rfl rfl rfl rfl ?_
      refine x_isLetter t1 ?_
      rw [c]
      refine x_if_eq rfl (fun c39 => ?_) (fun c39 => ?_)
      rotate_left
      · exact absurd rfl c39
      exact hP e rfl
set_option maxRecDepth 20000 in
theorem xsp_dig (hT : ∀ k, k < n → T k < 256 ∧ V 72 k = nI (T k)) (hn : n ≤ 400) {k : Nat} : ∀ (m e : Nat), e + m = n → (∀ x, x = rnE dgt T n m e → Ex (d + 6) mi41 94 [.ref 37, .ref 72, .int (nI n), .int (nI k), .int (nI x)] [] (LY ++ ext) V VL (vr G) 0 0 P) → Ex (d + 6) mi41 72 [.ref 37, .ref 72, .int (nI n), .int (nI k), .int (nI e)] [] (LY ++ ext) V VL (vr G) 0 0 P := by
  intro m
  induction m with
  | zero =>
    intro e he hP
    refine x_iload rfl rfl ?_
    refine x_iload_n rfl rfl ?_
    refine x_icmpN_ge rfl (fun c75 => ?_) (fun c75 => ?_)
    rotate_left
    · exact absurd c75 (by first | decide | omega)
    exact hP e rfl | succ m ih =>
    intro e he hP
    obtain ⟨t1, t2⟩ := hT e (by omega)
    unfold rnE at hP
    cases c : dgt (T e) with
    | true =>
      rw [if_pos ⟨by omega, c⟩] at hP
      refine x_iload rfl rfl ?_
      refine x_iload_n rfl rfl ?_
      refine x_icmpN_ge rfl (fun c75 => ?_) (fun c75 => ?_)
      · exact absurd c75 (by first | decide | omega)
      refine x_aload_n rfl rfl ?_
      refine x_iload rfl rfl ?_
      refine x_ialE (j := e) rfl rfl (rfl) (by omega) (t2) ?_
      refine x_callS (M' := mi47) (As := [_]) (bc1 := 0) (bs1 := 0) (bc2 := 0) (bs2 := 0) rfl rfl rfl rfl ok47 rfl rfl rfl rfl rfl rfl ?_
      refine x_isDigit t1 ?_
      rw [c]
      refine x_if_eq rfl (fun c85 => ?_) (fun c85 => ?_)
      · exact absurd c85 (by decide)
      refine x_iincN (q := 1) (ls' := [_, _, _, _, _]) rfl rfl rfl rfl ?_
      refine x_goto rfl ?_
      exact ih (e + 1) (by omega) hP | false =>
      rw [if_neg (fun z => by rw [c] at z; exact absurd z.2 (by decide))] at hP
      refine x_iload rfl rfl ?_
      refine x_iload_n rfl rfl ?_
      refine x_icmpN_ge rfl (fun c75 => ?_) (fun c75 => ?_)
      · exact absurd c75 (by first | decide | omega)
      refine x_aload_n rfl rfl ?_
      refine x_iload rfl rfl ?_
      refine x_ialE (j := e) rfl rfl (rfl) (by omega) (t2) ?_
      refine x_callS (M' := mi47) (As := [_]) (bc1 := 0) (bs1 := 0) (bc2 := 0) (bs2 := 0) rfl rfl rfl rfl ok47 rfl rfl rfl rfl rfl rfl ?_
      refine x_isDigit t1 ?_
      rw [c]
      refine x_if_eq rfl (fun c85 => ?_) (fun c85 => ?_)
      rotate_left
      · exact absurd rfl c85
      exact hP e rfl
set_option maxRecDepth 20000 in
theorem xsp_loop (hn : n ≤ 400) (hP : ∀ V' : VIT, FrRd V0 V' → ClT T (Tks T n) V' → V' 41 (Tks T n).length = nI 256 → V' 42 (Tks T n).length = nI n → V' 37 4 = nI ((Tks T n).length + 1) → P none (LY ++ ext) V' VL (vr G)) : ∀ (m k : Nat) (V : VIT) (L : List (Nat × Nat)) (z4 : Value), n ≤ k + m → k ≤ n → (∀ k, k < n → T k < 256 ∧ V 72 k = nI (T k)) → FrRd V0 V → ClT T L V → V 37 4 = nI L.length → L.length ≤ k → L ++ tks T n m k = Tks T n → Ex (d + 6) mi41 7 [.ref 37, .ref 72, .int (nI n), .int (nI k), z4] [] (LY ++ ext) V VL (vr G) 0 0 P := by
  have hend : ∀ (V : VIT) (L : List (Nat × Nat)) (z4 : Value) (k : Nat), n ≤ k → k ≤ n → FrRd V0 V → ClT T L V → V 37 4 = nI L.length → L.length ≤ k → L = Tks T n → Ex (d + 6) mi41 7 [.ref 37, .ref 72, .int (nI n), .int (nI k), z4] [] (LY ++ ext) V VL (vr G) 0 0 P := by
    intro V L z4 k h1 h2 hF hL hc hl he
    subst he
    refine x_iload_n rfl rfl ?_
    refine x_iload_n rfl rfl ?_
    refine x_icmpN_ge rfl (fun c9 => ?_) (fun c9 => ?_)
    rotate_left
    · exact absurd c9 (by first | decide | omega)
    refine x_aload_n rfl rfl ?_
    refine x_sipushN (q := 256) rfl ?_
    refine x_iload_n rfl rfl ?_
    refine x_callV (M' := mi42) (As := [_, _]) (bc1 := 0) (bs1 := 0) (bc2 := 0) (bs2 := 0) rfl rfl rfl rfl ok42 rfl rfl (by decide) rfl rfl rfl rfl rfl rfl ?_
    refine x_add (t := 256) (p := n) hc (by omega) ?_
    refine x_vret rfl rfl ?_
    refine hP _ (fun a i q1 q2 q3 => by rw [up_ne2 q3, up_ne q2, up_ne q1]; exact hF a i q1 q2 q3) (fun i s hs => ?_) (by rw [up_ne (by omega), up_ne (by omega), up_at]) (by rw [up_ne (by omega), up_at]) up_at
    have hil := (List.getElem?_eq_some_iff.mp hs).1
    obtain ⟨t, g1, g2, g3⟩ := hL i s hs
    exact ⟨t, g1, by rw [up_ne (by omega), up_ne (by omega), up_at' (by omega)]; exact g2, by rw [up_ne (by omega), up_at' (by omega), up_ne (by omega)]; exact g3⟩
  intro m
  induction m with
  | zero =>
    intro k V L z4 h1 h2 hT hF hL hc hl he
    exact hend V L z4 k (by omega) h2 hF hL hc hl (by rw [← he]; exact (List.append_nil _).symm)
  | succ m ih =>
    intro k V L z4 h1 h2 hT hF hL hc hl he
    by_cases ck : k < n
    · obtain ⟨t1, t2⟩ := hT k ck
      have hT0 : ∀ V' : VIT, FrRd V V' → ∀ k, k < n → T k < 256 ∧ V' 72 k = nI (T k) := fun V' h i hi => ⟨(hT i hi).1, by rw [h 72 i (by omega) (by omega) (by omega)]; exact (hT i hi).2⟩
      obtain ⟨e1, e2⟩ := tkE_lt (T := T) ck
      rw [show tks T n (m + 1) k = if k < n then (if T k = 32 then tks T n m (k + 1) else (k, tkE T n k) :: tks T n m (tkE T n k)) else [] from rfl] at he
      rw [if_pos ck] at he
      have hstep : ∀ (t : Nat) (z4 : Value), T k ≠ 32 → CTk T k (tkE T n k) t → Ex (d + 6) mi41 125 [.ref 37, .ref 72, .int (nI n), .int (nI k), .int (nI (tkE T n k))] [] (LY ++ ext) (up (up (up V 41 L.length (nI t)) 42 L.length (nI k)) 37 4 (nI (L.length + 1))) VL (vr G) 0 0 P := by
        intro t z4 hns hct
        rw [if_neg hns] at he
        have hFn : FrRd V (up (up (up V 41 L.length (nI t)) 42 L.length (nI k)) 37 4 (nI (L.length + 1))) := fun a i q1 q2 q3 => by rw [up_ne2 q3, up_ne q2, up_ne q1]
        refine x_iload rfl rfl ?_
        refine x_istore_n (ls' := [_, _, _, _, _]) rfl rfl rfl ?_
        refine x_goto rfl ?_
        exact ih (tkE T n k) _ (L ++ [(k, tkE T n k)]) _ (by omega) e2 (hT0 _ hFn) (fun a i q1 q2 q3 => (hFn a i q1 q2 q3).trans (hF a i q1 q2 q3)) (hL.add hct) (by rw [up_at]; simp) (by simp only [List.length_append, List.length_cons, List.length_nil]; omega) (by rw [List.append_assoc]; exact he)
      cases cl : ltr (T k) with
      | true =>
        have hb := ltr_b cl
        have etk : tkE T n k = rnE ltr T n (n - (k + 1)) (k + 1) := if_pos cl
        refine x_iload_n rfl rfl ?_
        refine x_iload_n rfl rfl ?_
        refine x_icmpN_ge rfl (fun c9 => ?_) (fun c9 => ?_)
        · exact absurd c9 (by first | decide | omega)
        refine x_iload_n rfl rfl ?_
        refine x_iconstN (q := 1) rfl ?_
        refine x_iaddN rfl ?_
        refine x_istore (ls' := [_, _, _, _, _]) rfl rfl rfl ?_
        refine x_aload_n rfl rfl ?_
        refine x_iload_n rfl rfl ?_
        refine x_ialE (j := k) rfl rfl (rfl) (by omega) (t2) ?_
        refine x_callS (M' := mi46) (As := [_]) (bc1 := 0) (bs1 := 0) (bc2 := 0) (bs2 := 0) rfl rfl rfl rfl ok46 rfl rfl rfl rfl rfl rfl ?_
        refine x_isLetter t1 ?_
        rw [cl]
        refine x_if_eq rfl (fun c23 => ?_) (fun c23 => ?_)
        · exact absurd c23 (by decide)
        skip
        refine xsp_let hT hn (n - (k + 1)) (k + 1) (by omega) (fun x hx => ?_)
        rw [← etk] at hx
        subst hx
        refine x_aload_n rfl rfl ?_
        refine x_aload_n rfl rfl ?_
        refine x_iload_n rfl rfl ?_
        refine x_iload rfl rfl ?_
        refine x_callS (M' := mi44) (As := [_, _, _]) (bc1 := 0) (bs1 := 0) (bc2 := 0) (bs2 := 0) rfl rfl rfl rfl ok44 rfl rfl rfl rfl rfl rfl ?_
        refine x_wordAt hT hn e1 e2 (fun t ht => ?_)
        refine x_iload_n rfl rfl ?_
        refine x_callV (M' := mi42) (As := [_, _]) (bc1 := 0) (bs1 := 0) (bc2 := 0) (bs2 := 0) rfl rfl rfl rfl ok42 rfl rfl (by decide) rfl rfl rfl rfl rfl rfl ?_
        refine x_add hc (by omega) ?_
        refine x_goto rfl ?_
        exact hstep t .null (by omega) (Or.inl ⟨cl, ht⟩) | false =>
        cases cd : dgt (T k) with
        | true =>
          have hb := dgt_b cd
          have etk : tkE T n k = rnE dgt T n (n - (k + 1)) (k + 1) := by
            unfold tkE
            rw [if_neg (by rw [cl]; decide), if_pos cd]
          refine x_iload_n rfl rfl ?_
          refine x_iload_n rfl rfl ?_
          refine x_icmpN_ge rfl (fun c9 => ?_) (fun c9 => ?_)
          · exact absurd c9 (by first | decide | omega)
          refine x_iload_n rfl rfl ?_
          refine x_iconstN (q := 1) rfl ?_
          refine x_iaddN rfl ?_
          refine x_istore (ls' := [_, _, _, _, _]) rfl rfl rfl ?_
          refine x_aload_n rfl rfl ?_
          refine x_iload_n rfl rfl ?_
          refine x_ialE (j := k) rfl rfl (rfl) (by omega) (t2) ?_
          refine x_callS (M' := mi46) (As := [_]) (bc1 := 0) (bs1 := 0) (bc2 := 0) (bs2 := 0) rfl rfl rfl rfl ok46 rfl rfl rfl rfl rfl rfl ?_
          refine x_isLetter t1 ?_
          rw [cl]
          refine x_if_eq rfl (fun c23 => ?_) (fun c23 => ?_)
          rotate_left
          · exact absurd rfl c23
          refine x_aload_n rfl rfl ?_
          refine x_iload_n rfl rfl ?_
          refine x_ialE (j := k) rfl rfl (rfl) (by omega) (t2) ?_
          refine x_callS (M' := mi47) (As := [_]) (bc1 := 0) (bs1 := 0) (bc2 := 0) (bs2 := 0) rfl rfl rfl rfl ok47 rfl rfl rfl rfl rfl rfl ?_
          refine x_isDigit t1 ?_
          rw [cd]
          refine x_if_eq rfl (fun c69 => ?_) (fun c69 => ?_)
          · exact absurd c69 (by decide)
          skip
          refine xsp_dig hT hn (n - (k + 1)) (k + 1) (by omega) (fun x hx => ?_)
          have hall : ∀ i, k ≤ i → i < tkE T n k → 48 ≤ T i ∧ T i ≤ 57 := fun i q1 q2 => by
            by_cases e : i = k
            · rw [e]; exact hb
            · rw [etk] at q2
              exact dgt_b (rnE_all _ _ i (by omega) q2)
          rw [← etk] at hx
          subst hx
          refine x_aload_n rfl rfl ?_
          refine x_aload_n rfl rfl ?_
          refine x_iload_n rfl rfl ?_
          refine x_iload rfl rfl ?_
          refine x_callS (M' := mi43) (As := [_, _, _]) (bc1 := 0) (bs1 := 0) (bc2 := 0) (bs2 := 0) rfl rfl rfl rfl ok43 rfl rfl rfl rfl rfl rfl ?_
          refine x_numberAt hT hn e2 hall ?_ (by omega)
          refine x_iload_n rfl rfl ?_
          refine x_callV (M' := mi42) (As := [_, _]) (bc1 := 0) (bs1 := 0) (bc2 := 0) (bs2 := 0) rfl rfl rfl rfl ok42 rfl rfl (by decide) rfl rfl rfl rfl rfl rfl ?_
          refine x_add hc (by omega) ?_
          refine x_goto rfl ?_
          exact hstep _ .null (by omega) (Or.inr (Or.inl ⟨cl, cd, rfl⟩)) | false =>
          have etk : tkE T n k = k + 1 := by
            unfold tkE
            rw [if_neg (by rw [cl]; decide), if_neg (by rw [cd]; decide)]
          by_cases c32 : T k = 32
          · rw [if_pos c32] at he
            refine x_iload_n rfl rfl ?_
            refine x_iload_n rfl rfl ?_
            refine x_icmpN_ge rfl (fun c9 => ?_) (fun c9 => ?_)
            · exact absurd c9 (by first | decide | omega)
            refine x_iload_n rfl rfl ?_
            refine x_iconstN (q := 1) rfl ?_
            refine x_iaddN rfl ?_
            refine x_istore (ls' := [_, _, _, _, _]) rfl rfl rfl ?_
            refine x_aload_n rfl rfl ?_
            refine x_iload_n rfl rfl ?_
            refine x_ialE (j := k) rfl rfl (rfl) (by omega) (t2) ?_
            refine x_callS (M' := mi46) (As := [_]) (bc1 := 0) (bs1 := 0) (bc2 := 0) (bs2 := 0) rfl rfl rfl rfl ok46 rfl rfl rfl rfl rfl rfl ?_
            refine x_isLetter t1 ?_
            rw [cl]
            refine x_if_eq rfl (fun c23 => ?_) (fun c23 => ?_)
            rotate_left
            · exact absurd rfl c23
            refine x_aload_n rfl rfl ?_
            refine x_iload_n rfl rfl ?_
            refine x_ialE (j := k) rfl rfl (rfl) (by omega) (t2) ?_
            refine x_callS (M' := mi47) (As := [_]) (bc1 := 0) (bs1 := 0) (bc2 := 0) (bs2 := 0) rfl rfl rfl rfl ok47 rfl rfl rfl rfl rfl rfl ?_
            refine x_isDigit t1 ?_
            rw [cd]
            refine x_if_eq rfl (fun c69 => ?_) (fun c69 => ?_)
            rotate_left
            · exact absurd rfl c69
            refine x_aload_n rfl rfl ?_
            refine x_iload_n rfl rfl ?_
            refine x_ialE (j := k) rfl rfl (rfl) (by omega) (t2) ?_
            refine x_bipushN (q := 32) rfl ?_
            refine x_icmpN_eq rfl (fun c114 => ?_) (fun c114 => ?_)
            rotate_left
            · exact absurd c114 (by first | decide | omega)
            refine x_iload rfl rfl ?_
            refine x_istore_n (ls' := [_, _, _, _, _]) rfl rfl rfl ?_
            refine x_goto rfl ?_
            exact ih (k + 1) V L _ (by omega) (by omega) hT hF hL hc (by omega) he
          · have hs2 := hstep (T k) .null c32 (Or.inr (Or.inr ⟨cl, cd, rfl⟩))
            rw [etk] at hs2
            refine x_iload_n rfl rfl ?_
            refine x_iload_n rfl rfl ?_
            refine x_icmpN_ge rfl (fun c9 => ?_) (fun c9 => ?_)
            · exact absurd c9 (by first | decide | omega)
            refine x_iload_n rfl rfl ?_
            refine x_iconstN (q := 1) rfl ?_
            refine x_iaddN rfl ?_
            refine x_istore (ls' := [_, _, _, _, _]) rfl rfl rfl ?_
            refine x_aload_n rfl rfl ?_
            refine x_iload_n rfl rfl ?_
            refine x_ialE (j := k) rfl rfl (rfl) (by omega) (t2) ?_
            refine x_callS (M' := mi46) (As := [_]) (bc1 := 0) (bs1 := 0) (bc2 := 0) (bs2 := 0) rfl rfl rfl rfl ok46 rfl rfl rfl rfl rfl rfl ?_
            refine x_isLetter t1 ?_
            rw [cl]
            refine x_if_eq rfl (fun c23 => ?_) (fun c23 => ?_)
            rotate_left
            · exact absurd rfl c23
            refine x_aload_n rfl rfl ?_
            refine x_iload_n rfl rfl ?_
            refine x_ialE (j := k) rfl rfl (rfl) (by omega) (t2) ?_
            refine x_callS (M' := mi47) (As := [_]) (bc1 := 0) (bs1 := 0) (bc2 := 0) (bs2 := 0) rfl rfl rfl rfl ok47 rfl rfl rfl rfl rfl rfl ?_
            refine x_isDigit t1 ?_
            rw [cd]
            refine x_if_eq rfl (fun c69 => ?_) (fun c69 => ?_)
            rotate_left
            · exact absurd rfl c69
            refine x_aload_n rfl rfl ?_
            refine x_iload_n rfl rfl ?_
            refine x_ialE (j := k) rfl rfl (rfl) (by omega) (t2) ?_
            refine x_bipushN (q := 32) rfl ?_
            refine x_icmpN_eq rfl (fun c114 => ?_) (fun c114 => ?_)
            · exact absurd c114 (by first | decide | omega)
            refine x_aload_n rfl rfl ?_
            refine x_aload_n rfl rfl ?_
            refine x_iload_n rfl rfl ?_
            refine x_ialE (j := k) rfl rfl (rfl) (by omega) (t2) ?_
            refine x_iload_n rfl rfl ?_
            refine x_callV (M' := mi42) (As := [_, _]) (bc1 := 0) (bs1 := 0) (bc2 := 0) (bs2 := 0) rfl rfl rfl rfl ok42 rfl rfl (by decide) rfl rfl rfl rfl rfl rfl ?_
            refine x_add hc (by omega) ?_
            exact hs2
    · exact hend V L z4 k (by omega) h2 hF hL hc hl (by
        rw [show tks T n (m + 1) k = if k < n then (if T k = 32 then tks T n m (k + 1) else (k, tkE T n k) :: tks T n m (tkE T n k)) else [] from rfl] at he
        rw [if_neg ck, List.append_nil] at he
        exact he)
set_option maxRecDepth 20000 in
theorem x_split (hn : n ≤ 400) (hT : ∀ k, k < n → T k < 256 ∧ V 72 k = nI (T k)) (hP : ∀ V' : VIT, FrRd V V' → ClT T (Tks T n) V' → V' 41 (Tks T n).length = nI 256 → V' 42 (Tks T n).length = nI n → V' 37 4 = nI ((Tks T n).length + 1) → P none (LY ++ ext) V' VL (vr G)) : Ex (d + 6) mi41 0 (entL [.ref 37, .ref 72, .int (nI n)] 5) [] (LY ++ ext) V VL (vr G) 0 0 P := by
  refine x_aload_n rfl rfl ?_
  refine x_iconstN (q := 0) rfl ?_
  refine x_putI rfl rfl rfl rfl ?_
  refine x_iconstN (q := 0) rfl ?_
  refine x_istore_n (ls' := [_, _, _, _, _]) rfl rfl rfl ?_
  exact xsp_loop (V0 := V) hn hP n 0 _ [] _ (by omega) (by omega) (fun k hk => ⟨(hT k hk).1, by rw [up_ne (by omega)]; exact (hT k hk).2⟩) (fun a i q1 q2 q3 => up_ne2 q3) (fun i s hs => by cases hs) up_at (Nat.le_refl _) (List.nil_append _)
end Split2
