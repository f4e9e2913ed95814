/-! ===== the model splits: its loop ===== -/
section Split4
variable {d : Nat} {V0 V : VIT} {VL : VLT} {G : VRT} {P : Post} {ext : HL} {T : Nat → Nat} {n : Nat}
set_option maxRecDepth 20000 in
theorem msp_let (hT : ∀ k, k < n → T k < 256 ∧ V 81 k = sB (T k)) (hn : n ≤ 400) {k : Nat} {bv : Int32} {z5 : Value} : ∀ (m e : Nat), e + m = n → (∀ x, x = rnE ltr T n m e → Ex (d + 1) mi193 68 [.ref 74, .int (nI n), .int (nI k), .int bv, .int (nI x), z5] [] (LY ++ ext) V VL (vr G) 0 0 P) → Ex (d + 1) mi193 43 [.ref 74, .int (nI n), .int (nI k), .int bv, .int (nI e), z5] [] (LY ++ ext) V VL (vr G) 0 0 P := by
  intro m
  induction m with
  | zero =>
    intro e he hP
    refine x_iload rfl rfl ?_
    refine x_iload_n rfl rfl ?_
    refine x_icmpN_ge rfl (fun c46 => ?_) (fun c46 => ?_)
    rotate_left
    · exact absurd c46 (by first | decide | omega)
    exact hP e rfl | succ m ih =>
    intro e he hP
    obtain ⟨t1, t2⟩ := hT e (by omega)
    unfold rnE at hP
    cases c : ltr (T e) with
    | true =>
      rw [if_pos ⟨by omega, c⟩] at hP
      refine x_iload rfl rfl ?_
      refine x_iload_n rfl rfl ?_
      refine x_icmpN_ge rfl (fun c46 => ?_) (fun c46 => ?_)
      · exact absurd c46 (by first | decide | omega)
      refine x_aload_n rfl rfl ?_
      refine x_getR (u := .ref _) rfl rfl rfl rfl ?_
      refine x_iload rfl rfl ?_
      refine x_balN (j := e) rfl rfl (rfl) (by omega) ?_
      rw [t2]
      refine x_callS (M' := mi190) (As := [_]) (bc1 := 0) (bs1 := 0) (bc2 := 0) (bs2 := 0) rfl rfl rfl rfl ok190 rfl rfl rfl rfl rfl rfl ?_
      refine m_isSmall t1 ?_
      rw [c]
      refine x_if_eq rfl (fun c59 => ?_) (fun c59 => ?_)
      · exact absurd c59 (by decide)
      refine x_iincN (q := 1) (ls' := [_, _, _, _, _, _]) rfl rfl rfl rfl ?_
      refine x_goto rfl ?_
      exact ih (e + 1) (by omega) hP | false =>
      rw [if_neg (fun z => by rw [c] at z; exact absurd z.2 (by decide))] at hP
      refine x_iload rfl rfl ?_
      refine x_iload_n rfl rfl ?_
      refine x_icmpN_ge rfl (fun c46 => ?_) (fun c46 => ?_)
      · exact absurd c46 (by first | decide | omega)
      refine x_aload_n rfl rfl ?_
      refine x_getR (u := .ref _) rfl rfl rfl rfl ?_
      refine x_iload rfl rfl ?_
      refine x_balN (j := e) rfl rfl (rfl) (by omega) ?_
      rw [t2]
      refine x_callS (M' := mi190) (As := [_]) (bc1 := 0) (bs1 := 0) (bc2 := 0) (bs2 := 0) rfl rfl rfl rfl ok190 rfl rfl rfl rfl rfl rfl ?_
      refine m_isSmall t1 ?_
      rw [c]
      refine x_if_eq rfl (fun c59 => ?_) (fun c59 => ?_)
      rotate_left
      · exact absurd rfl c59
      exact hP e rfl
set_option maxRecDepth 20000 in
theorem msp_dig (hT : ∀ k, k < n → T k < 256 ∧ V 81 k = sB (T k)) (hn : n ≤ 400) {k : Nat} {bv : Int32} {z5 : Value} : ∀ (m e : Nat), e + m = n → (∀ x, x = rnE dgt T n m e → Ex (d + 1) mi193 100 [.ref 74, .int (nI n), .int (nI k), .int bv, .int (nI x), z5] [] (LY ++ ext) V VL (vr G) 0 0 P) → Ex (d + 1) mi193 75 [.ref 74, .int (nI n), .int (nI k), .int bv, .int (nI e), z5] [] (LY ++ ext) V VL (vr G) 0 0 P := by
  intro m
  induction m with
  | zero =>
    intro e he hP
    refine x_iload rfl rfl ?_
    refine x_iload_n rfl rfl ?_
    refine x_icmpN_ge rfl (fun c78 => ?_) (fun c78 => ?_)
    rotate_left
    · exact absurd c78 (by first | decide | omega)
    exact hP e rfl | succ m ih =>
    intro e he hP
    obtain ⟨t1, t2⟩ := hT e (by omega)
    unfold rnE at hP
    cases c : dgt (T e) with
    | true =>
      rw [if_pos ⟨by omega, c⟩] at hP
      refine x_iload rfl rfl ?_
      refine x_iload_n rfl rfl ?_
      refine x_icmpN_ge rfl (fun c78 => ?_) (fun c78 => ?_)
      · exact absurd c78 (by first | decide | omega)
      refine x_aload_n rfl rfl ?_
      refine x_getR (u := .ref _) rfl rfl rfl rfl ?_
      refine x_iload rfl rfl ?_
      refine x_balN (j := e) rfl rfl (rfl) (by omega) ?_
      rw [t2]
      refine x_callS (M' := mi191) (As := [_]) (bc1 := 0) (bs1 := 0) (bc2 := 0) (bs2 := 0) rfl rfl rfl rfl ok191 rfl rfl rfl rfl rfl rfl ?_
      refine m_isDigit t1 ?_
      rw [c]
      refine x_if_eq rfl (fun c91 => ?_) (fun c91 => ?_)
      · exact absurd c91 (by decide)
      refine x_iincN (q := 1) (ls' := [_, _, _, _, _, _]) rfl rfl rfl rfl ?_
      refine x_goto rfl ?_
      exact ih (e + 1) (by omega) hP | false =>
      rw [if_neg (fun z => by rw [c] at z; exact absurd z.2 (by decide))] at hP
      refine x_iload rfl rfl ?_
      refine x_iload_n rfl rfl ?_
      refine x_icmpN_ge rfl (fun c78 => ?_) (fun c78 => ?_)
      · exact absurd c78 (by first | decide | omega)
      refine x_aload_n rfl rfl ?_
      refine x_getR (u := .ref _) rfl rfl rfl rfl ?_
      refine x_iload rfl rfl ?_
      refine x_balN (j := e) rfl rfl (rfl) (by omega) ?_
      rw [t2]
      refine x_callS (M' := mi191) (As := [_]) (bc1 := 0) (bs1 := 0) (bc2 := 0) (bs2 := 0) rfl rfl rfl rfl ok191 rfl rfl rfl rfl rfl rfl ?_
      refine m_isDigit t1 ?_
      rw [c]
      refine x_if_eq rfl (fun c91 => ?_) (fun c91 => ?_)
      rotate_left
      · exact absurd rfl c91
      exact hP e rfl
-- what a token's row comes to
set_option maxRecDepth 20000 in
theorem msp_num (hn : n ≤ 400) {k e i : Nat} (hi : i < 401) (hkn : k < n) (hd : dgt (T k) = true) (he : e ≤ n) (hall : ∀ j, k ≤ j → j < e → 48 ≤ T j ∧ T j ≤ 57) (hP : ∀ (V' : VIT) (z5 : Value), (∀ a j, ¬ (a = 84 ∧ j = i) → V' a j = V0 a j) → V' 84 i = nI (nmM T (e - k) k 0) → Ex (d + 1) mi193 247 [.ref 74, .int (nI n), .int (nI k), .int (sB (T k)), .int (nI e), z5] [] (LY ++ ext) V' VL (vr G) 0 0 P) : ∀ (m j x : Nat) (V : VIT), j + m = e → k ≤ j → (∀ k, k < n → T k < 256 ∧ V 81 k = sB (T k)) → V 74 18 = nI i → (∀ a t, ¬ (a = 84 ∧ t = i) → V a t = V0 a t) → V 84 i = nI x → x ≤ 11000000 → nmM T m j x = nmM T (e - k) k 0 → Ex (d + 1) mi193 169 [.ref 74, .int (nI n), .int (nI k), .int (sB (T k)), .int (nI e), .int (nI j)] [] (LY ++ ext) V VL (vr G) 0 0 P := by
  intro m
  induction m with
  | zero =>
    intro j x V hj hkj hT h18 hF hv hx hm
    have hm2 : x = nmM T (e - k) k 0 := hm
    rw [hm2] at hv
    refine x_iload rfl rfl ?_
    refine x_iload rfl rfl ?_
    refine x_icmpN_ge rfl (fun c173 => ?_) (fun c173 => ?_)
    rotate_left
    · exact absurd c173 (by first | decide | omega)
    exact hP V _ hF hv | succ m ih =>
    intro j x V hj hkj hT h18 hF hv hx hm
    obtain ⟨t1, t2⟩ := hT j (by omega)
    obtain ⟨tk1, tk2⟩ := hT k (by omega)
    have hdj := hall j hkj (by omega)
    have etj : sB (T j) = nI (T j) := sB_lt _ (by omega)
    have hk : ∀ y, y = (if 1000000 < x then x else 10 * x + T j - 48) → Ex (d + 1) mi193 169 [.ref 74, .int (nI n), .int (nI k), .int (sB (T k)), .int (nI e), .int (nI (j + 1))] [] (LY ++ ext) (up V 84 i (nI y)) VL (vr G) 0 0 P := by
      intro y hy
      refine ih (j + 1) y _ (by omega) (by omega) (fun a ha => ⟨(hT a ha).1, by rw [up_ne (by omega)]; exact (hT a ha).2⟩) (by rw [up_ne (by omega)]; exact h18) (fun a t q => by rw [up_ne2 q]; exact hF a t q) up_at (by rw [hy]; split <;> omega) ?_
      rw [hy]
      exact hm
    by_cases c : 1000000 < x
    · refine x_iload rfl rfl ?_
      refine x_iload rfl rfl ?_
      refine x_icmpN_ge rfl (fun c173 => ?_) (fun c173 => ?_)
      · exact absurd c173 (by first | decide | omega)
      refine x_iload_n rfl rfl ?_
      refine x_callS (M' := mi191) (As := [_]) (bc1 := 0) (bs1 := 0) (bc2 := 0) (bs2 := 0) rfl rfl rfl rfl ok191 rfl rfl rfl rfl rfl rfl ?_
      refine m_isDigit tk1 ?_
      rw [hd]
      refine x_if_eq rfl (fun c180 => ?_) (fun c180 => ?_)
      · exact absurd c180 (by decide)
      refine x_aload_n rfl rfl ?_
      refine x_getR (u := .ref _) rfl rfl rfl rfl ?_
      refine x_aload_n rfl rfl ?_
      refine x_getE (y := 18) rfl rfl rfl h18 ?_
      refine x_aload_n rfl rfl ?_
      refine x_getR (u := .ref _) rfl rfl rfl rfl ?_
      refine x_aload_n rfl rfl ?_
      refine x_getE (y := 18) rfl rfl rfl h18 ?_
      refine x_ialE (j := i) rfl rfl (rfl) (by omega) (hv) ?_
      refine x_ldcN (q := 1000000) rfl ?_
      refine x_icmpN_le rfl (fun c202 => ?_) (fun c202 => ?_)
      · exact absurd c202 (by first | decide | omega)
      refine x_aload_n rfl rfl ?_
      refine x_getR (u := .ref _) rfl rfl rfl rfl ?_
      refine x_aload_n rfl rfl ?_
      refine x_getE (y := 18) rfl rfl rfl h18 ?_
      refine x_ialE (j := i) rfl rfl (rfl) (by omega) (hv) ?_
      refine x_goto rfl ?_
      refine x_iasN (j := i) rfl rfl (rfl) (by omega) ?_
      refine x_iincN (q := 1) (ls' := [_, _, _, _, _, _]) rfl rfl rfl rfl ?_
      refine x_goto rfl ?_
      exact hk x (if_pos c).symm
    · refine x_iload rfl rfl ?_
      refine x_iload rfl rfl ?_
      refine x_icmpN_ge rfl (fun c173 => ?_) (fun c173 => ?_)
      · exact absurd c173 (by first | decide | omega)
      refine x_iload_n rfl rfl ?_
      refine x_callS (M' := mi191) (As := [_]) (bc1 := 0) (bs1 := 0) (bc2 := 0) (bs2 := 0) rfl rfl rfl rfl ok191 rfl rfl rfl rfl rfl rfl ?_
      refine m_isDigit tk1 ?_
      rw [hd]
      refine x_if_eq rfl (fun c180 => ?_) (fun c180 => ?_)
      · exact absurd c180 (by decide)
      refine x_aload_n rfl rfl ?_
      refine x_getR (u := .ref _) rfl rfl rfl rfl ?_
      refine x_aload_n rfl rfl ?_
      refine x_getE (y := 18) rfl rfl rfl h18 ?_
      refine x_aload_n rfl rfl ?_
      refine x_getR (u := .ref _) rfl rfl rfl rfl ?_
      refine x_aload_n rfl rfl ?_
      refine x_getE (y := 18) rfl rfl rfl h18 ?_
      refine x_ialE (j := i) rfl rfl (rfl) (by omega) (hv) ?_
      refine x_ldcN (q := 1000000) rfl ?_
      refine x_icmpN_le rfl (fun c202 => ?_) (fun c202 => ?_)
      rotate_left
      · exact absurd c202 (by first | decide | omega)
      refine x_bipushN (q := 10) rfl ?_
      refine x_aload_n rfl rfl ?_
      refine x_getR (u := .ref _) rfl rfl rfl rfl ?_
      refine x_aload_n rfl rfl ?_
      refine x_getE (y := 18) rfl rfl rfl h18 ?_
      refine x_ialE (j := i) rfl rfl (rfl) (by omega) (hv) ?_
      refine x_imulN rfl ?_
      refine x_aload_n rfl rfl ?_
      refine x_getR (u := .ref _) rfl rfl rfl rfl ?_
      refine x_iload rfl rfl ?_
      refine x_balN (j := j) rfl rfl (rfl) (by omega) ?_
      rw [t2, etj]
      refine x_iaddN rfl ?_
      refine x_bipushN (q := 48) rfl ?_
      refine x_isubN rfl ?_
      refine x_iasN (j := i) rfl rfl (rfl) (by omega) ?_
      refine x_iincN (q := 1) (ls' := [_, _, _, _, _, _]) rfl rfl rfl rfl ?_
      refine x_goto rfl ?_
      exact hk _ (if_neg c).symm
set_option maxRecDepth 20000 in
theorem MdT.add {L : List (Nat × Nat)} {V' : VIT} {a b c v : Nat} (h : MdT T L V) (hm : MTk T a b c v) (hF : ∀ i, i < L.length → V' 83 i = V 83 i ∧ V' 84 i = V 84 i ∧ V' 85 i = V 85 i) (h1 : V' 83 L.length = nI c) (h2 : V' 84 L.length = nI v) (h3 : V' 85 L.length = nI a) : MdT T (L ++ [(a, b)]) V' := by
  intro i s hs
  by_cases cc : i < L.length
  · rw [List.getElem?_append_left cc] at hs
    obtain ⟨c', v', g1, g2, g3, g4⟩ := h i s hs
    obtain ⟨f1, f2, f3⟩ := hF i cc
    exact ⟨c', v', g1, f1.trans g2, f2.trans g3, f3.trans g4⟩
  · have c2 : i = L.length := by
      have := (List.getElem?_eq_some_iff.mp hs).1
      simp only [List.length_append, List.length_cons, List.length_nil] at this
      omega
    subst c2
    rw [List.getElem?_append_right (Nat.le_refl _), Nat.sub_self] at hs
    rw [← Option.some.inj hs]
    exact ⟨c, v, hm, h1, h2, h3⟩
set_option maxRecDepth 20000 in
theorem msp_loop (hn : n ≤ 400) (hP : ∀ V' : VIT, FrMd V0 V' → MdT T (Tks T n) V' → V' 83 (Tks T n).length = nI 0 → V' 84 (Tks T n).length = nI 0 → V' 85 (Tks T n).length = nI n → V' 74 18 = nI (Tks T n).length → P none (LY ++ ext) V' VL (vr G)) : ∀ (m k : Nat) (V : VIT) (L : List (Nat × Nat)) (z3 z4 z5 : Value), n ≤ k + m → k ≤ n → V 80 = VIm 80 → (∀ k, k < n → T k < 256 ∧ V 81 k = sB (T k)) → FrMd V0 V → MdT T L V → V 74 18 = nI L.length → L.length ≤ k → L ++ tks T n m k = Tks T n → Ex (d + 1) mi193 7 [.ref 74, .int (nI n), .int (nI k), z3, z4, z5] [] (LY ++ ext) V VL (vr G) 0 0 P := by
  have hend : ∀ (V : VIT) (L : List (Nat × Nat)) (z3 z4 z5 : Value) (k : Nat), n ≤ k → k ≤ n → FrMd V0 V → MdT T L V → V 74 18 = nI L.length → L.length ≤ k → L = Tks T n → Ex (d + 1) mi193 7 [.ref 74, .int (nI n), .int (nI k), z3, z4, z5] [] (LY ++ ext) V VL (vr G) 0 0 P := by
    intro V L z3 z4 z5 k h1 h2 hF hL hc hl he
    subst he
    refine x_iload_n rfl rfl ?_
    refine x_iload_n rfl rfl ?_
    refine x_icmpN_ge rfl (fun c9 => ?_) (fun c9 => ?_)
    rotate_left
    · exact absurd c9 (by first | decide | omega)
    refine x_aload_n rfl rfl ?_
    refine x_getR (u := .ref _) rfl rfl rfl rfl ?_
    refine x_aload_n rfl rfl ?_
    refine x_getE (y := 18) rfl rfl rfl hc ?_
    refine x_iload_n rfl rfl ?_
    refine x_iasN (j := (Tks T n).length) rfl rfl (rfl) (by omega) ?_
    refine x_aload_n rfl rfl ?_
    refine x_getR (u := .ref _) rfl rfl rfl rfl ?_
    refine x_aload_n rfl rfl ?_
    refine x_getE (y := 18) rfl rfl rfl ((up_ne2 (by omega)).trans hc) ?_
    refine x_iconstN (q := 0) rfl ?_
    refine x_iasN (j := (Tks T n).length) rfl rfl (rfl) (by omega) ?_
    refine x_aload_n rfl rfl ?_
    refine x_getR (u := .ref _) rfl rfl rfl rfl ?_
    refine x_aload_n rfl rfl ?_
    refine x_getE (y := 18) rfl rfl rfl ((up_ne2 (by omega)).trans ((up_ne2 (by omega)).trans hc)) ?_
    refine x_iconstN (q := 0) rfl ?_
    refine x_iasN (j := (Tks T n).length) rfl rfl (rfl) (by omega) ?_
    refine x_vret rfl rfl ?_
    refine hP _ (fun a i q1 q2 q3 q4 => by rw [up_ne q2, up_ne q1, up_ne q3]; exact hF a i q1 q2 q3 q4) (fun i s hs => ?_) (by rw [up_ne (by omega), up_at]) up_at (by rw [up_ne (by omega), up_ne (by omega), up_at]) (by rw [up_ne (by omega), up_ne (by omega), up_ne (by omega)]; exact hc)
    have hil := (List.getElem?_eq_some_iff.mp hs).1
    obtain ⟨c, v, g1, g2, g3, g4⟩ := hL i s hs
    exact ⟨c, v, g1, by rw [up_ne (by omega), up_at' (by omega), up_ne (by omega)]; exact g2, by rw [up_at' (by omega), up_ne (by omega), up_ne (by omega)]; exact g3, by rw [up_ne (by omega), up_ne (by omega), up_at' (by omega)]; exact g4⟩
  intro m
  induction m with
  | zero =>
    intro k V L z3 z4 z5 h1 h2 h80 hT hF hL hc hl he
    exact hend V L z3 z4 z5 k (by omega) h2 hF hL hc hl (by rw [← he]; exact (List.append_nil _).symm)
  | succ m ih =>
    intro k V L z3 z4 z5 h1 h2 h80 hT hF hL hc hl he
    by_cases ck : k < n
    · obtain ⟨t1, t2⟩ := hT k ck
      obtain ⟨e1, e2⟩ := tkE_lt (T := T) ck
      rw [show tks T n (m + 1) k = if k < n then (if T k = 32 then tks T n m (k + 1) else (k, tkE T n k) :: tks T n m (tkE T n k)) else [] from rfl, if_pos ck] at he
      -- behind a token
      have h247 : ∀ (V' : VIT) (c v : Nat) (z5 : Value), T k ≠ 32 → MTk T k (tkE T n k) c v → (∀ a j, ¬ (a = 83 ∧ j = L.length) → ¬ (a = 84 ∧ j = L.length) → ¬ (a = 85 ∧ j = L.length) → V' a j = V a j) → V' 83 L.length = nI c → V' 84 L.length = nI v → V' 85 L.length = nI k → Ex (d + 1) mi193 247 [.ref 74, .int (nI n), .int (nI k), .int (sB (T k)), .int (nI (tkE T n k)), z5] [] (LY ++ ext) V' VL (vr G) 0 0 P := by
        intro V' c v z5 hns hmt hfr g1 g2 g3
        rw [if_neg hns] at he
        have hc' : V' 74 18 = nI L.length := (hfr 74 18 (by omega) (by omega) (by omega)).trans hc
        refine x_aload_n rfl rfl ?_
        refine x_dup rfl rfl ?_
        refine x_getE (y := 18) rfl rfl rfl hc' ?_
        refine x_iconstN (q := 1) rfl ?_
        refine x_iaddN rfl ?_
        refine x_putI rfl rfl rfl rfl ?_
        refine x_iload rfl rfl ?_
        refine x_istore_n (ls' := [_, _, _, _, _, _]) rfl rfl rfl ?_
        refine x_goto rfl ?_
        skip
        refine ih (tkE T n k) _ (L ++ [(k, tkE T n k)]) _ _ _ (by omega) e2 ?_ (fun i hi => ⟨(hT i hi).1, ?_⟩) (fun a i q1 q2 q3 q4 => ?_) (hL.add hmt (fun i hi => ⟨?_, ?_, ?_⟩) ?_ ?_ ?_) (by rw [up_at]; simp) (by simp only [List.length_append, List.length_cons, List.length_nil]; omega) (by rw [List.append_assoc]; exact he)
        · rw [up_ne (by omega), ← h80]
          exact funext (fun i => hfr 80 i (by omega) (by omega) (by omega))
        · rw [up_ne (by omega), hfr 81 i (by omega) (by omega) (by omega)]; exact (hT i hi).2
        · rw [up_ne2 q4, hfr a i (by omega) (by omega) (by omega)]; exact hF a i q1 q2 q3 q4
        · rw [up_ne (by omega), hfr 83 i (by omega) (by omega) (by omega)]
        · rw [up_ne (by omega), hfr 84 i (by omega) (by omega) (by omega)]
        · rw [up_ne (by omega), hfr 85 i (by omega) (by omega) (by omega)]
        · rw [up_ne (by omega)]; exact g1
        · rw [up_ne (by omega)]; exact g2
        · rw [up_ne (by omega)]; exact g3
      have hV1c : (up (up V 85 L.length (nI k)) 84 L.length (nI 0)) 74 18 = nI L.length := by rw [up_ne (by omega), up_ne (by omega)]; exact hc
      have hT1 : ∀ i, i < n → T i < 256 ∧ (up (up V 85 L.length (nI k)) 84 L.length (nI 0)) 81 i = sB (T i) := fun i hi => ⟨(hT i hi).1, by rw [up_ne (by omega), up_ne (by omega)]; exact (hT i hi).2⟩
      have hV1 : ∀ c : Nat, (up (up (up V 85 L.length (nI k)) 84 L.length (nI 0)) 83 L.length (nI c)) 74 18 = nI L.length := fun c => by rw [up_ne (by omega)]; exact hV1c
      have hfr : ∀ c : Nat, ∀ a j, ¬ (a = 83 ∧ j = L.length) → ¬ (a = 84 ∧ j = L.length) → ¬ (a = 85 ∧ j = L.length) → (up (up (up V 85 L.length (nI k)) 84 L.length (nI 0)) 83 L.length (nI c)) a j = V a j := fun c a j q1 q2 q3 => by rw [up_ne2 q1, up_ne2 q2, up_ne2 q3]
      have hd83 : ∀ c : Nat, (up (up (up V 85 L.length (nI k)) 84 L.length (nI 0)) 83 L.length (nI c)) 83 L.length = nI c := fun c => up_at
      have hd84 : ∀ c : Nat, (up (up (up V 85 L.length (nI k)) 84 L.length (nI 0)) 83 L.length (nI c)) 84 L.length = nI 0 := fun c => by rw [up_ne (by omega), up_at]
      have hd85 : ∀ c : Nat, (up (up (up V 85 L.length (nI k)) 84 L.length (nI 0)) 83 L.length (nI c)) 85 L.length = nI k := fun c => by rw [up_ne (by omega), up_ne (by omega), up_at]
      by_cases c32 : T k = 32
      · rw [if_pos c32] at he
        have e32 : sB (T k) = nI 32 := by rw [c32]; rfl
        refine x_iload_n rfl rfl ?_
        refine x_iload_n rfl rfl ?_
        refine x_icmpN_ge rfl (fun c9 => ?_) (fun c9 => ?_)
        · exact absurd c9 (by first | decide | omega)
        refine x_aload_n rfl rfl ?_
        refine x_getR (u := .ref _) rfl rfl rfl rfl ?_
        refine x_iload_n rfl rfl ?_
        refine x_balN (j := k) rfl rfl (rfl) (by omega) ?_
        rw [t2, e32]
        refine x_istore_n (ls' := [_, _, _, _, _, _]) rfl rfl rfl ?_
        refine x_iload_n rfl rfl ?_
        refine x_bipushN (q := 32) rfl ?_
        refine x_icmpN_ne rfl (fun c22 => ?_) (fun c22 => ?_)
        · exact absurd c22 (by first | decide | omega)
        refine x_iincN (q := 1) (ls' := [_, _, _, _, _, _]) rfl rfl rfl rfl ?_
        refine x_goto rfl ?_
        exact ih (k + 1) V L _ _ _ (by omega) (by omega) h80 hT hF hL hc (by omega) he
      · have n32 : ¬ sB (T k) = 32 := fun z => c32 ((sB_eq (c := 32) (by omega) t1).mp z.symm).symm
        cases cl : ltr (T k) with
        | true =>
          have hb := ltr_b cl
          have cd : dgt (T k) = false := decide_eq_false (by omega)
          have etk : tkE T n k = rnE ltr T n (n - (k + 1)) (k + 1) := if_pos cl
          refine x_iload_n rfl rfl ?_
          refine x_iload_n rfl rfl ?_
          refine x_icmpN_ge rfl (fun c9 => ?_) (fun c9 => ?_)
          · exact absurd c9 (by first | decide | omega)
          refine x_aload_n rfl rfl ?_
          refine x_getR (u := .ref _) rfl rfl rfl rfl ?_
          refine x_iload_n rfl rfl ?_
          refine x_balN (j := k) rfl rfl (rfl) (by omega) ?_
          rw [t2]
          refine x_istore_n (ls' := [_, _, _, _, _, _]) rfl rfl rfl ?_
          refine x_iload_n rfl rfl ?_
          refine x_bipushN (q := 32) rfl ?_
          refine x_icmp_ne rfl (fun c22 => ?_) (fun c22 => ?_)
          rotate_left
          · exact absurd c22 n32
          refine x_iload_n rfl rfl ?_
          refine x_iconstN (q := 1) rfl ?_
          refine x_iaddN rfl ?_
          refine x_istore (ls' := [_, _, _, _, _, _]) rfl rfl rfl ?_
          refine x_iload_n rfl rfl ?_
          refine x_callS (M' := mi190) (As := [_]) (bc1 := 0) (bs1 := 0) (bc2 := 0) (bs2 := 0) rfl rfl rfl rfl ok190 rfl rfl rfl rfl rfl rfl ?_
          refine m_isSmall t1 ?_
          rw [cl]
          refine x_if_eq rfl (fun c40 => ?_) (fun c40 => ?_)
          · exact absurd c40 (by decide)
          skip
          refine msp_let hT hn (n - (k + 1)) (k + 1) (by omega) (fun x hx => ?_)
          rw [← etk] at hx
          subst hx
          refine x_iload_n rfl rfl ?_
          refine x_callS (M' := mi191) (As := [_]) (bc1 := 0) (bs1 := 0) (bc2 := 0) (bs2 := 0) rfl rfl rfl rfl ok191 rfl rfl rfl rfl rfl rfl ?_
          refine m_isDigit t1 ?_
          rw [cd]
          refine x_if_eq rfl (fun c72 => ?_) (fun c72 => ?_)
          rotate_left
          · exact absurd rfl c72
          refine x_aload_n rfl rfl ?_
          refine x_getR (u := .ref _) rfl rfl rfl rfl ?_
          refine x_aload_n rfl rfl ?_
          refine x_getE (y := 18) rfl rfl rfl hc ?_
          refine x_iload_n rfl rfl ?_
          refine x_iasN (j := L.length) rfl rfl (rfl) (by omega) ?_
          refine x_aload_n rfl rfl ?_
          refine x_getR (u := .ref _) rfl rfl rfl rfl ?_
          refine x_aload_n rfl rfl ?_
          refine x_getE (y := 18) rfl rfl rfl ((up_ne2 (by omega)).trans hc) ?_
          refine x_iconstN (q := 0) rfl ?_
          refine x_iasN (j := L.length) rfl rfl (rfl) (by omega) ?_
          refine x_aload_n rfl rfl ?_
          refine x_getR (u := .ref _) rfl rfl rfl rfl ?_
          refine x_aload_n rfl rfl ?_
          refine x_getE (y := 18) rfl rfl rfl hV1c ?_
          refine x_iload_n rfl rfl ?_
          refine x_callS (M' := mi190) (As := [_]) (bc1 := 0) (bs1 := 0) (bc2 := 0) (bs2 := 0) rfl rfl rfl rfl ok190 rfl rfl rfl rfl rfl rfl ?_
          refine m_isSmall t1 ?_
          rw [cl]
          refine x_if_eq rfl (fun c132 => ?_) (fun c132 => ?_)
          · exact absurd c132 (by decide)
          refine x_aload_n rfl rfl ?_
          refine x_iload_n rfl rfl ?_
          refine x_iload rfl rfl ?_
          refine x_callV (M' := mi192) (As := [_, _]) (bc1 := 0) (bs1 := 0) (bc2 := 0) (bs2 := 0) rfl rfl rfl rfl ok192 rfl rfl (by decide) rfl rfl rfl rfl rfl rfl ?_
          refine m_wordOf (by rw [up_ne (by omega), up_ne (by omega)]; exact h80) hT1 hn e1 e2 (fun c hwc => ?_)
          refine x_goto rfl ?_
          refine x_iasN (j := L.length) rfl rfl (rfl) (by omega) ?_
          refine x_iload_n rfl rfl ?_
          refine x_istore (ls' := [_, _, _, _, _, _]) rfl rfl rfl ?_
          refine x_iload rfl rfl ?_
          refine x_iload rfl rfl ?_
          refine x_icmpN_ge rfl (fun c173 => ?_) (fun c173 => ?_)
          · exact absurd c173 (by first | decide | omega)
          refine x_iload_n rfl rfl ?_
          refine x_callS (M' := mi191) (As := [_]) (bc1 := 0) (bs1 := 0) (bc2 := 0) (bs2 := 0) rfl rfl rfl rfl ok191 rfl rfl rfl rfl rfl rfl ?_
          refine m_isDigit t1 ?_
          rw [cd]
          refine x_if_eq rfl (fun c180 => ?_) (fun c180 => ?_)
          rotate_left
          · exact absurd rfl c180
          exact h247 _ c 0 _ c32 (Or.inl ⟨cl, hwc, rfl⟩) (hfr c) (hd83 c) (hd84 c) (hd85 c) | false =>
          cases cd : dgt (T k) with
          | true =>
            have hb := dgt_b cd
            have etk : tkE T n k = rnE dgt T n (n - (k + 1)) (k + 1) := by
              unfold tkE
              rw [if_neg (by rw [cl]; decide), if_pos cd]
            have hall : ∀ i, k ≤ i → i < tkE T n k → 48 ≤ T i ∧ T i ≤ 57 := fun i q1 q2 => by
              by_cases e : i = k
              · rw [e]; exact hb
              · rw [etk] at q2
                exact dgt_b (rnE_all _ _ i (by omega) q2)
            refine x_iload_n rfl rfl ?_
            refine x_iload_n rfl rfl ?_
            refine x_icmpN_ge rfl (fun c9 => ?_) (fun c9 => ?_)
            · exact absurd c9 (by first | decide | omega)
            refine x_aload_n rfl rfl ?_
            refine x_getR (u := .ref _) rfl rfl rfl rfl ?_
            refine x_iload_n rfl rfl ?_
            refine x_balN (j := k) rfl rfl (rfl) (by omega) ?_
            rw [t2]
            refine x_istore_n (ls' := [_, _, _, _, _, _]) rfl rfl rfl ?_
            refine x_iload_n rfl rfl ?_
            refine x_bipushN (q := 32) rfl ?_
            refine x_icmp_ne rfl (fun c22 => ?_) (fun c22 => ?_)
            rotate_left
            · exact absurd c22 n32
            refine x_iload_n rfl rfl ?_
            refine x_iconstN (q := 1) rfl ?_
            refine x_iaddN rfl ?_
            refine x_istore (ls' := [_, _, _, _, _, _]) rfl rfl rfl ?_
            refine x_iload_n rfl rfl ?_
            refine x_callS (M' := mi190) (As := [_]) (bc1 := 0) (bs1 := 0) (bc2 := 0) (bs2 := 0) rfl rfl rfl rfl ok190 rfl rfl rfl rfl rfl rfl ?_
            refine m_isSmall t1 ?_
            rw [cl]
            refine x_if_eq rfl (fun c40 => ?_) (fun c40 => ?_)
            rotate_left
            · exact absurd rfl c40
            refine x_iload_n rfl rfl ?_
            refine x_callS (M' := mi191) (As := [_]) (bc1 := 0) (bs1 := 0) (bc2 := 0) (bs2 := 0) rfl rfl rfl rfl ok191 rfl rfl rfl rfl rfl rfl ?_
            refine m_isDigit t1 ?_
            rw [cd]
            refine x_if_eq rfl (fun c72 => ?_) (fun c72 => ?_)
            · exact absurd c72 (by decide)
            skip
            refine msp_dig hT hn (n - (k + 1)) (k + 1) (by omega) (fun x hx => ?_)
            rw [← etk] at hx
            subst hx
            refine x_aload_n rfl rfl ?_
            refine x_getR (u := .ref _) rfl rfl rfl rfl ?_
            refine x_aload_n rfl rfl ?_
            refine x_getE (y := 18) rfl rfl rfl hc ?_
            refine x_iload_n rfl rfl ?_
            refine x_iasN (j := L.length) rfl rfl (rfl) (by omega) ?_
            refine x_aload_n rfl rfl ?_
            refine x_getR (u := .ref _) rfl rfl rfl rfl ?_
            refine x_aload_n rfl rfl ?_
            refine x_getE (y := 18) rfl rfl rfl ((up_ne2 (by omega)).trans hc) ?_
            refine x_iconstN (q := 0) rfl ?_
            refine x_iasN (j := L.length) rfl rfl (rfl) (by omega) ?_
            refine x_aload_n rfl rfl ?_
            refine x_getR (u := .ref _) rfl rfl rfl rfl ?_
            refine x_aload_n rfl rfl ?_
            refine x_getE (y := 18) rfl rfl rfl hV1c ?_
            refine x_iload_n rfl rfl ?_
            refine x_callS (M' := mi190) (As := [_]) (bc1 := 0) (bs1 := 0) (bc2 := 0) (bs2 := 0) rfl rfl rfl rfl ok190 rfl rfl rfl rfl rfl rfl ?_
            refine m_isSmall t1 ?_
            rw [cl]
            refine x_if_eq rfl (fun c132 => ?_) (fun c132 => ?_)
            rotate_left
            · exact absurd rfl c132
            refine x_iload_n rfl rfl ?_
            refine x_callS (M' := mi191) (As := [_]) (bc1 := 0) (bs1 := 0) (bc2 := 0) (bs2 := 0) rfl rfl rfl rfl ok191 rfl rfl rfl rfl rfl rfl ?_
            refine m_isDigit t1 ?_
            rw [cd]
            refine x_if_eq rfl (fun c149 => ?_) (fun c149 => ?_)
            · exact absurd c149 (by decide)
            refine x_bipushN (q := 50) rfl ?_
            refine x_goto rfl ?_
            refine x_iasN (j := L.length) rfl rfl (rfl) (by omega) ?_
            refine x_iload_n rfl rfl ?_
            refine x_istore (ls' := [_, _, _, _, _, _]) rfl rfl rfl ?_
            skip
            refine msp_num (V0 := up (up (up V 85 L.length (nI k)) 84 L.length (nI 0)) 83 L.length (nI 50)) hn (by omega) ck cd e2 hall (fun V' z5 g1 g2 => ?_) (tkE T n k - k) k 0 _ (by omega) (Nat.le_refl _) (fun i hi => ⟨(hT i hi).1, by rw [up_ne (by omega)]; exact (hT1 i hi).2⟩) (hV1 50) (fun _ _ _ => rfl) (hd84 50) (by omega) rfl
            exact h247 V' 50 _ _ c32 (Or.inr (Or.inl ⟨cl, cd, rfl, rfl⟩)) (fun a j q1 q2 q3 => (g1 a j q2).trans (hfr 50 a j q1 q2 q3)) ((g1 83 _ (by omega)).trans (hd83 50)) g2 ((g1 85 _ (by omega)).trans (hd85 50))
          | false =>
            have etk : tkE T n k = k + 1 := by
              unfold tkE
              rw [if_neg (by rw [cl]; decide), if_neg (by rw [cd]; decide)]
            have hk2 := fun z5 => h247 _ (100 + T k) 0 z5 c32 (Or.inr (Or.inr ⟨cl, cd, rfl, rfl⟩)) (hfr (100 + T k)) (hd83 _) (hd84 _) (hd85 _)
            rw [etk] at hk2
            refine x_iload_n rfl rfl ?_
            refine x_iload_n rfl rfl ?_
            refine x_icmpN_ge rfl (fun c9 => ?_) (fun c9 => ?_)
            · exact absurd c9 (by first | decide | omega)
            refine x_aload_n rfl rfl ?_
            refine x_getR (u := .ref _) rfl rfl rfl rfl ?_
            refine x_iload_n rfl rfl ?_
            refine x_balN (j := k) rfl rfl (rfl) (by omega) ?_
            rw [t2]
            refine x_istore_n (ls' := [_, _, _, _, _, _]) rfl rfl rfl ?_
            refine x_iload_n rfl rfl ?_
            refine x_bipushN (q := 32) rfl ?_
            refine x_icmp_ne rfl (fun c22 => ?_) (fun c22 => ?_)
            rotate_left
            · exact absurd c22 n32
            refine x_iload_n rfl rfl ?_
            refine x_iconstN (q := 1) rfl ?_
            refine x_iaddN rfl ?_
            refine x_istore (ls' := [_, _, _, _, _, _]) rfl rfl rfl ?_
            refine x_iload_n rfl rfl ?_
            refine x_callS (M' := mi190) (As := [_]) (bc1 := 0) (bs1 := 0) (bc2 := 0) (bs2 := 0) rfl rfl rfl rfl ok190 rfl rfl rfl rfl rfl rfl ?_
            refine m_isSmall t1 ?_
            rw [cl]
            refine x_if_eq rfl (fun c40 => ?_) (fun c40 => ?_)
            rotate_left
            · exact absurd rfl c40
            refine x_iload_n rfl rfl ?_
            refine x_callS (M' := mi191) (As := [_]) (bc1 := 0) (bs1 := 0) (bc2 := 0) (bs2 := 0) rfl rfl rfl rfl ok191 rfl rfl rfl rfl rfl rfl ?_
            refine m_isDigit t1 ?_
            rw [cd]
            refine x_if_eq rfl (fun c72 => ?_) (fun c72 => ?_)
            rotate_left
            · exact absurd rfl c72
            refine x_aload_n rfl rfl ?_
            refine x_getR (u := .ref _) rfl rfl rfl rfl ?_
            refine x_aload_n rfl rfl ?_
            refine x_getE (y := 18) rfl rfl rfl hc ?_
            refine x_iload_n rfl rfl ?_
            refine x_iasN (j := L.length) rfl rfl (rfl) (by omega) ?_
            refine x_aload_n rfl rfl ?_
            refine x_getR (u := .ref _) rfl rfl rfl rfl ?_
            refine x_aload_n rfl rfl ?_
            refine x_getE (y := 18) rfl rfl rfl ((up_ne2 (by omega)).trans hc) ?_
            refine x_iconstN (q := 0) rfl ?_
            refine x_iasN (j := L.length) rfl rfl (rfl) (by omega) ?_
            refine x_aload_n rfl rfl ?_
            refine x_getR (u := .ref _) rfl rfl rfl rfl ?_
            refine x_aload_n rfl rfl ?_
            refine x_getE (y := 18) rfl rfl rfl hV1c ?_
            refine x_iload_n rfl rfl ?_
            refine x_callS (M' := mi190) (As := [_]) (bc1 := 0) (bs1 := 0) (bc2 := 0) (bs2 := 0) rfl rfl rfl rfl ok190 rfl rfl rfl rfl rfl rfl ?_
            refine m_isSmall t1 ?_
            rw [cl]
            refine x_if_eq rfl (fun c132 => ?_) (fun c132 => ?_)
            rotate_left
            · exact absurd rfl c132
            refine x_iload_n rfl rfl ?_
            refine x_callS (M' := mi191) (As := [_]) (bc1 := 0) (bs1 := 0) (bc2 := 0) (bs2 := 0) rfl rfl rfl rfl ok191 rfl rfl rfl rfl rfl rfl ?_
            refine m_isDigit t1 ?_
            rw [cd]
            refine x_if_eq rfl (fun c149 => ?_) (fun c149 => ?_)
            rotate_left
            · exact absurd rfl c149
            refine x_bipushN (q := 100) rfl ?_
            refine x_iload_n rfl rfl ?_
            refine x_sipush rfl ?_
            refine x_iand rfl ?_
            rw [sB_and _ t1]
            refine x_iaddN rfl ?_
            refine x_iasN (j := L.length) rfl rfl (rfl) (by omega) ?_
            refine x_iload_n rfl rfl ?_
            refine x_istore (ls' := [_, _, _, _, _, _]) rfl rfl rfl ?_
            refine x_iload rfl rfl ?_
            refine x_iload rfl rfl ?_
            refine x_icmpN_ge rfl (fun c173 => ?_) (fun c173 => ?_)
            · exact absurd c173 (by first | decide | omega)
            refine x_iload_n rfl rfl ?_
            refine x_callS (M' := mi191) (As := [_]) (bc1 := 0) (bs1 := 0) (bc2 := 0) (bs2 := 0) rfl rfl rfl rfl ok191 rfl rfl rfl rfl rfl rfl ?_
            refine m_isDigit t1 ?_
            rw [cd]
            refine x_if_eq rfl (fun c180 => ?_) (fun c180 => ?_)
            rotate_left
            · exact absurd rfl c180
            exact hk2 _
    · exact hend V L z3 z4 z5 k (by omega) h2 hF hL hc hl (by
        rw [show tks T n (m + 1) k = if k < n then (if T k = 32 then tks T n m (k + 1) else (k, tkE T n k) :: tks T n m (tkE T n k)) else [] from rfl, if_neg ck, List.append_nil] at he
        exact he)
set_option maxRecDepth 20000 in
theorem m_splits (hn : n ≤ 400) (h80 : V 80 = VIm 80) (hT : ∀ k, k < n → T k < 256 ∧ V 81 k = sB (T k)) (hP : ∀ V' : VIT, FrMd V V' → MdT T (Tks T n) V' → V' 83 (Tks T n).length = nI 0 → V' 84 (Tks T n).length = nI 0 → V' 85 (Tks T n).length = nI n → V' 74 18 = nI (Tks T n).length → P none (LY ++ ext) V' VL (vr G)) : Ex (d + 1) mi193 0 (entL [.ref 74, .int (nI n)] 6) [] (LY ++ ext) V VL (vr G) 0 0 P := by
  refine x_aload_n rfl rfl ?_
  refine x_iconstN (q := 0) rfl ?_
  refine x_putI rfl rfl rfl rfl ?_
  refine x_iconstN (q := 0) rfl ?_
  refine x_istore_n (ls' := [_, _, _, _, _, _]) rfl rfl rfl ?_
  exact msp_loop (V0 := V) hn hP n 0 _ [] _ _ _ (by omega) (by omega) (by rw [up_ne (by omega)]; exact h80) (fun k hk => ⟨(hT k hk).1, by rw [up_ne (by omega)]; exact (hT k hk).2⟩) (fun a i q1 q2 q3 q4 => up_ne2 q4) (fun i s hs => by cases hs) up_at (Nat.le_refl _) (List.nil_append _)
end Split4
