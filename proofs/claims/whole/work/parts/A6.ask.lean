/-! ===== ask ===== -/
def ctN (n p k : Nat) : List Nat → Nat
  | [] => 0
  | r :: L => (if dg n r p = k then 1 else 0) + ctN n p k L
set_option maxRecDepth 20000 in
theorem ctN_le {n p k : Nat} : ∀ L, ctN n p k L ≤ L.length
  | [] => Nat.le_refl _
  | r :: L => by
    have ih := ctN_le (n := n) (p := p) (k := k) L
    unfold ctN
    simp only [List.length_cons]
    split <;> omega
def mx (a b : Nat) : Nat := if a < b then b else a
def mx4 (f : Nat → Nat) : Nat := mx (mx (mx (mx 0 (f 0)) (f 1)) (f 2)) (f 3)
set_option maxRecDepth 20000 in
theorem mx_n {a b : Nat} (ha : a < 2147483648) (hb : b < 2147483648) : (if nI a < nI b then nI b else nI a) = nI (mx a b) := by
  unfold mx
  simp only [Int32.lt_iff_toInt_lt, nI_toInt ha, nI_toInt hb, Int.ofNat_lt]
  split <;> rfl
set_option maxRecDepth 20000 in
theorem mx4_le {f : Nat → Nat} {M : Nat} (h : ∀ k, k < 4 → f k ≤ M) : mx4 f ≤ M := by
  have a0 := h 0 (by omega)
  have a1 := h 1 (by omega)
  have a2 := h 2 (by omega)
  have a3 := h 3 (by omega)
  unfold mx4 mx
  repeat' split
  all_goals omega
set_option maxRecDepth 20000 in
theorem mx4_congr {f g : Nat → Nat} (h : ∀ k, k < 4 → f k = g k) : mx4 f = mx4 g := by
  unfold mx4
  rw [h 0 (by omega), h 1 (by omega), h 2 (by omega), h 3 (by omega)]
set_option maxRecDepth 20000 in
theorem mx_l {a b : Nat} : a ≤ mx a b := by unfold mx; split <;> omega
set_option maxRecDepth 20000 in
theorem mx_r {a b : Nat} : b ≤ mx a b := by unfold mx; split <;> omega
set_option maxRecDepth 20000 in
theorem mx_le {a b M : Nat} (h1 : a ≤ M) (h2 : b ≤ M) : mx a b ≤ M := by unfold mx; split <;> omega
set_option maxRecDepth 20000 in
theorem le_mx4 {f : Nat → Nat} {k : Nat} (h : k < 4) : f k ≤ mx4 f := by
  unfold mx4
  rcases (show k = 0 ∨ k = 1 ∨ k = 2 ∨ k = 3 by omega) with rfl | rfl | rfl | rfl
  · exact Nat.le_trans mx_r (Nat.le_trans mx_l (Nat.le_trans mx_l mx_l))
  · exact Nat.le_trans mx_r (Nat.le_trans mx_l mx_l)
  · exact Nat.le_trans mx_r mx_l
  · exact mx_r
-- one more of mark e
set_option maxRecDepth 20000 in
theorem mx4_step {f : Nat → Nat} {e : Nat} (he : e < 4) : mx (mx4 f) (f e + 1) = mx4 (fun k => f k + if e = k then 1 else 0) := by
  apply Nat.le_antisymm
  · refine mx_le (mx4_le (fun k hk => Nat.le_trans (Nat.le_add_right _ _) (le_mx4 (f := fun k => f k + if e = k then 1 else 0) hk))) ?_
    have := le_mx4 (f := fun k => f k + if e = k then 1 else 0) he
    simp only [if_true] at this
    exact this
  · refine mx4_le (fun k hk => ?_)
    by_cases c : e = k
    · subst c
      rw [if_pos rfl]
      exact mx_r
    · rw [if_neg c]
      exact Nat.le_trans (show f k + 0 ≤ mx4 f from le_mx4 (f := f) hk) mx_l
/-- how many rows show at most the same mark of p -/
def mostK (K : KT) (dy p : Nat) : Nat := mx4 (fun k => ctN (K 93) p k (RwA K dy))
set_option maxRecDepth 20000 in
theorem mostK_le {K : KT} (hW : WF K) {dy p : Nat} : mostK K dy p ≤ 4096 := mx4_le (fun k _ => Nat.le_trans (ctN_le _) (RwA_len hW))
/-- the best to ask: who, and how many rows at most show the same -/
def bsK (K : KT) (dy : Nat) : Nat → Nat → Option (Nat × Nat) → Option (Nat × Nat)
  | 0, _, b => b
  | m + 1, p, b => bsK K dy m (p + 1) (if (b.elim 1000000 (fun x => x.2)) ≤ mostK K dy p then b else some (p, mostK K dy p))
def bOK (K : KT) (dy : Nat) (b : Option (Nat × Nat)) : Prop := ∀ x, b = some x → x.1 < K 93 ∧ x.2 = mostK K dy x.1
set_option maxRecDepth 20000 in
theorem bsK_ok {K : KT} {dy : Nat} : ∀ (m p : Nat) (b : Option (Nat × Nat)), p + m = K 93 → bOK K dy b → bOK K dy (bsK K dy m p b)
  | 0, _, _, _, h => h
  | m + 1, p, b, e, h => bsK_ok m (p + 1) _ (by omega) (by
    split
    · exact h
    · intro x hx
      rw [← Option.some.inj hx]
      exact ⟨by show p < K 93; omega, rfl⟩)
def bsA (K : KT) (dy : Nat) : Option (Nat × Nat) := if (RwA K dy).length = 0 then none else bsK K dy (K 93) 0 none
set_option maxRecDepth 20000 in
theorem bsA_ok {K : KT} {dy : Nat} : bOK K dy (bsA K dy) := by
  unfold bsA
  split
  · intro x hx; cases hx
  · exact bsK_ok _ _ _ (by omega) (fun x hx => by cases hx)
section Ask
variable {d : Nat} {V0 V : VIT} {VL : VLT} {G : VRT} {P : Post} {ext : HL} {K : KT} {dy p : Nat}
set_option maxRecDepth 20000 in
theorem s_fill4 {V0 : VIT} (hP : ∀ V' : VIT, (∀ a k, a ≠ 69 → V' a k = V0 a k) → (∀ k, k < 4 → V' 69 k = nI 0) → P none (LY ++ ext) V' VL (vr G)) : ∀ (m i : Nat) (V : VIT), i + m = 4 → (∀ a k, a ≠ 69 → V a k = V0 a k) → (∀ k, k < i → V 69 k = nI 0) → Ex d mi283 5 [.ref 69, .int (nI 0), .int (nI i), .int (nI 4)] [] (LY ++ ext) V VL (vr G) 0 0 P := by
  intro m
  induction m with
  | zero =>
    intro i V hi hF h2
    have e : i = 4 := by omega
    subst e
    refine x_iload_n rfl rfl ?_
    refine x_iload_n rfl rfl ?_
    refine x_icmpN_ge rfl (fun c7 => ?_) (fun c7 => ?_)
    rotate_left
    · exact absurd c7 (by first | decide | omega)
    refine x_vret rfl rfl ?_
    exact hP V hF h2 | succ m ih =>
    intro i V hi hF h2
    refine x_iload_n rfl rfl ?_
    refine x_iload_n rfl rfl ?_
    refine x_icmpN_ge rfl (fun c7 => ?_) (fun c7 => ?_)
    · exact absurd c7 (by first | decide | omega)
    refine x_aload_n rfl rfl ?_
    refine x_iload_n rfl rfl ?_
    refine x_iload_n rfl rfl ?_
    refine x_iasN (j := i) rfl rfl (rfl) (by omega) ?_
    refine x_iincN (q := 1) (ls' := [_, _, _, _]) rfl rfl rfl rfl ?_
    refine x_goto rfl ?_
    exact ih (i + 1) _ (by omega) (fun a k h => by rw [up_ne h]; exact hF a k h) (fun k hk => by by_cases c : k = i; subst c; exact up_at; rw [up_at' c]; exact h2 k (by omega))
set_option maxRecDepth 20000 in
theorem s_ma (hW : WF K) (hp : p < K 93) {T : List Nat} (hT : T.length ≤ 4096) (hTl : ∀ x, x ∈ T → x < 4096) (hP : ∀ V' : VIT, FrW V0 V' → RW 3 K V' → FndL V' T → P (some (.int (nI (mx4 (fun k => ctN (K 93) p k T))))) (LY ++ ext) V' VL (vr G)) : ∀ (R : List Nat) (i : Nat) (V : VIT) (tl : Nat → Nat) (z4 : Value), T.drop i = R → i + R.length = T.length → FrW V0 V → RW 3 K V → FndL V T → (∀ k, k < 4 → V 69 k = nI (tl k) ∧ tl k ≤ i) → (∀ k, k < 4 → tl k + ctN (K 93) p k R = ctN (K 93) p k T) → Ex (d + 2) mi67 12 [.ref 67, .int (nI p), .int (nI (mx4 tl)), .int (nI i), z4] [] (LY ++ ext) V VL (vr G) 0 0 P := by
  have h6 := hW.n
  intro R
  induction R with
  | nil =>
    intro i V tl z4 hd hi hF hX hL ht hs
    have hi' : i = T.length := by simpa using hi
    have e : mx4 tl = mx4 (fun k => ctN (K 93) p k T) := mx4_congr (fun k hk => by have := hs k hk; simpa [ctN] using this)
    rw [e]
    refine x_iload_n rfl rfl ?_
    refine x_aload_n rfl rfl ?_
    refine x_getE (y := 4) rfl rfl rfl hL.1 ?_
    refine x_icmpN_ge rfl (fun c17 => ?_) (fun c17 => ?_)
    rotate_left
    · exact absurd c17 (by first | decide | omega)
    refine x_iload_n rfl rfl ?_
    refine x_iret rfl rfl ?_
    exact hP V hF hX hL | cons x R ih =>
    intro i V tl z4 hd hi hF hX hL ht hs
    simp only [List.length_cons] at hi
    have hx : T[i]? = some x := by
      have : (T.drop i)[0]? = some x := by rw [hd]; rfl
      rw [List.getElem?_drop] at this
      simpa using this
    have hxl := hTl x (List.mem_of_getElem? hx)
    have hdl : dg (K 93) x p < 4 := dg_lt
    obtain ⟨ht1, ht2⟩ := ht _ hdl
    have hml : mx4 tl ≤ 4096 := mx4_le (fun k hk => by have := (ht k hk).2; omega)
    have hstep := mx4_step (f := tl) hdl
    have e1 : nI (tl (dg (K 93) x p)) + 1 = nI (tl (dg (K 93) x p) + 1) := by rw [← nI_add]; rfl
    refine x_iload_n rfl rfl ?_
    refine x_aload_n rfl rfl ?_
    refine x_getE (y := 4) rfl rfl rfl hL.1 ?_
    refine x_icmpN_ge rfl (fun c17 => ?_) (fun c17 => ?_)
    · exact absurd c17 (by first | decide | omega)
    refine x_aload_n rfl rfl ?_
    refine x_getR (u := .ref _) rfl rfl rfl rfl ?_
    refine x_aload_n rfl rfl ?_
    refine x_getR (u := .ref _) rfl rfl rfl rfl ?_
    refine x_iload_n rfl rfl ?_
    refine x_ialE (j := i) rfl rfl (rfl) (by omega) (hL.2 i x hx) ?_
    refine x_iload_n rfl rfl ?_
    refine x_callV (M' := mi104) (As := [_, _]) (bc1 := 0) (bs1 := 0) (bc2 := 0) (bs2 := 0) rfl rfl rfl rfl ok104 rfl rfl (by decide) rfl rfl rfl rfl rfl rfl ?_
    refine s_markInRow_in hX.n hp h6 hxl ?_
    refine x_istore (ls' := [_, _, _, _, _]) rfl rfl rfl ?_
    refine x_iload rfl rfl ?_
    refine x_ifN_lt rfl ?_
    refine x_iload rfl rfl ?_
    refine x_aload_n rfl rfl ?_
    refine x_getR (u := .ref _) rfl rfl rfl rfl ?_
    refine x_alen0 rfl rfl ?_
    refine x_icmpN_ge rfl (fun c48 => ?_) (fun c48 => ?_)
    · exact absurd c48 (by first | decide | omega)
    refine x_aload_n rfl rfl ?_
    refine x_getR (u := .ref _) rfl rfl rfl rfl ?_
    refine x_iload rfl rfl ?_
    refine x_dup2 rfl rfl rfl ?_
    refine x_ialE (j := dg (K 93) x p) rfl rfl (rfl) (by omega) (ht1) ?_
    refine x_iconstN (q := 1) rfl ?_
    refine x_iaddN rfl ?_
    refine x_iasN (j := dg (K 93) x p) rfl rfl (rfl) (by omega) ?_
    refine x_iload_n rfl rfl ?_
    refine x_aload_n rfl rfl ?_
    refine x_getR (u := .ref _) rfl rfl rfl rfl ?_
    refine x_iload rfl rfl ?_
    refine x_ialE (j := dg (K 93) x p) rfl rfl (rfl) (by omega) (up_at) ?_
    refine x_max rfl rfl ?_
    rw [mx_n (by omega) (by omega), hstep]
    refine x_istore_n (ls' := [_, _, _, _, _]) rfl rfl rfl ?_
    refine x_iincN (q := 1) (ls' := [_, _, _, _, _]) rfl rfl rfl rfl ?_
    refine x_goto rfl ?_
    skip
    refine ih (i + 1) _ _ _ (by rw [← List.drop_drop, hd]; rfl) (by omega) (fun a k q1 q2 q3 q4 q5 q6 q7 q8 => by rw [up_ne q8]; exact hF a k q1 q2 q3 q4 q5 q6 q7 q8) (hX.same (fun a _ _ => up_ne (by omega))) ⟨by rw [up_ne (by omega)]; exact hL.1, by rw [up_ne (by omega)]; exact hL.2⟩ (fun k hk => ?_) (fun k hk => ?_)
    · obtain ⟨g1, g2⟩ := ht k hk
      by_cases c : dg (K 93) x p = k
      · subst c
        rw [up_at, if_pos rfl]
        exact ⟨rfl, by omega⟩
      · rw [up_at' (fun z => c z.symm), if_neg c]
        exact ⟨g1, by omega⟩
    · have := hs k hk
      rw [show ctN (K 93) p k (x :: R) = (if dg (K 93) x p = k then 1 else 0) + ctN (K 93) p k R from rfl] at this
      omega
set_option maxRecDepth 20000 in
theorem s_mostAlike {T : List Nat} (hX : RW 3 K V) (hW : WF K) (hp : p < K 93) (hL : FndL V T) (hT : T.length ≤ 4096) (hTl : ∀ x, x ∈ T → x < 4096) (hP : ∀ V' : VIT, FrW V V' → RW 3 K V' → FndL V' T → P (some (.int (nI (mx4 (fun k => ctN (K 93) p k T))))) (LY ++ ext) V' VL (vr G)) : Ex (d + 2) mi67 0 (entL [.ref 67, .int (nI p)] 5) [] (LY ++ ext) V VL (vr G) 0 0 P := by
  have e0 : mx4 (fun _ => 0) = 0 := rfl
  refine x_aload_n rfl rfl ?_
  refine x_getR (u := .ref _) rfl rfl rfl rfl ?_
  refine x_iconstN (q := 0) rfl ?_
  refine x_callS (M' := mi283) (As := [_, _]) (bc1 := 0) (bs1 := 0) (bc2 := 0) (bs2 := 0) rfl rfl rfl rfl ok283 rfl rfl rfl rfl rfl rfl ?_
  refine x_iconst rfl ?_
  refine x_istore_n (ls' := [_, _, _, _]) rfl rfl rfl ?_
  refine x_aload_n rfl rfl ?_
  refine x_alen0 rfl rfl ?_
  refine x_istore_n (ls' := [_, _, _, _]) rfl rfl rfl ?_
  refine s_fill4 (V0 := V) (fun V1 hF h2 => ?_) 4 0 _ (by omega) (fun _ _ _ => rfl) (fun k hk => absurd hk (by omega))
  refine x_iconstN (q := 0) rfl ?_
  refine x_istore_n (ls' := [_, _, _, _, _]) rfl rfl rfl ?_
  refine x_iconstN (q := 0) rfl ?_
  refine x_istore_n (ls' := [_, _, _, _, _]) rfl rfl rfl ?_
  exact s_ma hW hp hT hTl hP T 0 V1 (fun _ => 0) _ rfl (by omega) (fun a k q1 q2 q3 q4 q5 q6 q7 q8 => hF a k q8) (hX.same (fun a _ _ => funext (fun k => hF a k (by omega)))) ⟨(hF 67 4 (by omega)).trans hL.1, fun i x hx => (hF 68 i (by omega)).trans (hL.2 i x hx)⟩ (fun k hk => ⟨h2 k hk, by omega⟩) (fun k hk => Nat.zero_add _)
set_option maxRecDepth 20000 in
theorem bs_loop (hW : WF K) (hn : 0 < (RwA K dy).length) (hP : ∀ V' : VIT, FrW V0 V' → RW 3 K V' → FndL V' (RwA K dy) → P (some (.int (agI ((bsK K dy (K 93) 0 none).map (fun x => x.1))))) (LY ++ ext) V' VL (vr G)) : ∀ (m p : Nat) (V : VIT) (b : Option (Nat × Nat)) (w : Int32) (z4 : Value), p + m = K 93 → FrW V0 V → RW 3 K V → FndL V (RwA K dy) → bOK K dy b → (∀ x, b = some x → w = nI x.2) → bsK K dy m p b = bsK K dy (K 93) 0 none → Ex (d + 3) mi66 6 [.ref 67, .int (agI (b.map (fun x => x.1))), .int w, .int (nI p), z4] [] (LY ++ ext) V VL (vr G) 0 0 P := by
  have h6 := hW.n
  have hl := RwA_len hW (dy := dy)
  intro m
  induction m with
  | zero =>
    intro p V b w z4 hp hF hX hL hb hw he
    rw [show bsK K dy 0 p b = b from rfl] at he
    rw [he]
    refine x_iload_n rfl rfl ?_
    refine x_aload_n rfl rfl ?_
    refine x_getR (u := .ref _) rfl rfl rfl rfl ?_
    refine x_getE (y := 0) rfl rfl rfl (hX.n) ?_
    refine x_icmpN_ge rfl (fun c14 => ?_) (fun c14 => ?_)
    rotate_left
    · exact absurd c14 (by first | decide | omega)
    refine x_iload_n rfl rfl ?_
    refine x_iret rfl rfl ?_
    exact hP V hF hX hL | succ m ih =>
    intro p V b w z4 hp hF hX hL hb hw he
    have hml := mostK_le hW (dy := dy) (p := p)
    have he2 : bsK K dy m (p + 1) (if (b.elim 1000000 (fun x => x.2)) ≤ mostK K dy p then b else some (p, mostK K dy p)) = bsK K dy (K 93) 0 none := he
    refine x_iload_n rfl rfl ?_
    refine x_aload_n rfl rfl ?_
    refine x_getR (u := .ref _) rfl rfl rfl rfl ?_
    refine x_getE (y := 0) rfl rfl rfl (hX.n) ?_
    refine x_icmpN_ge rfl (fun c14 => ?_) (fun c14 => ?_)
    · exact absurd c14 (by first | decide | omega)
    refine x_aload_n rfl rfl ?_
    refine x_getE (y := 4) rfl rfl rfl hL.1 ?_
    refine x_ifN_le rfl (fun c21 => ?_) (fun c21 => ?_)
    · exact absurd c21 (by first | decide | omega)
    refine x_aload_n rfl rfl ?_
    refine x_iload_n rfl rfl ?_
    refine x_callV (M' := mi67) (As := [_]) (bc1 := 0) (bs1 := 0) (bc2 := 0) (bs2 := 0) rfl rfl rfl rfl ok67 rfl rfl (by decide) rfl rfl rfl rfl rfl rfl ?_
    refine s_mostAlike hX hW (show p < K 93 by omega) hL hl (fun x hx => Nat.lt_of_lt_of_le (RwA_lt hx) (pow4_6 h6)) (fun V1 hF1 hX1 hL1 => ?_)
    skip
    have hF' : FrW V0 V1 := fun a k q1 q2 q3 q4 q5 q6 q7 q8 => (hF1 a k q1 q2 q3 q4 q5 q6 q7 q8).trans (hF a k q1 q2 q3 q4 q5 q6 q7 q8)
    have hk : ∀ (w1 : Int32) (b1_ : Option (Nat × Nat)) (z4 : Value), bOK K dy b1_ → (∀ x, b1_ = some x → w1 = nI x.2) → (if (b.elim 1000000 (fun x => x.2)) ≤ mostK K dy p then b else some (p, mostK K dy p)) = b1_ → Ex (d + 3) mi66 47 [.ref 67, .int (agI (b1_.map (fun x => x.1))), .int w1, .int (nI p), z4] [] (LY ++ ext) V1 VL (vr G) 0 0 P := by
      intro w1 b1_ z4 g1 g2 g3
      rw [g3] at he2
      refine x_iincN (q := 1) (ls' := [_, _, _, _, _]) rfl rfl rfl rfl ?_
      refine x_goto rfl ?_
      exact ih (p + 1) V1 b1_ w1 _ (by omega) hF' hX1 hL1 g1 g2 he2
    have hnew : bOK K dy (some (p, mostK K dy p)) := fun x hx => by rw [← Option.some.inj hx]; exact ⟨by show p < K 93; omega, rfl⟩
    show Ex (d + 3) mi66 29 [.ref 67, .int (agI (b.map (fun x => x.1))), .int w, .int (nI p), z4] [.int (nI (mostK K dy p))] (LY ++ ext) V1 VL (vr G) 0 0 P
    cases b with
    | none =>
      refine x_istore (ls' := [_, _, _, _, _]) rfl rfl rfl ?_
      refine x_iload_n rfl rfl ?_
      refine x_iconst rfl ?_
      refine x_icmp_eq rfl (fun c33 => ?_) (fun c33 => ?_)
      rotate_left
      · exact absurd rfl c33
      refine x_iload_n rfl rfl ?_
      refine x_istore_n (ls' := [_, _, _, _, _]) rfl rfl rfl ?_
      refine x_iload rfl rfl ?_
      refine x_istore_n (ls' := [_, _, _, _, _]) rfl rfl rfl ?_
      exact hk _ (some (p, mostK K dy p)) _ hnew (fun x hx => by rw [← Option.some.inj hx]) (if_neg (by show ¬ 1000000 ≤ _; omega)) | some x =>
      have hx1 := (hb x rfl).1
      have hx2 := (hb x rfl).2
      have hml2 := mostK_le hW (dy := dy) (p := x.1)
      have hwx := hw x rfl
      subst hwx
      by_cases c : x.2 ≤ mostK K dy p
      · refine x_istore (ls' := [_, _, _, _, _]) rfl rfl rfl ?_
        refine x_iload_n rfl rfl ?_
        refine x_iconst rfl ?_
        refine x_icmp_eq rfl (fun c33 => ?_) (fun c33 => ?_)
        · exact absurd c33 (nI_m1 (show x.1 < 2147483648 by omega))
        refine x_iload rfl rfl ?_
        refine x_iload_n rfl rfl ?_
        refine x_icmpN_ge rfl (fun c39 => ?_) (fun c39 => ?_)
        rotate_left
        · exact absurd c39 (by first | decide | omega)
        exact hk _ (some x) _ hb (fun y hy => by rw [Option.some.inj hy]) (if_pos c)
      · refine x_istore (ls' := [_, _, _, _, _]) rfl rfl rfl ?_
        refine x_iload_n rfl rfl ?_
        refine x_iconst rfl ?_
        refine x_icmp_eq rfl (fun c33 => ?_) (fun c33 => ?_)
        · exact absurd c33 (nI_m1 (show x.1 < 2147483648 by omega))
        refine x_iload rfl rfl ?_
        refine x_iload_n rfl rfl ?_
        refine x_icmpN_ge rfl (fun c39 => ?_) (fun c39 => ?_)
        · exact absurd c39 (by first | decide | omega)
        refine x_iload_n rfl rfl ?_
        refine x_istore_n (ls' := [_, _, _, _, _]) rfl rfl rfl ?_
        refine x_iload rfl rfl ?_
        refine x_istore_n (ls' := [_, _, _, _, _]) rfl rfl rfl ?_
        exact hk _ (some (p, mostK K dy p)) _ hnew (fun y hy => by rw [← Option.some.inj hy]) (if_neg c)
set_option maxRecDepth 20000 in
theorem s_bestToAsk (hX : RW 3 K V) (hW : WF K) (hL : FndL V (RwA K dy)) (hP : ∀ V' : VIT, FrW V V' → RW 3 K V' → FndL V' (RwA K dy) → P (some (.int (agI ((bsA K dy).map (fun x => x.1))))) (LY ++ ext) V' VL (vr G)) : Ex (d + 3) mi66 0 (entL [.ref 67] 5) [] (LY ++ ext) V VL (vr G) 0 0 P := by
  have h6 := hW.n
  have hl := RwA_len hW (dy := dy)
  unfold bsA at hP
  by_cases c : (RwA K dy).length = 0
  · rw [if_pos c] at hP
    have h4 := hL.1
    rw [c] at h4
    refine x_iconst rfl ?_
    refine x_istore_n (ls' := [_, _, _, _, _]) rfl rfl rfl ?_
    refine x_iconstN (q := 0) rfl ?_
    refine x_istore_n (ls' := [_, _, _, _, _]) rfl rfl rfl ?_
    refine x_iconstN (q := 0) rfl ?_
    refine x_istore_n (ls' := [_, _, _, _, _]) rfl rfl rfl ?_
    refine x_iload_n rfl rfl ?_
    refine x_aload_n rfl rfl ?_
    refine x_getR (u := .ref _) rfl rfl rfl rfl ?_
    refine x_getE (y := 0) rfl rfl rfl (hX.n) ?_
    refine x_icmpN_ge rfl (fun c14 => ?_) (fun c14 => ?_)
    · exact x_iload_n rfl rfl (x_iret rfl rfl (hP V (fun _ _ _ _ _ _ _ _ _ _ => rfl) hX hL))
    · refine x_aload_n rfl rfl ?_
      refine x_getE (y := 4) rfl rfl rfl h4 ?_
      refine x_ifN_le rfl (fun c21 => ?_) (fun c21 => ?_)
      rotate_left
      · exact absurd c21 (by first | decide | omega)
      refine x_iload_n rfl rfl ?_
      refine x_iret rfl rfl ?_
      exact hP V (fun _ _ _ _ _ _ _ _ _ _ => rfl) hX hL
  · rw [if_neg c] at hP
    refine x_iconst rfl ?_
    refine x_istore_n (ls' := [_, _, _, _, _]) rfl rfl rfl ?_
    refine x_iconstN (q := 0) rfl ?_
    refine x_istore_n (ls' := [_, _, _, _, _]) rfl rfl rfl ?_
    refine x_iconstN (q := 0) rfl ?_
    refine x_istore_n (ls' := [_, _, _, _, _]) rfl rfl rfl ?_
    exact bs_loop hW (by omega) hP (K 93) 0 V none _ _ (by omega) (fun _ _ _ _ _ _ _ _ _ _ => rfl) hX hL (fun x hx => by cases hx) (fun x hx => by cases hx) rfl
set_option maxRecDepth 20000 in
theorem x_ask_bad {c w : Int32} (h : hasF 4 c = 0 ∨ w < 0 ∨ 1 < w) (hP : P (some (.int (-1))) (LY ++ ext) V VL (vr G)) : Ex (d + 7) mi136 0 (entL [.ref 0, .int c, .int w] 4) [] (LY ++ ext) V VL (vr G) 0 0 P := by
  refine x_iload_n rfl rfl ?_
  refine x_callS (M' := mi150) (As := [_]) (bc1 := 0) (bs1 := 0) (bc2 := 0) (bs2 := 0) rfl rfl rfl rfl ok150 rfl rfl rfl rfl rfl rfl ?_
  refine s_isDay ?_
  refine x_if_eq rfl (fun c4 => ?_) (fun c4 => ?_)
  · refine x_iconst rfl ?_
    refine x_iret rfl rfl ?_
    exact hP
  · refine x_iload_n rfl rfl ?_
    refine x_if_lt rfl (fun c8 => ?_) (fun c8 => ?_)
    · refine x_iconst rfl ?_
      refine x_iret rfl rfl ?_
      exact hP
    · refine x_iload_n rfl rfl ?_
      refine x_iconst rfl ?_
      refine x_icmp_le rfl (fun c13 => ?_) (fun c13 => ?_)
      · exact absurd h (fun z => z.elim c4 (fun z => z.elim c8 (fun z => absurd c13 (Int32.not_le.mpr z))))
      · refine x_iconst rfl ?_
        refine x_iret rfl rfl ?_
        exact hP
set_option maxRecDepth 20000 in
theorem FrW.tr {V V1 V2 : VIT} (h : FrW V V1) (h1 : FrW V1 V2) : FrW V V2 := fun a k q1 q2 q3 q4 q5 q6 q7 q8 => (h1 a k q1 q2 q3 q4 q5 q6 q7 q8).trans (h a k q1 q2 q3 q4 q5 q6 q7 q8)
set_option maxRecDepth 20000 in
theorem x_ask0 (hX : RW 3 K V) (hW : WF K) (hL : Laws K 13 (LY ++ ext) V (vr G)) (hd4 : dy < 4) (hP : ∀ V' : VIT, FrW V V' → P (some (.int (agI ((bsA K dy).map (fun x => x.1))))) (LY ++ ext) V' VL (vr G)) : Ex (d + 7) mi136 0 (entL [.ref 0, .int (nI dy), .int 0] 4) [] (LY ++ ext) V VL (vr G) 0 0 P := by
  refine x_iload_n rfl rfl ?_
  refine x_callS (M' := mi150) (As := [_]) (bc1 := 0) (bs1 := 0) (bc2 := 0) (bs2 := 0) rfl rfl rfl rfl ok150 rfl rfl rfl rfl rfl rfl ?_
  refine s_isDay_in hd4 ?_
  refine x_if_eq rfl (fun c4 => ?_) (fun c4 => ?_)
  · exact absurd c4 (by first | decide | omega)
  refine x_iload_n rfl rfl ?_
  refine x_if_lt rfl (fun c8 => ?_) (fun c8 => ?_)
  · exact absurd c8 (by first | decide | omega)
  refine x_iload_n rfl rfl ?_
  refine x_iconst rfl ?_
  refine x_icmp_le rfl (fun c13 => ?_) (fun c13 => ?_)
  rotate_left
  · exact absurd (by decide : (0 : Int32) ≤ 1) c13
  refine x_aload_n rfl rfl ?_
  refine x_getR (u := .ref _) rfl rfl rfl rfl ?_
  refine x_iload_n rfl rfl ?_
  refine x_callV (M' := mi64) (As := [_]) (bc1 := 0) (bs1 := 0) (bc2 := 0) (bs2 := 0) rfl rfl rfl rfl ok64 rfl rfl (by decide) rfl rfl rfl rfl rfl rfl ?_
  refine s_gather hX hW hL hd4 (fun V1 hF hX1 hL1 => ?_)
  refine x_aload_n rfl rfl ?_
  refine x_getR (u := .ref _) rfl rfl rfl rfl ?_
  refine x_callV (M' := mi66) (As := []) (bc1 := 0) (bs1 := 0) (bc2 := 0) (bs2 := 0) rfl rfl rfl rfl ok66 rfl rfl (by decide) rfl rfl rfl rfl rfl rfl ?_
  refine s_bestToAsk hX1 hW hL1 (fun V2 hF2 hX2 hL2 => ?_)
  refine x_istore_n (ls' := [_, _, _, _]) rfl rfl rfl ?_
  refine x_iload_n rfl rfl ?_
  refine x_iconst rfl ?_
  refine x_icmp_eq rfl (fun c36 => ?_) (fun c36 => ?_)
  · exact x_iload_n rfl rfl (x_goto rfl (x_iret rfl rfl (hP V2 (hF.tr hF2))))
  · refine x_iload_n rfl rfl ?_
    refine x_if_ne rfl (fun c40 => ?_) (fun c40 => ?_)
    · exact absurd rfl c40
    refine x_iload_n rfl rfl ?_
    refine x_goto rfl ?_
    refine x_iret rfl rfl ?_
    exact hP V2 (hF.tr hF2)
set_option maxRecDepth 20000 in
theorem x_ask1 (hX : RW 3 K V) (hW : WF K) (hL : Laws K 13 (LY ++ ext) V (vr G)) (hd4 : dy < 4) (hP : ∀ V' : VIT, FrW V V' → P (some (.int (agI ((bsA K dy).map (fun x => x.2))))) (LY ++ ext) V' VL (vr G)) : Ex (d + 7) mi136 0 (entL [.ref 0, .int (nI dy), .int 1] 4) [] (LY ++ ext) V VL (vr G) 0 0 P := by
  have h6 := hW.n
  refine x_iload_n rfl rfl ?_
  refine x_callS (M' := mi150) (As := [_]) (bc1 := 0) (bs1 := 0) (bc2 := 0) (bs2 := 0) rfl rfl rfl rfl ok150 rfl rfl rfl rfl rfl rfl ?_
  refine s_isDay_in hd4 ?_
  refine x_if_eq rfl (fun c4 => ?_) (fun c4 => ?_)
  · exact absurd c4 (by first | decide | omega)
  refine x_iload_n rfl rfl ?_
  refine x_if_lt rfl (fun c8 => ?_) (fun c8 => ?_)
  · exact absurd c8 (by first | decide | omega)
  refine x_iload_n rfl rfl ?_
  refine x_iconst rfl ?_
  refine x_icmp_le rfl (fun c13 => ?_) (fun c13 => ?_)
  rotate_left
  · exact absurd (by decide : (1 : Int32) ≤ 1) c13
  refine x_aload_n rfl rfl ?_
  refine x_getR (u := .ref _) rfl rfl rfl rfl ?_
  refine x_iload_n rfl rfl ?_
  refine x_callV (M' := mi64) (As := [_]) (bc1 := 0) (bs1 := 0) (bc2 := 0) (bs2 := 0) rfl rfl rfl rfl ok64 rfl rfl (by decide) rfl rfl rfl rfl rfl rfl ?_
  refine s_gather hX hW hL hd4 (fun V1 hF hX1 hL1 => ?_)
  refine x_aload_n rfl rfl ?_
  refine x_getR (u := .ref _) rfl rfl rfl rfl ?_
  refine x_callV (M' := mi66) (As := []) (bc1 := 0) (bs1 := 0) (bc2 := 0) (bs2 := 0) rfl rfl rfl rfl ok66 rfl rfl (by decide) rfl rfl rfl rfl rfl rfl ?_
  refine s_bestToAsk hX1 hW hL1 (fun V2 hF2 hX2 hL2 => ?_)
  skip
  cases hb : bsA K dy with
  | none =>
    rw [hb] at hP
    refine x_istore_n (ls' := [_, _, _, _]) rfl rfl rfl ?_
    refine x_iload_n rfl rfl ?_
    refine x_iconst rfl ?_
    refine x_icmp_eq rfl (fun c36 => ?_) (fun c36 => ?_)
    rotate_left
    · exact absurd rfl c36
    refine x_iload_n rfl rfl ?_
    refine x_goto rfl ?_
    refine x_iret rfl rfl ?_
    exact hP V2 (hF.tr hF2) | some x =>
    rw [hb] at hP
    obtain ⟨o1, o2⟩ := bsA_ok x hb
    have hP3 : ∀ V' : VIT, FrW V V' → P (some (.int (nI (mostK K dy x.1)))) (LY ++ ext) V' VL (vr G) := fun V' q => by rw [← o2]; exact hP V' q
    show Ex (d + 7) mi136 33 [.ref 0, .int (nI dy), .int 1, .retAddr 9] [.int (nI x.1)] (LY ++ ext) V2 VL (vr G) 0 0 P
    refine x_istore_n (ls' := [_, _, _, _]) rfl rfl rfl ?_
    refine x_iload_n rfl rfl ?_
    refine x_iconst rfl ?_
    refine x_icmp_eq rfl (fun c36 => ?_) (fun c36 => ?_)
    · exact absurd c36 (nI_m1 (show x.1 < 2147483648 by omega))
    refine x_iload_n rfl rfl ?_
    refine x_if_ne rfl (fun c40 => ?_) (fun c40 => ?_)
    rotate_left
    · exact absurd c40 (by decide)
    refine x_aload_n rfl rfl ?_
    refine x_getR (u := .ref _) rfl rfl rfl rfl ?_
    refine x_iload_n rfl rfl ?_
    refine x_callV (M' := mi67) (As := [_]) (bc1 := 0) (bs1 := 0) (bc2 := 0) (bs2 := 0) rfl rfl rfl rfl ok67 rfl rfl (by decide) rfl rfl rfl rfl rfl rfl ?_
    refine s_mostAlike hX2 hW o1 hL2 (RwA_len hW) (fun y hy => Nat.lt_of_lt_of_le (RwA_lt hy) (pow4_6 h6)) (fun V3 hF3 hX3 hL3 => ?_)
    refine x_iret rfl rfl ?_
    exact hP3 V3 ((hF.tr hF2).tr hF3)
end Ask
