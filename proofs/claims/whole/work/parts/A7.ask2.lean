/-! ===== ask: the model ===== -/
def FrA (V0 V : VIT) : Prop := ∀ a k, a ≠ 86 → a ≠ 87 → a ≠ 97 → ¬ (a = 74 ∧ (k = 22 ∨ k = 23 ∨ k = 24 ∨ k = 25)) → V a k = V0 a k
set_option maxRecDepth 20000 in
theorem FrA.kp {V V1 : VIT} (h : FrA V V1) (a k : Nat) (hk : kpP a k) : V1 a k = V a k := by
  unfold kpP at hk
  exact h a k (by omega) (by omega) (by omega) (by omega)
def shAt (K : KT) (V : VIT) (f : Nat → Nat → Nat) : Prop := ∀ p k, p < K 93 → k < 4 → V 97 (4 * p + k) = nI (f p k)
def mxk (f : Nat → Nat) : Nat → Nat
  | 0 => 0
  | k + 1 => mx (mxk f k) (f k)
set_option maxRecDepth 20000 in
theorem mxk4 {f : Nat → Nat} : mxk f 4 = mx4 f := rfl
set_option maxRecDepth 20000 in
theorem mxk_le {f : Nat → Nat} {M : Nat} (h : ∀ k, k < 4 → f k ≤ M) : ∀ k, k ≤ 4 → mxk f k ≤ M
  | 0, _ => Nat.zero_le _
  | k + 1, hk => mx_le (mxk_le h k (by omega)) (h k (by omega))
set_option maxRecDepth 20000 in
theorem gr_n {a b : Nat} (ha : a < 2147483648) (hb : b < 2147483648) : (if nI a ≤ nI b then nI b else nI a) = nI (mx a b) := by
  unfold mx
  simp only [Int32.le_iff_toInt_le, nI_toInt ha, nI_toInt hb]
  by_cases c : a < b
  · rw [if_pos (by omega), if_pos c]
  · rw [if_neg c]
    split
    · rw [show b = a by omega]
    · rfl
def shD (K : KT) (f : Nat → Nat → Nat) (r p : Nat) : Nat → Nat → Nat := fun p' k => f p' k + if p' < p ∧ dg (K 93) r p' = k then 1 else 0
set_option maxRecDepth 20000 in
theorem shD_lt {K : KT} {f : Nat → Nat → Nat} {r p p' k : Nat} (h : p' < p) : shD K f r p p' k = f p' k + if dg (K 93) r p' = k then 1 else 0 := by
  unfold shD
  by_cases e : dg (K 93) r p' = k
  · rw [if_pos e, if_pos ⟨h, e⟩]
  · rw [if_neg e, if_neg (fun z => e z.2)]
set_option maxRecDepth 20000 in
theorem shD_ge {K : KT} {f : Nat → Nat → Nat} {r p p' k : Nat} (h : p ≤ p') : shD K f r p p' k = f p' k := by
  unfold shD
  rw [if_neg (fun z => absurd z.1 (by omega)), Nat.add_zero]
section Ask2
variable {d : Nat} {V0 V : VIT} {VL : VLT} {G : VRT} {P : Post} {ext : HL} {K : KT} {dy : Nat} {w : Int32}
set_option maxRecDepth 20000 in
theorem ma_p {r c : Nat} {f : Nat → Nat → Nat} (hM : RK (V0 76) K) (hW : WF K) (hr : r < 4 ^ K 93) (hP : ∀ (V' : VIT) (z5 : Value), FrA V0 V' → shAt K V' (fun p k => f p k + if dg (K 93) r p = k then 1 else 0) → V' 87 = V0 87 → Ex (d + 46) mi263 118 [.ref 74, .int (nI dy), .int w, .int (nI c), .int (nI (r * 4 ^ (6 - K 93))), z5, .retAddr 9, .retAddr 9, .retAddr 9] [] (LY ++ ext) V' VL (vr G) 0 0 P) : ∀ (m p : Nat) (V : VIT), p + m = K 93 → FrA V0 V → shAt K V (shD K f r p) → V 87 = V0 87 → Ex (d + 46) mi263 79 [.ref 74, .int (nI dy), .int w, .int (nI c), .int (nI (r * 4 ^ (6 - K 93))), .int (nI p), .retAddr 9, .retAddr 9, .retAddr 9] [] (LY ++ ext) V VL (vr G) 0 0 P := by
  have h6 := hW.n
  have hl := r6_lt h6 hr
  intro m
  induction m with
  | zero =>
    intro p V hp hF hs h87
    have hM1 : RK (V 76) K := by rw [show V 76 = V0 76 from funext (fun k => hF.kp 76 k (by unfold kpP; omega))]; exact hM
    refine x_iload rfl rfl ?_
    refine x_aload_n rfl rfl ?_
    refine x_getR (u := .ref _) rfl rfl rfl rfl ?_
    refine x_bipushN (q := 93) rfl ?_
    refine x_ialE (j := 93) rfl rfl (rfl) (by omega) (hM1.at 93) ?_
    refine x_icmpN_ge rfl (fun c88 => ?_) (fun c88 => ?_)
    rotate_left
    · exact absurd c88 (by first | decide | omega)
    exact hP V _ hF (fun p' k q1 q2 => by rw [hs p' k q1 q2, shD_lt (by omega)]) h87 | succ m ih =>
    intro p V hp hF hs h87
    have hM1 : RK (V 76) K := by rw [show V 76 = V0 76 from funext (fun k => hF.kp 76 k (by unfold kpP; omega))]; exact hM
    have e2 : dg 6 (r * 4 ^ (6 - K 93)) p = dg (K 93) r p := dg6 h6 (by omega)
    have hd : dg (K 93) r p < 4 := dg_lt
    have hv : V 97 (4 * p + dg (K 93) r p) = nI (f p (dg (K 93) r p)) := by
      rw [hs p _ (by omega) hd, shD_ge (Nat.le_refl _)]
    refine x_iload rfl rfl ?_
    refine x_aload_n rfl rfl ?_
    refine x_getR (u := .ref _) rfl rfl rfl rfl ?_
    refine x_bipushN (q := 93) rfl ?_
    refine x_ialE (j := 93) rfl rfl (rfl) (by omega) (hM1.at 93) ?_
    refine x_icmpN_ge rfl (fun c88 => ?_) (fun c88 => ?_)
    · exact absurd c88 (by first | decide | omega)
    refine x_aload_n rfl rfl ?_
    refine x_getR (u := .ref _) rfl rfl rfl rfl ?_
    refine x_iconstN (q := 4) rfl ?_
    refine x_iload rfl rfl ?_
    refine x_imulN rfl ?_
    refine x_iload rfl rfl ?_
    refine x_iload rfl rfl ?_
    refine x_callS (M' := mi179) (As := [_, _]) (bc1 := 0) (bs1 := 0) (bc2 := 0) (bs2 := 0) rfl rfl rfl rfl ok179 rfl rfl rfl rfl rfl rfl ?_
    refine m_markIn hl (by omega) ?_
    rw [e2]
    refine x_iaddN rfl ?_
    refine x_dup2 rfl rfl rfl ?_
    refine x_ialE (j := 4 * p + dg (K 93) r p) rfl rfl (rfl) (by omega) (hv) ?_
    refine x_iconstN (q := 1) rfl ?_
    refine x_iaddN rfl ?_
    refine x_iasN (j := 4 * p + dg (K 93) r p) rfl rfl (rfl) (by omega) ?_
    refine x_iincN (q := 1) (ls' := [_, _, _, _, _, _, _, _, _]) rfl rfl rfl rfl ?_
    refine x_goto rfl ?_
    skip
    refine ih (p + 1) _ (by omega) (fun a k q1 q2 q3 q4 => by rw [up_ne q3]; exact hF a k q1 q2 q3 q4) (fun p' k q1 q2 => ?_) (by rw [up_ne (by omega)]; exact h87)
    by_cases c1 : 4 * p' + k = 4 * p + dg (K 93) r p
    · have e3 : p' = p := by omega
      have e4 : k = dg (K 93) r p := by omega
      subst e3 e4
      rw [up_at, shD_lt (by omega), if_pos rfl]
    · rw [up_at' c1, hs p' k q1 q2]
      by_cases c2 : p' < p
      · rw [shD_lt c2, shD_lt (by omega)]
      · rw [shD_ge (by omega)]
        by_cases c3 : p' = p
        · subst c3
          rw [shD_lt (by omega), if_neg (fun z => c1 (by rw [z])), Nat.add_zero]
        · rw [shD_ge (by omega)]
set_option maxRecDepth 20000 in
theorem ma_r (hM : RK (V0 76) K) (hW : WF K) (hd4 : dy < 4) (hP : ∀ (V' : VIT) (z4 z5 : Value), FrA V0 V' → shAt K V' (fun p k => ctN (K 93) p k (RwA K dy)) → Ex (d + 46) mi263 130 [.ref 74, .int (nI dy), .int w, .int (nI (RwA K dy).length), z4, z5, .retAddr 9, .retAddr 9, .retAddr 9] [] (LY ++ ext) V' VL (vr G) 0 0 P) : ∀ (m r c x : Nat) (V : VIT) (f : Nat → Nat → Nat) (z5 : Value), x = r * 4 ^ (6 - K 93) → r + m = 4 ^ K 93 → c + (rwF K dy m r).length = (RwA K dy).length → FrA V0 V → OutM K dy V → shAt K V f → (∀ p k, f p k + ctN (K 93) p k (rwF K dy m r) = ctN (K 93) p k (RwA K dy)) → Ex (d + 46) mi263 52 [.ref 74, .int (nI dy), .int w, .int (nI c), .int (nI x), z5, .retAddr 9, .retAddr 9, .retAddr 9] [] (LY ++ ext) V VL (vr G) 0 0 P := by
  have h6 := hW.n
  have h4 := pow4_6 h6
  intro m
  induction m with
  | zero =>
    intro r c x V f z5 hx hr hc hF hO hs he
    subst hx
    have hen := end6 h6 (show r = 4 ^ K 93 by omega)
    have hc2 : c = (RwA K dy).length := hc
    have hs2 : shAt K V (fun p k => ctN (K 93) p k (RwA K dy)) := fun p k q1 q2 => by rw [hs p k q1 q2]; congr 1; exact he p k
    rw [hc2]
    refine x_iload rfl rfl ?_
    refine x_sipushN (q := 4096) rfl ?_
    refine x_icmpN_ge rfl (fun c57 => ?_) (fun c57 => ?_)
    rotate_left
    · exact absurd c57 (by first | decide | omega)
    exact hP V _ _ hF hs2 | succ m ih =>
    intro r c x V f z5 hx hr hc hF hO hs he
    subst hx
    have hrl : r < 4 ^ K 93 := by omega
    have hl := r6_lt h6 hrl
    have hM1 : RK (V 76) K := by rw [show V 76 = V0 76 from funext (fun k => hF.kp 76 k (by unfold kpP; omega))]; exact hM
    cases ho : okR K dy r with
    | true =>
      have er : rwF K dy (m + 1) r = r :: rwF K dy m (r + 1) := if_pos ho
      rw [er, List.length_cons] at hc
      simp only [er] at he
      refine x_iload rfl rfl ?_
      refine x_sipushN (q := 4096) rfl ?_
      refine x_icmpN_ge rfl (fun c57 => ?_) (fun c57 => ?_)
      · exact absurd c57 (by first | decide | omega)
      refine x_aload_n rfl rfl ?_
      refine x_iload rfl rfl ?_
      refine x_iload_n rfl rfl ?_
      refine x_callV (M' := mi260) (As := [_, _]) (bc1 := 0) (bs1 := 0) (bc2 := 0) (bs2 := 0) rfl rfl rfl rfl ok260 rfl rfl (by decide) rfl rfl rfl rfl rfl rfl ?_
      refine m_canHaveBeen hO hM1 hW hd4 hrl ?_
      rw [ho]
      refine x_if_ne rfl (fun c67 => ?_) (fun c67 => ?_)
      rotate_left
      · exact absurd c67 (by first | decide | omega)
      refine x_iincN (q := 1) (ls' := [_, _, _, _, _, _, _, _, _]) rfl rfl rfl rfl ?_
      refine x_iconstN (q := 0) rfl ?_
      refine x_istore (ls' := [_, _, _, _, _, _, _, _, _]) rfl rfl rfl ?_
      skip
      refine ma_p (f := f) hM1 hW hrl (fun V1 z5 hF1 hs1 h87 => ?_) (K 93) 0 V (by omega) (fun _ _ _ _ _ _ => rfl) (fun p' k q1 q2 => by rw [hs p' k q1 q2, shD_ge (by omega)]) rfl
      have hM2 : RK (V1 76) K := by rw [show V1 76 = V 76 from funext (fun k => hF1.kp 76 k (by unfold kpP; omega))]; exact hM1
      refine x_iload rfl rfl ?_
      refine x_aload_n rfl rfl ?_
      refine x_callV (M' := mi261) (As := []) (bc1 := 0) (bs1 := 0) (bc2 := 0) (bs2 := 0) rfl rfl rfl rfl ok261 rfl rfl (by decide) rfl rfl rfl rfl rfl rfl ?_
      refine m_stepOf hM2 hW ?_
      refine x_iaddN rfl ?_
      rw [step6]
      refine x_istore (ls' := [_, _, _, _, _, _, _, _, _]) rfl rfl rfl ?_
      refine x_goto rfl ?_
      exact ih (r + 1) (c + 1) _ V1 _ _ rfl (by omega) (by omega) (fun a k q1 q2 q3 q4 => (hF1 a k q1 q2 q3 q4).trans (hF a k q1 q2 q3 q4)) (by unfold OutM; rw [h87]; exact hO) hs1 (fun p k => by rw [← he p k, show ctN (K 93) p k (r :: rwF K dy m (r + 1)) = (if dg (K 93) r p = k then 1 else 0) + ctN (K 93) p k (rwF K dy m (r + 1)) from rfl]; omega) | false =>
      have hno : ¬ okR K dy r = true := by rw [ho]; decide
      have er : rwF K dy (m + 1) r = rwF K dy m (r + 1) := if_neg hno
      rw [er] at hc
      simp only [er] at he
      refine x_iload rfl rfl ?_
      refine x_sipushN (q := 4096) rfl ?_
      refine x_icmpN_ge rfl (fun c57 => ?_) (fun c57 => ?_)
      · exact absurd c57 (by first | decide | omega)
      refine x_aload_n rfl rfl ?_
      refine x_iload rfl rfl ?_
      refine x_iload_n rfl rfl ?_
      refine x_callV (M' := mi260) (As := [_, _]) (bc1 := 0) (bs1 := 0) (bc2 := 0) (bs2 := 0) rfl rfl rfl rfl ok260 rfl rfl (by decide) rfl rfl rfl rfl rfl rfl ?_
      refine m_canHaveBeen hO hM1 hW hd4 hrl ?_
      rw [ho]
      refine x_if_ne rfl (fun c67 => ?_) (fun c67 => ?_)
      · exact absurd c67 (by first | decide | omega)
      refine x_goto rfl ?_
      refine x_iload rfl rfl ?_
      refine x_aload_n rfl rfl ?_
      refine x_callV (M' := mi261) (As := []) (bc1 := 0) (bs1 := 0) (bc2 := 0) (bs2 := 0) rfl rfl rfl rfl ok261 rfl rfl (by decide) rfl rfl rfl rfl rfl rfl ?_
      refine m_stepOf hM1 hW ?_
      refine x_iaddN rfl ?_
      rw [step6]
      refine x_istore (ls' := [_, _, _, _, _, _, _, _, _]) rfl rfl rfl ?_
      refine x_goto rfl ?_
      exact ih (r + 1) c _ V f _ rfl (by omega) hc hF hO hs he
set_option maxRecDepth 20000 in
theorem ma_k {p N : Nat} {b l : Int32} {g : Nat → Nat} (hp : p < K 93) (h6 : K 93 ≤ 6) (hg : ∀ k, k < 4 → V 97 (4 * p + k) = nI (g k) ∧ g k ≤ 4096) (hP : ∀ z8 : Value, Ex (d + 46) mi263 193 [.ref 74, .int (nI dy), .int w, .int (nI N), .int b, .int l, .int (nI p), .int (nI (mx4 g)), z8] [] (LY ++ ext) V VL (vr G) 0 0 P) : ∀ (m k : Nat), k + m = 4 → Ex (d + 46) mi263 162 [.ref 74, .int (nI dy), .int w, .int (nI N), .int b, .int l, .int (nI p), .int (nI (mxk g k)), .int (nI k)] [] (LY ++ ext) V VL (vr G) 0 0 P := by
  intro m
  induction m with
  | zero =>
    intro k hk
    have e : k = 4 := by omega
    subst e
    rw [mxk4]
    refine x_iload rfl rfl ?_
    refine x_iconstN (q := 4) rfl ?_
    refine x_icmpN_ge rfl (fun c165 => ?_) (fun c165 => ?_)
    rotate_left
    · exact absurd c165 (by first | decide | omega)
    exact hP _ | succ m ih =>
    intro k hk
    have hk4 : k < 4 := by omega
    have hl := mxk_le (f := g) (fun k h => (hg k h).2) k (by omega)
    have hgk := (hg k hk4).2
    refine x_iload rfl rfl ?_
    refine x_iconstN (q := 4) rfl ?_
    refine x_icmpN_ge rfl (fun c165 => ?_) (fun c165 => ?_)
    · exact absurd c165 (by first | decide | omega)
    refine x_iload rfl rfl ?_
    refine x_aload_n rfl rfl ?_
    refine x_getR (u := .ref _) rfl rfl rfl rfl ?_
    refine x_iconstN (q := 4) rfl ?_
    refine x_iload rfl rfl ?_
    refine x_imulN rfl ?_
    refine x_iload rfl rfl ?_
    refine x_iaddN rfl ?_
    refine x_ialE (j := 4 * p + k) rfl rfl (rfl) (by omega) ((hg k hk4).1) ?_
    refine x_callS (M' := mi153) (As := [_, _]) (bc1 := 0) (bs1 := 0) (bc2 := 0) (bs2 := 0) rfl rfl rfl rfl ok153 rfl rfl rfl rfl rfl rfl ?_
    refine m_greater ?_
    rw [gr_n (by omega) (by omega)]
    refine x_istore (ls' := [_, _, _, _, _, _, _, _, _]) rfl rfl rfl ?_
    refine x_iincN (q := 1) (ls' := [_, _, _, _, _, _, _, _, _]) rfl rfl rfl rfl ?_
    refine x_goto rfl ?_
    exact ih (k + 1) (by omega)
set_option maxRecDepth 20000 in
theorem ma_b (hM : RK (V 76) K) (hW : WF K) (hs : shAt K V (fun p k => ctN (K 93) p k (RwA K dy))) (hn : 0 < (RwA K dy).length) (hP : ∀ (b : Option (Nat × Nat)) (l : Nat) (z6 z7 z8 : Value), b = bsK K dy (K 93) 0 none → l = b.elim 1000000 (fun x => x.2) → Ex (d + 46) mi263 217 [.ref 74, .int (nI dy), .int w, .int (nI (RwA K dy).length), .int (agI (b.map (fun x => x.1))), .int (nI l), z6, z7, z8] [] (LY ++ ext) V VL (vr G) 0 0 P) : ∀ (m p : Nat) (b : Option (Nat × Nat)) (z7 z8 : Value), p + m = K 93 → bOK K dy b → bsK K dy m p b = bsK K dy (K 93) 0 none → Ex (d + 46) mi263 140 [.ref 74, .int (nI dy), .int w, .int (nI (RwA K dy).length), .int (agI (b.map (fun x => x.1))), .int (nI (b.elim 1000000 (fun x => x.2))), .int (nI p), z7, z8] [] (LY ++ ext) V VL (vr G) 0 0 P := by
  have h6 := hW.n
  have hl := RwA_len hW (dy := dy)
  intro m
  induction m with
  | zero =>
    intro p b z7 z8 hp hb he
    refine x_iload rfl rfl ?_
    refine x_aload_n rfl rfl ?_
    refine x_getR (u := .ref _) rfl rfl rfl rfl ?_
    refine x_bipushN (q := 93) rfl ?_
    refine x_ialE (j := 93) rfl rfl (rfl) (by omega) (hM.at 93) ?_
    refine x_icmpN_ge rfl (fun c149 => ?_) (fun c149 => ?_)
    rotate_left
    · exact absurd c149 (by first | decide | omega)
    exact hP b _ _ _ _ he rfl | succ m ih =>
    intro p b z7 z8 hp hb he
    have hml := mostK_le hW (dy := dy) (p := p)
    have hbl : b.elim 1000000 (fun x => x.2) ≤ 1000000 := by
      cases b with
      | none => exact Nat.le_refl _
      | some x => have := (hb x rfl).2; have := mostK_le hW (dy := dy) (p := x.1); show x.2 ≤ 1000000; omega
    have he2 : bsK K dy m (p + 1) (if (b.elim 1000000 (fun x => x.2)) ≤ mostK K dy p then b else some (p, mostK K dy p)) = bsK K dy (K 93) 0 none := he
    have hnew : bOK K dy (some (p, mostK K dy p)) := fun x hx => by rw [← Option.some.inj hx]; exact ⟨by show p < K 93; omega, rfl⟩
    refine x_iload rfl rfl ?_
    refine x_aload_n rfl rfl ?_
    refine x_getR (u := .ref _) rfl rfl rfl rfl ?_
    refine x_bipushN (q := 93) rfl ?_
    refine x_ialE (j := 93) rfl rfl (rfl) (by omega) (hM.at 93) ?_
    refine x_icmpN_ge rfl (fun c149 => ?_) (fun c149 => ?_)
    · exact absurd c149 (by first | decide | omega)
    refine x_iload_n rfl rfl ?_
    refine x_ifN_le rfl (fun c153 => ?_) (fun c153 => ?_)
    · exact absurd c153 (by first | decide | omega)
    refine x_iconstN (q := 0) rfl ?_
    refine x_istore (ls' := [_, _, _, _, _, _, _, _, _]) rfl rfl rfl ?_
    refine x_iconstN (q := 0) rfl ?_
    refine x_istore (ls' := [_, _, _, _, _, _, _, _, _]) rfl rfl rfl ?_
    skip
    refine ma_k (g := fun k => ctN (K 93) p k (RwA K dy)) (by omega) h6 (fun k hk => ⟨hs p k (by omega) hk, Nat.le_trans (ctN_le _) hl⟩) (fun z8 => ?_) 4 0 (by omega)
    show Ex (d + 46) mi263 193 [.ref 74, .int (nI dy), .int w, .int (nI (RwA K dy).length), .int (agI (b.map (fun x => x.1))), .int (nI (b.elim 1000000 (fun x => x.2))), .int (nI p), .int (nI (mostK K dy p)), z8] [] (LY ++ ext) V VL (vr G) 0 0 P
    by_cases c : b.elim 1000000 (fun x => x.2) ≤ mostK K dy p
    · rw [if_pos c] at he2
      refine x_iload rfl rfl ?_
      refine x_iload rfl rfl ?_
      refine x_icmpN_lt rfl (fun c197 => ?_) (fun c197 => ?_)
      · exact absurd c197 (by first | decide | omega)
      refine x_goto rfl ?_
      refine x_iincN (q := 1) (ls' := [_, _, _, _, _, _, _, _, _]) rfl rfl rfl rfl ?_
      refine x_goto rfl ?_
      exact ih (p + 1) b _ _ (by omega) hb he2
    · rw [if_neg c] at he2
      refine x_iload rfl rfl ?_
      refine x_iload rfl rfl ?_
      refine x_icmpN_lt rfl (fun c197 => ?_) (fun c197 => ?_)
      rotate_left
      · exact absurd c197 (by first | decide | omega)
      refine x_iload rfl rfl ?_
      refine x_istore (ls' := [_, _, _, _, _, _, _, _, _]) rfl rfl rfl ?_
      refine x_iload rfl rfl ?_
      refine x_istore (ls' := [_, _, _, _, _, _, _, _, _]) rfl rfl rfl ?_
      refine x_iincN (q := 1) (ls' := [_, _, _, _, _, _, _, _, _]) rfl rfl rfl rfl ?_
      refine x_goto rfl ?_
      exact ih (p + 1) (some (p, mostK K dy p)) _ _ (by omega) hnew he2
set_option maxRecDepth 20000 in
theorem m_ask_bad {c : Int32} (h : hasF 4 c = 0 ∨ liesF w 0 1 = false) (hP : P (some (.int (-1))) (LY ++ ext) V VL (vr G)) : Ex (d + 46) mi263 0 (entL [.ref 74, .int c, .int w] 9) [] (LY ++ ext) V VL (vr G) 0 0 P := by
  refine x_iload_n rfl rfl ?_
  refine x_callS (M' := mi166) (As := [_]) (bc1 := 0) (bs1 := 0) (bc2 := 0) (bs2 := 0) rfl rfl rfl rfl ok166 rfl rfl rfl rfl rfl rfl ?_
  refine m_isDayK ?_
  refine x_if_eq rfl (fun c4 => ?_) (fun c4 => ?_)
  · refine x_iconst rfl ?_
    refine x_iret rfl rfl ?_
    exact hP
  · refine x_iload_n rfl rfl ?_
    refine x_iconst rfl ?_
    refine x_iconst rfl ?_
    refine x_callS (M' := mi152) (As := [_, _, _]) (bc1 := 0) (bs1 := 0) (bc2 := 0) (bs2 := 0) rfl rfl rfl rfl ok152 rfl rfl rfl rfl rfl rfl ?_
    refine m_lies ?_
    refine x_if_ne rfl (fun c13 => ?_) (fun c13 => ?_)
    · exact absurd h (fun z => z.elim c4 (fun z => by rw [z] at c13; exact c13 rfl))
    · refine x_iconst rfl ?_
      refine x_iret rfl rfl ?_
      exact hP
set_option maxRecDepth 20000 in
theorem m_ask {k : Nat} (hk : k ≤ 1) (hw : w = nI k) (hM : RK (V 76) K) (hW : WF K) (hL : LwK K) (hd4 : dy < 4) (hP : ∀ V' : VIT, FrA V V' → P (some (.int (agI ((bsA K dy).map (fun x => if k = 0 then x.1 else x.2))))) (LY ++ ext) V' VL (vr G)) : Ex (d + 46) mi263 0 (entL [.ref 74, .int (nI dy), .int w] 9) [] (LY ++ ext) V VL (vr G) 0 0 P := by
  have h6 := hW.n
  have hl := RwA_len hW (dy := dy)
  have hlw : liesF w 0 1 = true := by
    rw [hw]
    rcases (show k = 0 ∨ k = 1 by omega) with rfl | rfl <;> decide
  refine x_iload_n rfl rfl ?_
  refine x_callS (M' := mi166) (As := [_]) (bc1 := 0) (bs1 := 0) (bc2 := 0) (bs2 := 0) rfl rfl rfl rfl ok166 rfl rfl rfl rfl rfl rfl ?_
  refine m_isDayK ?_
  rw [show (4 : Int32) = nI 4 from rfl, hasF_in hd4 (by omega)]
  refine x_if_eq rfl (fun c4 => ?_) (fun c4 => ?_)
  · exact absurd c4 (by first | decide | omega)
  refine x_iload_n rfl rfl ?_
  refine x_iconst rfl ?_
  refine x_iconst rfl ?_
  refine x_callS (M' := mi152) (As := [_, _, _]) (bc1 := 0) (bs1 := 0) (bc2 := 0) (bs2 := 0) rfl rfl rfl rfl ok152 rfl rfl rfl rfl rfl rfl ?_
  refine m_lies ?_
  rw [hlw]
  refine x_if_ne rfl (fun c13 => ?_) (fun c13 => ?_)
  rotate_left
  · exact absurd c13 (by first | decide | omega)
  refine x_aload_n rfl rfl ?_
  refine x_iload_n rfl rfl ?_
  refine x_callV (M' := mi233) (As := [_]) (bc1 := 0) (bs1 := 0) (bc2 := 0) (bs2 := 0) rfl rfl rfl rfl ok233 rfl rfl (by decide) rfl rfl rfl rfl rfl rfl ?_
  refine m_laysTalks hM hW hL hd4 (fun V1 hF1 hO1 => ?_)
  refine x_iconstN (q := 0) rfl ?_
  refine x_istore_n (ls' := [_, _, _, _, _, _, _, _, _]) rfl rfl rfl ?_
  refine x_iconstN (q := 0) rfl ?_
  refine x_istore (ls' := [_, _, _, _, _, _, _, _, _]) rfl rfl rfl ?_
  skip
  have hM1 : RK (V1 76) K := by rw [hF1.row 76 (by omega) (by omega) (by omega)]; exact hM
  -- from the best on
  have hend : ∀ (V2 : VIT) (b : Option (Nat × Nat)) (l : Nat) (z3 z6 z7 z8 : Value), FrA V V2 → b = bsA K dy → bOK K dy b → (∀ x, b = some x → l = x.2) → Ex (d + 46) mi263 217 [.ref 74, .int (nI dy), .int w, z3, .int (agI (b.map (fun x => x.1))), .int (nI l), z6, z7, z8] [] (LY ++ ext) V2 VL (vr G) 0 0 P := by
    intro V2 b l z3 z6 z7 z8 hF hb hok hll
    have hP2 := hP V2 hF
    rw [← hb] at hP2
    cases b with
    | none => 
      refine x_iload rfl rfl ?_
      refine x_iconst rfl ?_
      refine x_icmp_eq rfl (fun c220 => ?_) (fun c220 => ?_)
      rotate_left
      · exact absurd rfl c220
      refine x_iload rfl rfl ?_
      refine x_goto rfl ?_
      refine x_iret rfl rfl ?_
      exact hP2 | some x =>
      have hx1 := (hok x rfl).1
      have hle := hll x rfl
      subst hle
      rcases (show k = 0 ∨ k = 1 by omega) with e | e
      · subst e
        subst hw
        refine x_iload rfl rfl ?_
        refine x_iconst rfl ?_
        refine x_icmp_eq rfl (fun c220 => ?_) (fun c220 => ?_)
        · exact absurd c220 (nI_m1 (show x.1 < 2147483648 by omega))
        refine x_iload_n rfl rfl ?_
        refine x_ifN_ne rfl (fun c224 => ?_) (fun c224 => ?_)
        · exact absurd c224 (by first | decide | omega)
        refine x_iload rfl rfl ?_
        refine x_goto rfl ?_
        refine x_iret rfl rfl ?_
        exact hP2
      · subst e
        subst hw
        refine x_iload rfl rfl ?_
        refine x_iconst rfl ?_
        refine x_icmp_eq rfl (fun c220 => ?_) (fun c220 => ?_)
        · exact absurd c220 (nI_m1 (show x.1 < 2147483648 by omega))
        refine x_iload_n rfl rfl ?_
        refine x_ifN_ne rfl (fun c224 => ?_) (fun c224 => ?_)
        rotate_left
        · exact absurd c224 (by first | decide | omega)
        refine x_iload rfl rfl ?_
        refine x_iret rfl rfl ?_
        exact hP2
  have hz : ∀ (m i : Nat) (V2 : VIT), i + m = 24 → FrA V V2 → OutM K dy V2 → (∀ q, q < i → V2 97 q = nI 0) → Ex (d + 46) mi263 28 [.ref 74, .int (nI dy), .int w, .int (nI 0), .int (nI i), .retAddr 9, .retAddr 9, .retAddr 9, .retAddr 9] [] (LY ++ ext) V2 VL (vr G) 0 0 P := by
    intro m
    induction m with
    | zero =>
      intro i V2 hi hF hO h0
      have hM2 : RK (V2 76) K := by rw [show V2 76 = V 76 from funext (fun k => hF.kp 76 k (by unfold kpP; omega))]; exact hM
      refine x_iload rfl rfl ?_
      refine x_bipushN (q := 24) rfl ?_
      refine x_icmpN_ge rfl (fun c32 => ?_) (fun c32 => ?_)
      rotate_left
      · exact absurd c32 (by first | decide | omega)
      refine x_iconstN (q := 0) rfl ?_
      refine x_istore (ls' := [_, _, _, _, _, _, _, _, _]) rfl rfl rfl ?_
      skip
      refine ma_r hM2 hW hd4 (fun V3 z4 z5 hF3 hs3 => ?_) (4 ^ K 93) 0 0 0 V2 (fun _ _ => 0) _ (Nat.zero_mul _).symm (by omega) (Nat.zero_add _) (fun _ _ _ _ _ _ => rfl) hO (fun p k q1 q2 => h0 _ (by omega)) (fun p k => Nat.zero_add _)
      have hF' : FrA V V3 := fun a k q1 q2 q3 q4 => (hF3 a k q1 q2 q3 q4).trans (hF a k q1 q2 q3 q4)
      have hM3 : RK (V3 76) K := by rw [show V3 76 = V 76 from funext (fun k => hF'.kp 76 k (by unfold kpP; omega))]; exact hM
      by_cases c : (RwA K dy).length = 0
      · have eb : (none : Option (Nat × Nat)) = bsA K dy := by
          unfold bsA
          rw [if_pos c]
        rw [c]
        refine x_iconst rfl ?_
        refine x_istore (ls' := [_, _, _, _, _, _, _, _, _]) rfl rfl rfl ?_
        refine x_ldcN (q := 1000000) rfl ?_
        refine x_istore (ls' := [_, _, _, _, _, _, _, _, _]) rfl rfl rfl ?_
        refine x_iconstN (q := 0) rfl ?_
        refine x_istore (ls' := [_, _, _, _, _, _, _, _, _]) rfl rfl rfl ?_
        refine x_iload rfl rfl ?_
        refine x_aload_n rfl rfl ?_
        refine x_getR (u := .ref _) rfl rfl rfl rfl ?_
        refine x_bipushN (q := 93) rfl ?_
        refine x_ialE (j := 93) rfl rfl (rfl) (by omega) (hM3.at 93) ?_
        refine x_icmpN_ge rfl (fun c149 => ?_) (fun c149 => ?_)
        · exact hend V3 none 1000000 _ _ _ _ hF' eb (fun x hx => by cases hx) (fun x hx => by cases hx)
        · refine x_iload_n rfl rfl ?_
          refine x_ifN_le rfl (fun c153 => ?_) (fun c153 => ?_)
          rotate_left
          · exact absurd c153 (by first | decide | omega)
          exact hend V3 none 1000000 _ _ _ _ hF' eb (fun x hx => by cases hx) (fun x hx => by cases hx)
      · have eb : bsK K dy (K 93) 0 none = bsA K dy := by
          unfold bsA
          rw [if_neg c]
        refine x_iconst rfl ?_
        refine x_istore (ls' := [_, _, _, _, _, _, _, _, _]) rfl rfl rfl ?_
        refine x_ldcN (q := 1000000) rfl ?_
        refine x_istore (ls' := [_, _, _, _, _, _, _, _, _]) rfl rfl rfl ?_
        refine x_iconstN (q := 0) rfl ?_
        refine x_istore (ls' := [_, _, _, _, _, _, _, _, _]) rfl rfl rfl ?_
        refine ma_b hM3 hW hs3 (by omega) (fun b l z6 z7 z8 hb hle => ?_) (K 93) 0 none _ _ (by omega) (fun x hx => by cases hx) rfl
        exact hend V3 b l _ _ _ _ hF' (hb.trans eb) (by rw [hb, eb]; exact bsA_ok) (fun x hx => by rw [hle, hx]; rfl)
    | succ m ih =>
      intro i V2 hi hF hO h0
      refine x_iload rfl rfl ?_
      refine x_bipushN (q := 24) rfl ?_
      refine x_icmpN_ge rfl (fun c32 => ?_) (fun c32 => ?_)
      · exact absurd c32 (by first | decide | omega)
      refine x_aload_n rfl rfl ?_
      refine x_getR (u := .ref _) rfl rfl rfl rfl ?_
      refine x_iload rfl rfl ?_
      refine x_iconstN (q := 0) rfl ?_
      refine x_iasN (j := i) rfl rfl (rfl) (by omega) ?_
      refine x_iincN (q := 1) (ls' := [_, _, _, _, _, _, _, _, _]) rfl rfl rfl rfl ?_
      refine x_goto rfl ?_
      exact ih (i + 1) _ (by omega) (fun a k q1 q2 q3 q4 => by rw [up_ne q3]; exact hF a k q1 q2 q3 q4) (by unfold OutM; rw [up_ne (by omega)]; exact hO) (fun q hq => by by_cases c : q = i; subst c; exact up_at; rw [up_at' c]; exact h0 q (by omega))
  exact hz 24 0 V1 (by omega) (fun a k q1 q2 q3 q4 => hF1 a k q1 q2 q4) hO1 (fun q hq => absurd hq (by omega))
end Ask2
section Join16
variable {j : Nat} {lay : HL} {VI : VIT} {VL : VLT} {VR : VRT}
set_option maxRecDepth 20000 in
theorem j_ask {c w : Int32} (h : Inv j lay VI VL VR) : Pr 100 mi136 mi263 [.int c, .int w] lay VI VL VR (Inv (j + 1)) := by
  obtain ⟨ext, G, K, tn, T, u, US, lg, rfl, rfl, hS⟩ := h
  have hI := hS.next.inv (VL := VL)
  have hW := hS.1
  have hX := hS.2.1
  have hM := hS.2.2.1
  have hL := hS.2.2.2.2.2.2.2.2.2.1
  have h6 := hW.n
  have hM' : ∀ V1 : VIT, FrW VI V1 → RK (V1 76) K := fun V1 hF => by rw [show V1 76 = VI 76 from funext (fun k => hF.kp 76 k (by unfold kpP; omega))]; exact hM
  have hfin : ∀ V1 V2 : VIT, FrW VI V1 → FrA V1 V2 → Inv (j + 1) (LY ++ ext) V2 VL (vr G) := fun V1 V2 h1 h2 => (hS.scratch (fun a k q => (h2.kp a k q).trans (h1.kp a k q))).inv
  by_cases hb : hasF 4 c = 0 ∨ w < 0 ∨ 1 < w
  · exact Pr_read (-1) (fun P q => x_ask_bad hb q) (fun P q => m_ask_bad (hb.elim Or.inl (fun z => Or.inr (by simp only [liesF, decide_eq_false_iff_not, not_and]; exact fun z1 => z.elim (fun z => absurd z z1) (fun z => Classical.not_not.mpr z)))) q) hI
  rcases has_cases (n := 4) (by omega) c with h1 | ⟨dy, hd4, rfl⟩
  · exact absurd (Or.inl h1) hb
  have w0 : ¬ w < 0 := fun z => hb (Or.inr (Or.inl z))
  have w2 : ¬ 2 ≤ w := fun z => hb (Or.inr (Or.inr (by rw [Int32.le_iff_toInt_le] at z; rw [Int32.lt_iff_toInt_lt]; have e2 : (2 : Int32).toInt = 2 := rfl; have e1 : (1 : Int32).toInt = 1 := rfl; omega)))
  rcases in2 w0 w2 with rfl | rfl
  · exact ExS.budget (bc := 0) (bs := 0) (x_ask0 hX hW hL hd4 (fun V1 hF => ⟨_, ext, rfl, rfl, m_ask (k := 0) (by omega) rfl (hM' V1 hF) hW hL.K hd4 (fun V2 hT => ⟨rfl, hfin V1 V2 hF hT⟩)⟩)) (by omega) (by omega)
  · exact ExS.budget (bc := 0) (bs := 0) (x_ask1 hX hW hL hd4 (fun V1 hF => ⟨_, ext, rfl, rfl, m_ask (k := 1) (by omega) rfl (hM' V1 hF) hW hL.K hd4 (fun V2 hT => ⟨rfl, hfin V1 V2 hF hT⟩)⟩)) (by omega) (by omega)
end Join16
